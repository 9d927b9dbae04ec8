/-! NODES: store, dropAll, readDisk, wake, sleep, hear, work for every state -/

def fuB (x : Int32) : Int32 := if x = 32 then 1 else 0
theorem c_23E {L : Nat} {xs : Nat → Int32} {fr lo : Nat} {h : ax_H} {dk da db dc dd : Nat} {dn : Int32} (gd0 : ax_g h dk = some (.inr (8, [.ref da, .ref db, .ref dc, .ref dd, .int dn]))) : ax_M L xs 23 fr lo [.ref dk] h (fun r h' => r = some (.int (fuB dn)) ∧ h' = h) := by
  show ax_A (ax_step L xs) ((23, 0, fr, lo), [(0, .ref dk)], [], h) _
  refine ar_aload_n 1 d_23_0 rfl rfl ?_
  refine ar_getf 4 d_23_1 rfl (ci := 8) (k := 4) rfl gd0 rfl ?_
  refine ar_bipush 6 (v := 32) d_23_4 rfl (by decide) ?_
  refine ar_icmp_ne 13 9 d_23_6 (by decide) rfl (fun c1 => ?_) (fun c1 => ?_)
  · refine ar_iconst 14 (v := 0) d_23_13 rfl (by decide) ?_
    exact ar_iret d_23_14 rfl rfl (⟨by rw [show fuB dn = 0 from if_neg c1], rfl⟩)
  · refine ar_iconst 10 (v := 1) d_23_9 rfl (by decide) ?_
    refine ar_goto 14 d_23_10 (by decide) ?_
    exact ar_iret d_23_14 rfl rfl (⟨by rw [show fuB dn = 1 from if_pos (Decidable.not_not.mp c1)], rfl⟩)
def isF (x : Int32) : Int32 := if x < 0 then 0 else 1
theorem c_57E {L : Nat} {xs : Nat → Int32} {fr lo : Nat} {h : ax_H} {dk da db dc dd : Nat} {dn : Int32} {ow : Nat → Int32} {i : Nat} (hi : i < 280) (hF : ax_hs h [(dk, .inr (8, [.ref da, .ref db, .ref dc, .ref dd, .int dn])), (dd, .inl (0, 280, .inl ow))]) : ax_M L xs 57 fr lo [.ref dk, .int (nI i)] h (fun r h' => r = some (.int (isF (ow i))) ∧ h' = h) := c_57 hi hF
theorem wrF_st {wf rf ff : Nat → Int32} {c i : Nat} : ¬ fstB (wrF wf rf c (ostB ff i) (c * 128)) = lstB (ff (i * 128 + 127)) := by
  rw [wrF_0]
  exact fst_ost ff i
theorem erF_st {rf : Nat → Int32} {c : Nat} : fstB (erF rf c (c * 128)) = 0 := by
  rw [show c * 128 = c * 128 + 0 from rfl, erF_in (by omega)]
  decide
theorem ms_at.put {h : ax_H} {a x : Nat} {c : va_E} {u b : Nat → Int32} (hm : ms_at h a u b) (h1 : x ≠ a) (h2 : x ≠ a + 1) : ms_at (ax_put h x c) a u b := ⟨(ax_fr.rf (A := fun y => y = x)).put rfl |>.g hm.1 (fun z => h1 z.symm), (ax_fr.rf (A := fun y => y = x)).put rfl |>.g hm.2 (fun z => h2 z.symm)⟩
theorem NeT.post2 {L : Nat} {xs : Nat → Int32} {fr lo : Nat} {Z : ZT} {h : ax_H} {n q : Nat} {u b : Nat → Int32} {Y : List Mg} {kd fm tt ep st : Int32} (hN : NeT Z h n q u b Y) : ax_M L xs 36 fr lo [.ref n, .int kd, .int fm, .int tt, .int ep, .int st] h (fun r h2 => ∃ (m : Nat) (bm : Nat → Int32), m < 130 ∧ m ≠ q ∧ r = some (.ref (n + 1 + 1 + 2 * m)) ∧ ms_at h2 (n + 1 + 1 + 2 * m) (mg kd fm tt ep st) bm ∧ (∀ (h' : ax_H) (u' b' : Nat → Int32) (y' : Mg), ax_fr (fun x => x = n + 1 + 1 + 2 * m ∨ x = n + 1 + 1 + 2 * m + 1) h2 h' → ms_at h' (n + 1 + 1 + 2 * m) u' b' → MI Z (u', b') → smM (u', b') y' → NeT Z h' n q u b (pst Y y')) ∧ ax_fr (NTA n (n + 1)) h h2 ∧ h2.1 = h.1 ∧ h2.2.1 = h.2.1 ∧ ms_at h2 (n + 1 + 1 + 2 * q) u b) := by
  obtain ⟨ids, ms, k1, k2⟩ := hN
  refine ax_A.post (c_36H k1) (fun r h2 hq => ?_)
  obtain ⟨m, bm, ids', m1, m2, m3, m4, m5, m6, m7, m8⟩ := hq
  exact ⟨m, bm, m1, m3, m2, m4, fun h' u' b' y' e1 e2 e3 e4 => ⟨ids', _, m5 h' u' b' e1 e2, pst_mem k2.1 e3, smL.pst k2.2 e4⟩, m6, m7, m8, (m5 h2 _ _ ax_fr.rf m4).read.1⟩
theorem sm_one {u b b' : Nat → Int32} {x : Int32} (h : u 0 = 5 ∨ u 0 = 11 ∨ u 0 = 12) (h7 : u 7 = 1) : smM (u, upd b 0 x) (u, upd b' 0 x) := sm_cnt (m := 1) h h7 (by decide) (fun j hj => by
  rw [show j = 0 by omega, pk_us, pk_us])
def F_59 (nn gg : Nat) (C me : Int32) (f u b : Nat → Int32) (D : Nat → Nat → Int32) (K A : Int64) (Y : List Mg)  : St :=
  if sloB (D 6) (u 5) = -1 then
    if D 1 4 = 32 then
      bnS (F_60 nn gg C me f u b D K A Y) (fun D2 K2 A2 Y2 =>
        if freB (D2 6) (D2 5) = -1 then
          (D2, K2, A2, Y2)
        else
          bnN ((freB (D2 6) (D2 5)).toNatClampNeg) (fun fr_ =>
            bnN ((D2 1 4).toNatClampNeg) (fun c =>
              (va_up (va_up (va_up (va_up (va_up D2 1 (upd (D2 1) 4 (nI (c + 1)))) 3 (wrF b (D2 3) c (ostB (D2 2) fr_))) 4 (upd (D2 4) c (nI fr_))) 5 (upd (D2 5) fr_ (nI c))) 6 (upd (D2 6) fr_ (u 5)), K2, A2, Y2))))
    else
      if freB (D 6) (D 5) = -1 then
        (D, K, A, Y)
      else
        bnN ((freB (D 6) (D 5)).toNatClampNeg) (fun fr_ =>
          bnN ((D 1 4).toNatClampNeg) (fun c =>
            (va_up (va_up (va_up (va_up (va_up D 1 (upd (D 1) 4 (nI (c + 1)))) 3 (wrF b (D 3) c (ostB (D 2) fr_))) 4 (upd (D 4) c (nI fr_))) 5 (upd (D 5) fr_ (nI c))) 6 (upd (D 6) fr_ (u 5)), K, A, Y)))
  else
    bnN ((sloB (D 6) (u 5)).toNatClampNeg) (fun j1 =>
      if ¬ (isF (D 5 j1)) = 0 then
        (D, K, A, Y)
      else
        (D, K, A, pst Y (va_up (mg 11 me (nof f 0 (D 0 8) nn (0 * nn) 0) (D 0 7) (D 0 8)) 7 1, upd (fun _ => 0) 0 (u 5))))
set_option maxRecDepth 100000 in
theorem s_59 {L : Nat} {xs : Nat → Int32} {fr lo : Nat} {Z : ZT} {n nd nn gg : Nat} {C me : Int32} {f : Nat → Int32} {q : Nat} {u b : Nat → Int32} {uv : Int32} {h0 h : ax_H} {D : Nat → Nat → Int32} {K A : Int64} {Y : List Mg}  (hfr : 4 ≤ fr) (hlo : 120 ≤ lo) (hC : CS n nd nn gg f) (hS : NS Z n nd nn gg C me f q u b uv h0 h D K A Y) (hI : NI Z nn D) (hup : ¬ uv = 0) (hm : ¬ u 5 = -1 → b 1 = u 5 ∧ gd Z b 0) : ax_M L xs 59 fr lo [.ref nd, .ref (n + 1 + 1 + 2 * q)] h (fun r h' => r = none ∧ PS Z n nd nn gg C me f q u b uv h0 h' (fun D' K' A' Y' => (D', K', A', Y') = F_59 nn gg C me f u b D K A Y ∧ True)) := by
  have hC0 := hC
  show ax_A (ax_step L xs) ((59, 0, fr, lo), [(0, .ref nd), (1, .ref (n + 1 + 1 + 2 * q))], [], h) _
  obtain ⟨hnd, hn0, hnn3, hnn, hgg1, hgg, hRg⟩ := hC
  obtain ⟨hF, hN, hf, hn, hs, hp0, hu0⟩ := hS
  replace hF : ax_hs h [cNd n nd me D, cDk nd D, cAr nd 2 35840 D, cAr nd 3 4096 D, cAr nd 4 32 D, cAr nd 5 280 D, cAr nd 6 280 D, cLd n nd me D A, cAr nd 8 16 D, cAr nd 9 280 D, cTb nd gg D K, cAr nd 11 48 D, cAr nd 12 48 D, cAr nd 13 48 D, cAr nd 14 2400 D, cAr nd 15 512 D, cAr nd 16 961 D, cAr nd 17 961 D, cWk nd D, cWa nd D, cAr nd 20 612 D, cAr nd 21 1152 D, cRk n nn gg C, cOr n nn gg f] := hF
  refine ar_aload_n 1 d_59_0 rfl rfl ?_
  refine ar_aload_n 2 d_59_1 rfl rfl ?_
  refine ar_getf 5 d_59_2 rfl (ci := 2) (k := 5) rfl hN.mgc rfl ?_
  refine ar_call (r := []) (na := 0) (kd := 0) (cm := 22) (fr2 := fr - 1) (lo2 := lo - 22) 8 d_59_5 (ar_hoV (as := [.int (u 5)]) rfl rfl rfl (hF.at 0 rfl)) rfl (by omega) (show lo - 22 + (19 + 3) = lo by omega) (Nat.le_of_ble_eq_true rfl) (Nat.le_of_ble_eq_true rfl) (c_22E (hF.sub (F' := [cNd n nd me D, cAr nd 6 280 D]) [0, 6] rfl rfl)) ?_
  intro v hh hq
  obtain ⟨rfl, ehh⟩ := hq
  rw [ehh]
  clear ehh
  rcases sloB_or (D 6) (u 5) with ⟨ey1, hno1⟩ | ⟨j1, hj1, ey1, htj1⟩
  · refine ar_top (x' := -1) (ey1) ?_
    refine ar_istore_n 9 [(0, .ref nd), (1, .ref (n + 1 + 1 + 2 * q)), (2, .int (-1))] d_59_8 rfl (by decide) rfl ?_
    refine ar_iload_n 10 d_59_9 rfl rfl ?_
    refine ar_if_ge 61 13 d_59_10 (by decide) rfl (fun c => absurd c (by decide)) (fun _ => ?_)
    refine ar_aload_n 14 d_59_13 rfl rfl ?_
    refine ar_getf 17 d_59_14 rfl (ci := 7) (k := 3) rfl (hF.at 0 rfl) rfl ?_
    refine ar_call (r := []) (na := 0) (kd := 0) (cm := 23) (fr2 := fr - 1) (lo2 := lo - 20) 20 d_59_17 (ar_hoV (as := []) rfl rfl rfl (hF.at 1 rfl)) rfl (by omega) (show lo - 20 + (19 + 1) = lo by omega) (Nat.le_of_ble_eq_true rfl) (Nat.le_of_ble_eq_true rfl) (c_23E (hF.at 1 rfl)) ?_
    intro v hh hq
    obtain ⟨rfl, ehh⟩ := hq
    rw [ehh]
    clear ehh
    by_cases hfu : D 1 4 = 32
    · refine ar_top (x' := 1) (if_pos hfu) ?_
      refine ar_if_eq 27 23 d_59_20 (by decide) rfl (fun c => absurd c (by decide)) (fun _ => ?_)
      refine ar_aload_n 24 d_59_23 rfl rfl ?_
      have hS1 : NS Z n nd nn gg C me f q u b uv h0 h D K A Y := ⟨hF, hN, hf, hn, hs, hp0, hu0⟩
      have hI1 : NI Z nn D := hI
      refine ar_call (r := []) (na := 0) (kd := 0) (cm := 60) (fr2 := fr - 1) (lo2 := lo - 23) 27 d_59_24 (ar_hoV (as := []) rfl rfl rfl (hF.at 0 rfl)) rfl (by omega) (show lo - 23 + (19 + 4) = lo by omega) (Nat.le_of_ble_eq_true rfl) (Nat.le_of_ble_eq_true rfl) (s_60 (by omega) (by omega) hC0 hS1 hI1 hup) ?_
      intro v hp_2 hq
      obtain ⟨rfl, D2, K2, A2, Y2, hS2, hI2, hE2, hf6, hf1, hf5⟩ := hq
      clear hS1 hI1 hF hN hf hn hs hp0 hu0
      obtain ⟨hF, hN, hf, hn, hs, hp0, hu0⟩ := hS2
      replace hF : ax_hs hp_2 [cNd n nd me D2, cDk nd D2, cAr nd 2 35840 D2, cAr nd 3 4096 D2, cAr nd 4 32 D2, cAr nd 5 280 D2, cAr nd 6 280 D2, cLd n nd me D2 A2, cAr nd 8 16 D2, cAr nd 9 280 D2, cTb nd gg D2 K2, cAr nd 11 48 D2, cAr nd 12 48 D2, cAr nd 13 48 D2, cAr nd 14 2400 D2, cAr nd 15 512 D2, cAr nd 16 961 D2, cAr nd 17 961 D2, cWk nd D2, cWa nd D2, cAr nd 20 612 D2, cAr nd 21 1152 D2, cRk n nn gg C, cOr n nn gg f] := hF
      have hI2 := hI2
      clear hI2
      refine ar_aload_n 28 d_59_27 rfl rfl ?_
      refine ar_call (r := []) (na := 0) (kd := 0) (cm := 62) (fr2 := fr - 1) (lo2 := lo - 21) 31 d_59_28 (ar_hoV (as := []) rfl rfl rfl (hF.at 0 rfl)) rfl (by omega) (show lo - 21 + (19 + 2) = lo by omega) (Nat.le_of_ble_eq_true rfl) (Nat.le_of_ble_eq_true rfl) (c_62E (by omega) (by omega) (hF.sub (F' := [cNd n nd me D2, cDk nd D2, cAr nd 6 280 D2, cAr nd 5 280 D2]) [0, 1, 6, 5] rfl rfl)) ?_
      intro v hh hq
      obtain ⟨rfl, ehh⟩ := hq
      rw [ehh]
      clear ehh
      rcases freB_or (D2 6) (D2 5) with efr | ⟨fr_, hfr_, efr, hft, hfo⟩
      · refine ar_top (x' := -1) (efr) ?_
        refine ar_istore_n 32 [(0, .ref nd), (1, .ref (n + 1 + 1 + 2 * q)), (2, .int (-1))] d_59_31 rfl (by decide) rfl ?_
        refine ar_iload_n 33 d_59_32 rfl rfl ?_
        refine ar_if_lt 122 36 d_59_33 (by decide) rfl (fun _ => ?_) (fun c => absurd (by decide) c)
        have hS9 : NS Z n nd nn gg C me f q u b uv h0 hp_2 D2 K2 A2 Y2 := ⟨hF, hN, hf, hn, hs, hp0, hu0⟩
        have hI9 : NI Z nn D2 := hI2
        exact ar_ret d_59_122 rfl (⟨rfl, _, _, _, _, hS9, hI9, eq_ifT ey1 (eq_ifT hfu (bnS_eq hE2 (eq_ifT efr (rfl)))), trivial⟩)
      · refine ar_top (x' := nI fr_) (efr) ?_
        refine ar_istore_n 32 [(0, .ref nd), (1, .ref (n + 1 + 1 + 2 * q)), (2, .int (nI fr_))] d_59_31 rfl (by decide) rfl ?_
        refine ar_iload_n 33 d_59_32 rfl rfl ?_
        refine ar_if_lt 122 36 d_59_33 (by decide) rfl (fun c => absurd c (nI_pos (by omega))) (fun _ => ?_)
        refine ar_aload_n 37 d_59_36 rfl rfl ?_
        refine ar_getf 40 d_59_37 rfl (ci := 7) (k := 3) rfl (hF.at 0 rfl) rfl ?_
        refine ar_iload_n 41 d_59_40 rfl rfl ?_
        refine ar_aload_n 42 d_59_41 rfl rfl ?_
        refine ar_getf 45 d_59_42 rfl (ci := 2) (k := 8) rfl hN.mgc rfl ?_
        obtain ⟨c, hc, ec⟩ : ∃ c : Nat, c < 32 ∧ D2 1 4 = nI c := ⟨0, by omega, hf1⟩
        have hD : DI Z (D2 0 6) (nI c) (D2 2) (D2 3) (D2 4) (D2 5) (D2 6) := by
          have e := hI2.1
          rw [ec] at e
          exact e
        have hup2 : ¬ D2 0 6 = 0 := by rw [hu0]; exact hup
        replace hF : ax_hs hp_2 [cNd n nd me D2, (nd + 1, .inr (8, [.ref (nd + 2), .ref (nd + 3), .ref (nd + 4), .ref (nd + 5), .int (nI c)])), cAr nd 2 35840 D2, cAr nd 3 4096 D2, cAr nd 4 32 D2, cAr nd 5 280 D2, cAr nd 6 280 D2, cLd n nd me D2 A2, cAr nd 8 16 D2, cAr nd 9 280 D2, cTb nd gg D2 K2, cAr nd 11 48 D2, cAr nd 12 48 D2, cAr nd 13 48 D2, cAr nd 14 2400 D2, cAr nd 15 512 D2, cAr nd 16 961 D2, cAr nd 17 961 D2, cWk nd D2, cWa nd D2, cAr nd 20 612 D2, cAr nd 21 1152 D2, cRk n nn gg C, cOr n nn gg f] := by
          have e : ax_hs hp_2 [cNd n nd me D2, (nd + 1, .inr (8, [.ref (nd + 2), .ref (nd + 3), .ref (nd + 4), .ref (nd + 5), .int (D2 1 4)])), cAr nd 2 35840 D2, cAr nd 3 4096 D2, cAr nd 4 32 D2, cAr nd 5 280 D2, cAr nd 6 280 D2, cLd n nd me D2 A2, cAr nd 8 16 D2, cAr nd 9 280 D2, cTb nd gg D2 K2, cAr nd 11 48 D2, cAr nd 12 48 D2, cAr nd 13 48 D2, cAr nd 14 2400 D2, cAr nd 15 512 D2, cAr nd 16 961 D2, cAr nd 17 961 D2, cWk nd D2, cWa nd D2, cAr nd 20 612 D2, cAr nd 21 1152 D2, cRk n nn gg C, cOr n nn gg f] := hF
          rw [ec] at e
          exact e
        replace hF : ax_hs hp_2 [(n + 1 + 1 + 2 * q, .inr (2, [.int (u 0), .int (u 1), .int (u 2), .int (u 3), .int (u 4), .int (u 5), .int (u 6), .int (u 7), .ref (n + 1 + 1 + 2 * q + 1)])), (n + 1 + 1 + 2 * q + 1, .inl (0, 617, .inl b)), cNd n nd me D2, (nd + 1, .inr (8, [.ref (nd + 2), .ref (nd + 3), .ref (nd + 4), .ref (nd + 5), .int (nI c)])), cAr nd 2 35840 D2, cAr nd 3 4096 D2, cAr nd 4 32 D2, cAr nd 5 280 D2, cAr nd 6 280 D2, cLd n nd me D2 A2, cAr nd 8 16 D2, cAr nd 9 280 D2, cTb nd gg D2 K2, cAr nd 11 48 D2, cAr nd 12 48 D2, cAr nd 13 48 D2, cAr nd 14 2400 D2, cAr nd 15 512 D2, cAr nd 16 961 D2, cAr nd 17 961 D2, cWk nd D2, cWa nd D2, cAr nd 20 612 D2, cAr nd 21 1152 D2, cRk n nn gg C, cOr n nn gg f] := hF.msg (far (n := n) (nd := nd) rfl hnd) hN.lq ⟨hN.mgc, hN.mbc⟩
        refine ar_call (r := []) (na := 0) (kd := 0) (cm := 63) (fr2 := fr - 1) (lo2 := lo - 23) 48 d_59_45 (ar_hoV (as := [.int (nI fr_), .ref (n + 1 + 1 + 2 * q + 1)]) rfl rfl rfl (hF.at 3 rfl)) rfl (by omega) (show lo - 23 + (19 + 4) = lo by omega) (Nat.le_of_ble_eq_true rfl) (Nat.le_of_ble_eq_true rfl) (c_63N (by omega) (by omega) hfr_ (by omega) (by decide) hc hfo (hF.sub (F' := [(nd + 1, .inr (8, [.ref (nd + 2), .ref (nd + 3), .ref (nd + 4), .ref (nd + 5), .int (nI c)])), cAr nd 2 35840 D2, cAr nd 3 4096 D2, cAr nd 4 32 D2, cAr nd 5 280 D2, (n + 1 + 1 + 2 * q + 1, .inl (0, 617, .inl b))]) [3, 4, 5, 6, 7, 1] rfl rfl) rfl rfl (by omega)) ?_
        intro v hp_3 hq
        obtain ⟨rfl, qF, qn, qs, qf⟩ := hq
        have qF : ax_hs hp_3 [(nd + 1, .inr (8, [.ref (nd + 2), .ref (nd + 3), .ref (nd + 4), .ref (nd + 5), .int (nI (c + 1))])), cAr nd 2 35840 D2, (nd + 3, .inl (0, 4096, .inl (wrF b (D2 3) c (ostB (D2 2) fr_)))), (nd + 4, .inl (0, 32, .inl (upd (D2 4) c (nI fr_)))), (nd + 5, .inl (0, 280, .inl (upd (D2 5) fr_ (nI c)))), (n + 1 + 1 + 2 * q + 1, .inl (0, 617, .inl b))] := qF
        replace hF : ax_hs hp_3 [(n + 1 + 1 + 2 * q, .inr (2, [.int (u 0), .int (u 1), .int (u 2), .int (u 3), .int (u 4), .int (u 5), .int (u 6), .int (u 7), .ref (n + 1 + 1 + 2 * q + 1)])), cNd n nd me D2, cAr nd 6 280 D2, cLd n nd me D2 A2, cAr nd 8 16 D2, cAr nd 9 280 D2, cTb nd gg D2 K2, cAr nd 11 48 D2, cAr nd 12 48 D2, cAr nd 13 48 D2, cAr nd 14 2400 D2, cAr nd 15 512 D2, cAr nd 16 961 D2, cAr nd 17 961 D2, cWk nd D2, cWa nd D2, cAr nd 20 612 D2, cAr nd 21 1152 D2, cRk n nn gg C, cOr n nn gg f, (nd + 1, .inr (8, [.ref (nd + 2), .ref (nd + 3), .ref (nd + 4), .ref (nd + 5), .int (nI (c + 1))])), cAr nd 2 35840 D2, (nd + 3, .inl (0, 4096, .inl (wrF b (D2 3) c (ostB (D2 2) fr_)))), (nd + 4, .inl (0, 32, .inl (upd (D2 4) c (nI fr_)))), (nd + 5, .inl (0, 280, .inl (upd (D2 5) fr_ (nI c)))), (n + 1 + 1 + 2 * q + 1, .inl (0, 617, .inl b))] := ax_hs.call (rest := [(n + 1 + 1 + 2 * q, .inr (2, [.int (u 0), .int (u 1), .int (u 2), .int (u 3), .int (u 4), .int (u 5), .int (u 6), .int (u 7), .ref (n + 1 + 1 + 2 * q + 1)])), cNd n nd me D2, cAr nd 6 280 D2, cLd n nd me D2 A2, cAr nd 8 16 D2, cAr nd 9 280 D2, cTb nd gg D2 K2, cAr nd 11 48 D2, cAr nd 12 48 D2, cAr nd 13 48 D2, cAr nd 14 2400 D2, cAr nd 15 512 D2, cAr nd 16 961 D2, cAr nd 17 961 D2, cWk nd D2, cWa nd D2, cAr nd 20 612 D2, cAr nd 21 1152 D2, cRk n nn gg C, cOr n nn gg f]) [3, 4, 5, 6, 7, 1] [0, 2, 8, 9, 10, 11, 12, 13, 14, 15, 16, 17, 18, 19, 20, 21, 22, 23, 24, 25] hF qf qF rfl rfl rfl [3, 6, 7, 5] rfl rfl [3, 4, 5, 6, 7, 1] (news := []) rfl rfl (fun _ z => absurd z List.not_mem_nil) rfl
        replace hF := hF.sub (F' := [(n + 1 + 1 + 2 * q, .inr (2, [.int (u 0), .int (u 1), .int (u 2), .int (u 3), .int (u 4), .int (u 5), .int (u 6), .int (u 7), .ref (n + 1 + 1 + 2 * q + 1)])), (n + 1 + 1 + 2 * q + 1, .inl (0, 617, .inl b)), cNd n nd me D2, (nd + 1, .inr (8, [.ref (nd + 2), .ref (nd + 3), .ref (nd + 4), .ref (nd + 5), .int (nI (c + 1))])), cAr nd 2 35840 D2, (nd + 3, .inl (0, 4096, .inl (wrF b (D2 3) c (ostB (D2 2) fr_)))), (nd + 4, .inl (0, 32, .inl (upd (D2 4) c (nI fr_)))), (nd + 5, .inl (0, 280, .inl (upd (D2 5) fr_ (nI c)))), cAr nd 6 280 D2, cLd n nd me D2 A2, cAr nd 8 16 D2, cAr nd 9 280 D2, cTb nd gg D2 K2, cAr nd 11 48 D2, cAr nd 12 48 D2, cAr nd 13 48 D2, cAr nd 14 2400 D2, cAr nd 15 512 D2, cAr nd 16 961 D2, cAr nd 17 961 D2, cWk nd D2, cWa nd D2, cAr nd 20 612 D2, cAr nd 21 1152 D2, cRk n nn gg C, cOr n nn gg f]) [0, 25, 1, 20, 21, 22, 23, 24, 2, 3, 4, 5, 6, 7, 8, 9, 10, 11, 12, 13, 14, 15, 16, 17, 18, 19] rfl rfl
        replace hN := hN.fr qf (fun x hx z => by simp only [List.mem_cons, List.not_mem_nil, or_false] at z; unfold NTA at hx; omega)
        replace hf := hf.trC qf (fun x _ z => Or.inr (by simp only [List.mem_cons, List.not_mem_nil, or_false] at z; omega))
        replace hn : hp_3.1 = h0.1 := by omega
        replace hs : hp_3.2.1 = h0.2.1 := by omega
        clear qF qn qs qf
        replace hF := hF.sub (F' := [cNd n nd me D2, (nd + 1, .inr (8, [.ref (nd + 2), .ref (nd + 3), .ref (nd + 4), .ref (nd + 5), .int (nI (c + 1))])), cAr nd 2 35840 D2, (nd + 3, .inl (0, 4096, .inl (wrF b (D2 3) c (ostB (D2 2) fr_)))), (nd + 4, .inl (0, 32, .inl (upd (D2 4) c (nI fr_)))), (nd + 5, .inl (0, 280, .inl (upd (D2 5) fr_ (nI c)))), cAr nd 6 280 D2, cLd n nd me D2 A2, cAr nd 8 16 D2, cAr nd 9 280 D2, cTb nd gg D2 K2, cAr nd 11 48 D2, cAr nd 12 48 D2, cAr nd 13 48 D2, cAr nd 14 2400 D2, cAr nd 15 512 D2, cAr nd 16 961 D2, cAr nd 17 961 D2, cWk nd D2, cWa nd D2, cAr nd 20 612 D2, cAr nd 21 1152 D2, cRk n nn gg C, cOr n nn gg f]) [2, 3, 4, 5, 6, 7, 8, 9, 10, 11, 12, 13, 14, 15, 16, 17, 18, 19, 20, 21, 22, 23, 24, 25] rfl rfl
        refine ar_aload_n 49 d_59_48 rfl rfl ?_
        refine ar_getf 52 d_59_49 rfl (ci := 7) (k := 5) rfl (hF.at 0 rfl) rfl ?_
        refine ar_iload_n 53 d_59_52 rfl rfl ?_
        refine ar_aload_n 54 d_59_53 rfl rfl ?_
        refine ar_getf 57 d_59_54 rfl (ci := 2) (k := 5) rfl hN.mgc rfl ?_
        refine ar_iastN 58 (e := fr_) d_59_57 rfl (hF.at 6 rfl) (by omega) (by omega) ?_
        replace hF : ax_hs (ax_put hp_3 (nd + 6) (.inl (0, 280, .inl (upd (D2 6) fr_ (u 5))))) [cNd n nd me D2, (nd + 1, .inr (8, [.ref (nd + 2), .ref (nd + 3), .ref (nd + 4), .ref (nd + 5), .int (nI (c + 1))])), cAr nd 2 35840 D2, (nd + 3, .inl (0, 4096, .inl (wrF b (D2 3) c (ostB (D2 2) fr_)))), (nd + 4, .inl (0, 32, .inl (upd (D2 4) c (nI fr_)))), (nd + 5, .inl (0, 280, .inl (upd (D2 5) fr_ (nI c)))), (nd + 6, .inl (0, 280, .inl (upd (D2 6) fr_ (u 5)))), cLd n nd me D2 A2, cAr nd 8 16 D2, cAr nd 9 280 D2, cTb nd gg D2 K2, cAr nd 11 48 D2, cAr nd 12 48 D2, cAr nd 13 48 D2, cAr nd 14 2400 D2, cAr nd 15 512 D2, cAr nd 16 961 D2, cAr nd 17 961 D2, cWk nd D2, cWa nd D2, cAr nd 20 612 D2, cAr nd 21 1152 D2, cRk n nn gg C, cOr n nn gg f] := hF.put 6 _ rfl rfl
        replace hf := hf.put (a := nd + 6) (c := .inl (0, 280, .inl (upd (D2 6) fr_ (u 5)))) (Or.inr (by omega))
        replace hN := hN.put (a := nd + 6) (c := .inl (0, 280, .inl (upd (D2 6) fr_ (u 5)))) (by omega)
        replace hn : (ax_put hp_3 (nd + 6) (.inl (0, 280, .inl (upd (D2 6) fr_ (u 5))))).1 = h0.1 := hn
        replace hs : (ax_put hp_3 (nd + 6) (.inl (0, 280, .inl (upd (D2 6) fr_ (u 5))))).2.1 = h0.2.1 := hs
        generalize ax_put hp_3 (nd + 6) (.inl (0, 280, .inl (upd (D2 6) fr_ (u 5)))) = hp_4 at hF hf hN hn hs ⊢
        refine ar_goto 122 d_59_58 (by decide) ?_
        have hne : ¬ u 5 = -1 := fun z => hno1 fr_ hfr_ (by rw [z, ← hf6]; exact hft)
        obtain ⟨eb, hgb⟩ := hm hne
        have hS9 : NS Z n nd nn gg C me f q u b uv h0 hp_4 (va_up (va_up (va_up (va_up (va_up D2 1 (upd (D2 1) 4 (nI (c + 1)))) 3 (wrF b (D2 3) c (ostB (D2 2) fr_))) 4 (upd (D2 4) c (nI fr_))) 5 (upd (D2 5) fr_ (nI c))) 6 (upd (D2 6) fr_ (u 5))) K2 A2 Y2 := ⟨hF, hN, hf, hn, hs, hp0, hu0⟩
        have hI9 : NI Z nn (va_up (va_up (va_up (va_up (va_up D2 1 (upd (D2 1) 4 (nI (c + 1)))) 3 (wrF b (D2 3) c (ostB (D2 2) fr_))) 4 (upd (D2 4) c (nI fr_))) 5 (upd (D2 5) fr_ (nI c))) 6 (upd (D2 6) fr_ (u 5))) := ⟨hD.more hup2 hc hfr_ hfo (fun y hy => wrF_out hy) (hgb.cg (wrF_x (by omega) (by omega)) (wrF_x (by omega) (by omega)) (wrF_x (by omega) (by omega))) (fun _ => (wrF_x (by omega) (by omega)).trans eb) (Or.inr wrF_st), hI2.2⟩
        exact ar_ret d_59_122 rfl (⟨rfl, _, _, _, _, hS9, hI9, eq_ifT ey1 (eq_ifT hfu (bnS_eq hE2 (eq_ifF (nI_ne1 hfr_ efr) (bnN_eq (cl_eq hfr_ efr) (bnN_eq (cl_eq hc ec) (rfl)))))), trivial⟩)
    · refine ar_top (x' := 0) (if_neg hfu) ?_
      have hnf := hfu
      refine ar_if_eq 27 23 d_59_20 (by decide) rfl (fun _ => ?_) (fun c => absurd (by decide) c)
      refine ar_aload_n 28 d_59_27 rfl rfl ?_
      refine ar_call (r := []) (na := 0) (kd := 0) (cm := 62) (fr2 := fr - 1) (lo2 := lo - 21) 31 d_59_28 (ar_hoV (as := []) rfl rfl rfl (hF.at 0 rfl)) rfl (by omega) (show lo - 21 + (19 + 2) = lo by omega) (Nat.le_of_ble_eq_true rfl) (Nat.le_of_ble_eq_true rfl) (c_62E (by omega) (by omega) (hF.sub (F' := [cNd n nd me D, cDk nd D, cAr nd 6 280 D, cAr nd 5 280 D]) [0, 1, 6, 5] rfl rfl)) ?_
      intro v hh hq
      obtain ⟨rfl, ehh⟩ := hq
      rw [ehh]
      clear ehh
      rcases freB_or (D 6) (D 5) with efr | ⟨fr_, hfr_, efr, hft, hfo⟩
      · refine ar_top (x' := -1) (efr) ?_
        refine ar_istore_n 32 [(0, .ref nd), (1, .ref (n + 1 + 1 + 2 * q)), (2, .int (-1))] d_59_31 rfl (by decide) rfl ?_
        refine ar_iload_n 33 d_59_32 rfl rfl ?_
        refine ar_if_lt 122 36 d_59_33 (by decide) rfl (fun _ => ?_) (fun c => absurd (by decide) c)
        have hS9 : NS Z n nd nn gg C me f q u b uv h0 h D K A Y := ⟨hF, hN, hf, hn, hs, hp0, hu0⟩
        have hI9 : NI Z nn D := hI
        exact ar_ret d_59_122 rfl (⟨rfl, _, _, _, _, hS9, hI9, eq_ifT ey1 (eq_ifF hfu (eq_ifT efr (rfl))), trivial⟩)
      · refine ar_top (x' := nI fr_) (efr) ?_
        refine ar_istore_n 32 [(0, .ref nd), (1, .ref (n + 1 + 1 + 2 * q)), (2, .int (nI fr_))] d_59_31 rfl (by decide) rfl ?_
        refine ar_iload_n 33 d_59_32 rfl rfl ?_
        refine ar_if_lt 122 36 d_59_33 (by decide) rfl (fun c => absurd c (nI_pos (by omega))) (fun _ => ?_)
        refine ar_aload_n 37 d_59_36 rfl rfl ?_
        refine ar_getf 40 d_59_37 rfl (ci := 7) (k := 3) rfl (hF.at 0 rfl) rfl ?_
        refine ar_iload_n 41 d_59_40 rfl rfl ?_
        refine ar_aload_n 42 d_59_41 rfl rfl ?_
        refine ar_getf 45 d_59_42 rfl (ci := 2) (k := 8) rfl hN.mgc rfl ?_
        obtain ⟨c, hc, ec⟩ : ∃ c : Nat, c < 32 ∧ D 1 4 = nI c := by
          obtain ⟨c, hc, ec, -⟩ := hI.1.1
          exact ⟨c, Nat.lt_of_le_of_ne hc (fun z => hnf (by rw [ec, z]; rfl)), ec⟩
        have hD : DI Z (D 0 6) (nI c) (D 2) (D 3) (D 4) (D 5) (D 6) := by
          have e := hI.1
          rw [ec] at e
          exact e
        have hup2 : ¬ D 0 6 = 0 := by rw [hu0]; exact hup
        replace hF : ax_hs h [cNd n nd me D, (nd + 1, .inr (8, [.ref (nd + 2), .ref (nd + 3), .ref (nd + 4), .ref (nd + 5), .int (nI c)])), cAr nd 2 35840 D, cAr nd 3 4096 D, cAr nd 4 32 D, cAr nd 5 280 D, cAr nd 6 280 D, cLd n nd me D A, cAr nd 8 16 D, cAr nd 9 280 D, cTb nd gg D K, cAr nd 11 48 D, cAr nd 12 48 D, cAr nd 13 48 D, cAr nd 14 2400 D, cAr nd 15 512 D, cAr nd 16 961 D, cAr nd 17 961 D, cWk nd D, cWa nd D, cAr nd 20 612 D, cAr nd 21 1152 D, cRk n nn gg C, cOr n nn gg f] := by
          have e : ax_hs h [cNd n nd me D, (nd + 1, .inr (8, [.ref (nd + 2), .ref (nd + 3), .ref (nd + 4), .ref (nd + 5), .int (D 1 4)])), cAr nd 2 35840 D, cAr nd 3 4096 D, cAr nd 4 32 D, cAr nd 5 280 D, cAr nd 6 280 D, cLd n nd me D A, cAr nd 8 16 D, cAr nd 9 280 D, cTb nd gg D K, cAr nd 11 48 D, cAr nd 12 48 D, cAr nd 13 48 D, cAr nd 14 2400 D, cAr nd 15 512 D, cAr nd 16 961 D, cAr nd 17 961 D, cWk nd D, cWa nd D, cAr nd 20 612 D, cAr nd 21 1152 D, cRk n nn gg C, cOr n nn gg f] := hF
          rw [ec] at e
          exact e
        replace hF : ax_hs h [(n + 1 + 1 + 2 * q, .inr (2, [.int (u 0), .int (u 1), .int (u 2), .int (u 3), .int (u 4), .int (u 5), .int (u 6), .int (u 7), .ref (n + 1 + 1 + 2 * q + 1)])), (n + 1 + 1 + 2 * q + 1, .inl (0, 617, .inl b)), cNd n nd me D, (nd + 1, .inr (8, [.ref (nd + 2), .ref (nd + 3), .ref (nd + 4), .ref (nd + 5), .int (nI c)])), cAr nd 2 35840 D, cAr nd 3 4096 D, cAr nd 4 32 D, cAr nd 5 280 D, cAr nd 6 280 D, cLd n nd me D A, cAr nd 8 16 D, cAr nd 9 280 D, cTb nd gg D K, cAr nd 11 48 D, cAr nd 12 48 D, cAr nd 13 48 D, cAr nd 14 2400 D, cAr nd 15 512 D, cAr nd 16 961 D, cAr nd 17 961 D, cWk nd D, cWa nd D, cAr nd 20 612 D, cAr nd 21 1152 D, cRk n nn gg C, cOr n nn gg f] := hF.msg (far (n := n) (nd := nd) rfl hnd) hN.lq ⟨hN.mgc, hN.mbc⟩
        refine ar_call (r := []) (na := 0) (kd := 0) (cm := 63) (fr2 := fr - 1) (lo2 := lo - 23) 48 d_59_45 (ar_hoV (as := [.int (nI fr_), .ref (n + 1 + 1 + 2 * q + 1)]) rfl rfl rfl (hF.at 3 rfl)) rfl (by omega) (show lo - 23 + (19 + 4) = lo by omega) (Nat.le_of_ble_eq_true rfl) (Nat.le_of_ble_eq_true rfl) (c_63N (by omega) (by omega) hfr_ (by omega) (by decide) hc hfo (hF.sub (F' := [(nd + 1, .inr (8, [.ref (nd + 2), .ref (nd + 3), .ref (nd + 4), .ref (nd + 5), .int (nI c)])), cAr nd 2 35840 D, cAr nd 3 4096 D, cAr nd 4 32 D, cAr nd 5 280 D, (n + 1 + 1 + 2 * q + 1, .inl (0, 617, .inl b))]) [3, 4, 5, 6, 7, 1] rfl rfl) rfl rfl (by omega)) ?_
        intro v hp_5 hq
        obtain ⟨rfl, qF, qn, qs, qf⟩ := hq
        have qF : ax_hs hp_5 [(nd + 1, .inr (8, [.ref (nd + 2), .ref (nd + 3), .ref (nd + 4), .ref (nd + 5), .int (nI (c + 1))])), cAr nd 2 35840 D, (nd + 3, .inl (0, 4096, .inl (wrF b (D 3) c (ostB (D 2) fr_)))), (nd + 4, .inl (0, 32, .inl (upd (D 4) c (nI fr_)))), (nd + 5, .inl (0, 280, .inl (upd (D 5) fr_ (nI c)))), (n + 1 + 1 + 2 * q + 1, .inl (0, 617, .inl b))] := qF
        replace hF : ax_hs hp_5 [(n + 1 + 1 + 2 * q, .inr (2, [.int (u 0), .int (u 1), .int (u 2), .int (u 3), .int (u 4), .int (u 5), .int (u 6), .int (u 7), .ref (n + 1 + 1 + 2 * q + 1)])), cNd n nd me D, cAr nd 6 280 D, cLd n nd me D A, cAr nd 8 16 D, cAr nd 9 280 D, cTb nd gg D K, cAr nd 11 48 D, cAr nd 12 48 D, cAr nd 13 48 D, cAr nd 14 2400 D, cAr nd 15 512 D, cAr nd 16 961 D, cAr nd 17 961 D, cWk nd D, cWa nd D, cAr nd 20 612 D, cAr nd 21 1152 D, cRk n nn gg C, cOr n nn gg f, (nd + 1, .inr (8, [.ref (nd + 2), .ref (nd + 3), .ref (nd + 4), .ref (nd + 5), .int (nI (c + 1))])), cAr nd 2 35840 D, (nd + 3, .inl (0, 4096, .inl (wrF b (D 3) c (ostB (D 2) fr_)))), (nd + 4, .inl (0, 32, .inl (upd (D 4) c (nI fr_)))), (nd + 5, .inl (0, 280, .inl (upd (D 5) fr_ (nI c)))), (n + 1 + 1 + 2 * q + 1, .inl (0, 617, .inl b))] := ax_hs.call (rest := [(n + 1 + 1 + 2 * q, .inr (2, [.int (u 0), .int (u 1), .int (u 2), .int (u 3), .int (u 4), .int (u 5), .int (u 6), .int (u 7), .ref (n + 1 + 1 + 2 * q + 1)])), cNd n nd me D, cAr nd 6 280 D, cLd n nd me D A, cAr nd 8 16 D, cAr nd 9 280 D, cTb nd gg D K, cAr nd 11 48 D, cAr nd 12 48 D, cAr nd 13 48 D, cAr nd 14 2400 D, cAr nd 15 512 D, cAr nd 16 961 D, cAr nd 17 961 D, cWk nd D, cWa nd D, cAr nd 20 612 D, cAr nd 21 1152 D, cRk n nn gg C, cOr n nn gg f]) [3, 4, 5, 6, 7, 1] [0, 2, 8, 9, 10, 11, 12, 13, 14, 15, 16, 17, 18, 19, 20, 21, 22, 23, 24, 25] hF qf qF rfl rfl rfl [3, 6, 7, 5] rfl rfl [3, 4, 5, 6, 7, 1] (news := []) rfl rfl (fun _ z => absurd z List.not_mem_nil) rfl
        replace hF := hF.sub (F' := [(n + 1 + 1 + 2 * q, .inr (2, [.int (u 0), .int (u 1), .int (u 2), .int (u 3), .int (u 4), .int (u 5), .int (u 6), .int (u 7), .ref (n + 1 + 1 + 2 * q + 1)])), (n + 1 + 1 + 2 * q + 1, .inl (0, 617, .inl b)), cNd n nd me D, (nd + 1, .inr (8, [.ref (nd + 2), .ref (nd + 3), .ref (nd + 4), .ref (nd + 5), .int (nI (c + 1))])), cAr nd 2 35840 D, (nd + 3, .inl (0, 4096, .inl (wrF b (D 3) c (ostB (D 2) fr_)))), (nd + 4, .inl (0, 32, .inl (upd (D 4) c (nI fr_)))), (nd + 5, .inl (0, 280, .inl (upd (D 5) fr_ (nI c)))), cAr nd 6 280 D, cLd n nd me D A, cAr nd 8 16 D, cAr nd 9 280 D, cTb nd gg D K, cAr nd 11 48 D, cAr nd 12 48 D, cAr nd 13 48 D, cAr nd 14 2400 D, cAr nd 15 512 D, cAr nd 16 961 D, cAr nd 17 961 D, cWk nd D, cWa nd D, cAr nd 20 612 D, cAr nd 21 1152 D, cRk n nn gg C, cOr n nn gg f]) [0, 25, 1, 20, 21, 22, 23, 24, 2, 3, 4, 5, 6, 7, 8, 9, 10, 11, 12, 13, 14, 15, 16, 17, 18, 19] rfl rfl
        replace hN := hN.fr qf (fun x hx z => by simp only [List.mem_cons, List.not_mem_nil, or_false] at z; unfold NTA at hx; omega)
        replace hf := hf.trC qf (fun x _ z => Or.inr (by simp only [List.mem_cons, List.not_mem_nil, or_false] at z; omega))
        replace hn : hp_5.1 = h0.1 := by omega
        replace hs : hp_5.2.1 = h0.2.1 := by omega
        clear qF qn qs qf
        replace hF := hF.sub (F' := [cNd n nd me D, (nd + 1, .inr (8, [.ref (nd + 2), .ref (nd + 3), .ref (nd + 4), .ref (nd + 5), .int (nI (c + 1))])), cAr nd 2 35840 D, (nd + 3, .inl (0, 4096, .inl (wrF b (D 3) c (ostB (D 2) fr_)))), (nd + 4, .inl (0, 32, .inl (upd (D 4) c (nI fr_)))), (nd + 5, .inl (0, 280, .inl (upd (D 5) fr_ (nI c)))), cAr nd 6 280 D, cLd n nd me D A, cAr nd 8 16 D, cAr nd 9 280 D, cTb nd gg D K, cAr nd 11 48 D, cAr nd 12 48 D, cAr nd 13 48 D, cAr nd 14 2400 D, cAr nd 15 512 D, cAr nd 16 961 D, cAr nd 17 961 D, cWk nd D, cWa nd D, cAr nd 20 612 D, cAr nd 21 1152 D, cRk n nn gg C, cOr n nn gg f]) [2, 3, 4, 5, 6, 7, 8, 9, 10, 11, 12, 13, 14, 15, 16, 17, 18, 19, 20, 21, 22, 23, 24, 25] rfl rfl
        refine ar_aload_n 49 d_59_48 rfl rfl ?_
        refine ar_getf 52 d_59_49 rfl (ci := 7) (k := 5) rfl (hF.at 0 rfl) rfl ?_
        refine ar_iload_n 53 d_59_52 rfl rfl ?_
        refine ar_aload_n 54 d_59_53 rfl rfl ?_
        refine ar_getf 57 d_59_54 rfl (ci := 2) (k := 5) rfl hN.mgc rfl ?_
        refine ar_iastN 58 (e := fr_) d_59_57 rfl (hF.at 6 rfl) (by omega) (by omega) ?_
        replace hF : ax_hs (ax_put hp_5 (nd + 6) (.inl (0, 280, .inl (upd (D 6) fr_ (u 5))))) [cNd n nd me D, (nd + 1, .inr (8, [.ref (nd + 2), .ref (nd + 3), .ref (nd + 4), .ref (nd + 5), .int (nI (c + 1))])), cAr nd 2 35840 D, (nd + 3, .inl (0, 4096, .inl (wrF b (D 3) c (ostB (D 2) fr_)))), (nd + 4, .inl (0, 32, .inl (upd (D 4) c (nI fr_)))), (nd + 5, .inl (0, 280, .inl (upd (D 5) fr_ (nI c)))), (nd + 6, .inl (0, 280, .inl (upd (D 6) fr_ (u 5)))), cLd n nd me D A, cAr nd 8 16 D, cAr nd 9 280 D, cTb nd gg D K, cAr nd 11 48 D, cAr nd 12 48 D, cAr nd 13 48 D, cAr nd 14 2400 D, cAr nd 15 512 D, cAr nd 16 961 D, cAr nd 17 961 D, cWk nd D, cWa nd D, cAr nd 20 612 D, cAr nd 21 1152 D, cRk n nn gg C, cOr n nn gg f] := hF.put 6 _ rfl rfl
        replace hf := hf.put (a := nd + 6) (c := .inl (0, 280, .inl (upd (D 6) fr_ (u 5)))) (Or.inr (by omega))
        replace hN := hN.put (a := nd + 6) (c := .inl (0, 280, .inl (upd (D 6) fr_ (u 5)))) (by omega)
        replace hn : (ax_put hp_5 (nd + 6) (.inl (0, 280, .inl (upd (D 6) fr_ (u 5))))).1 = h0.1 := hn
        replace hs : (ax_put hp_5 (nd + 6) (.inl (0, 280, .inl (upd (D 6) fr_ (u 5))))).2.1 = h0.2.1 := hs
        generalize ax_put hp_5 (nd + 6) (.inl (0, 280, .inl (upd (D 6) fr_ (u 5)))) = hp_6 at hF hf hN hn hs ⊢
        refine ar_goto 122 d_59_58 (by decide) ?_
        have hne : ¬ u 5 = -1 := fun z => hno1 fr_ hfr_ (by rw [z]; exact (hft))
        obtain ⟨eb, hgb⟩ := hm hne
        have hS9 : NS Z n nd nn gg C me f q u b uv h0 hp_6 (va_up (va_up (va_up (va_up (va_up D 1 (upd (D 1) 4 (nI (c + 1)))) 3 (wrF b (D 3) c (ostB (D 2) fr_))) 4 (upd (D 4) c (nI fr_))) 5 (upd (D 5) fr_ (nI c))) 6 (upd (D 6) fr_ (u 5))) K A Y := ⟨hF, hN, hf, hn, hs, hp0, hu0⟩
        have hI9 : NI Z nn (va_up (va_up (va_up (va_up (va_up D 1 (upd (D 1) 4 (nI (c + 1)))) 3 (wrF b (D 3) c (ostB (D 2) fr_))) 4 (upd (D 4) c (nI fr_))) 5 (upd (D 5) fr_ (nI c))) 6 (upd (D 6) fr_ (u 5))) := ⟨hD.more hup2 hc hfr_ hfo (fun y hy => wrF_out hy) (hgb.cg (wrF_x (by omega) (by omega)) (wrF_x (by omega) (by omega)) (wrF_x (by omega) (by omega))) (fun _ => (wrF_x (by omega) (by omega)).trans eb) (Or.inr wrF_st), hI.2⟩
        exact ar_ret d_59_122 rfl (⟨rfl, _, _, _, _, hS9, hI9, eq_ifT ey1 (eq_ifF hfu (eq_ifF (nI_ne1 hfr_ efr) (bnN_eq (cl_eq hfr_ efr) (bnN_eq (cl_eq hc ec) (rfl))))), trivial⟩)
  · refine ar_top (x' := nI j1) (ey1) ?_
    refine ar_istore_n 9 [(0, .ref nd), (1, .ref (n + 1 + 1 + 2 * q)), (2, .int (nI j1))] d_59_8 rfl (by decide) rfl ?_
    refine ar_iload_n 10 d_59_9 rfl rfl ?_
    refine ar_if_ge 61 13 d_59_10 (by decide) rfl (fun _ => ?_) (fun c => absurd (nI_pos' (by omega)) c)
    refine ar_aload_n 62 d_59_61 rfl rfl ?_
    refine ar_getf 65 d_59_62 rfl (ci := 7) (k := 3) rfl (hF.at 0 rfl) rfl ?_
    refine ar_iload_n 66 d_59_65 rfl rfl ?_
    refine ar_call (r := []) (na := 0) (kd := 0) (cm := 57) (fr2 := fr - 1) (lo2 := lo - 21) 69 d_59_66 (ar_hoV (as := [.int (nI j1)]) rfl rfl rfl (hF.at 1 rfl)) rfl (by omega) (show lo - 21 + (19 + 2) = lo by omega) (Nat.le_of_ble_eq_true rfl) (Nat.le_of_ble_eq_true rfl) (c_57E hj1 (hF.sub (F' := [cDk nd D, cAr nd 5 280 D]) [1, 5] rfl rfl)) ?_
    intro v hh hq
    obtain ⟨rfl, ehh⟩ := hq
    rw [ehh]
    clear ehh
    refine ar_if_ne 122 72 d_59_69 (by decide) rfl (fun cc7 => ?_) (fun cc7 => ?_)
    · have hS9 : NS Z n nd nn gg C me f q u b uv h0 h D K A Y := ⟨hF, hN, hf, hn, hs, hp0, hu0⟩
      have hI9 : NI Z nn D := hI
      exact ar_ret d_59_122 rfl (⟨rfl, _, _, _, _, hS9, hI9, eq_ifF (nI_ne1 hj1 ey1) (bnN_eq (cl_eq hj1 ey1) (eq_ifT cc7 (rfl))), trivial⟩)
    · refine ar_aload_n 73 d_59_72 rfl rfl ?_
      refine ar_getf 76 d_59_73 rfl (ci := 7) (k := 2) rfl (hF.at 0 rfl) rfl ?_
      refine ar_bipush 78 (v := 11) d_59_76 rfl (by decide) ?_
      refine ar_aload_n 79 d_59_78 rfl rfl ?_
      refine ar_getf 82 d_59_79 rfl (ci := 7) (k := 0) rfl (hF.at 0 rfl) rfl ?_
      refine ar_aload_n 83 d_59_82 rfl rfl ?_
      refine ar_getf 86 d_59_83 rfl (ci := 7) (k := 1) rfl (hF.at 0 rfl) rfl ?_
      refine ar_iconst 87 (v := 0) d_59_86 rfl (by decide) ?_
      refine ar_iconst 88 (v := 0) d_59_87 rfl (by decide) ?_
      refine ar_aload_n 89 d_59_88 rfl rfl ?_
      refine ar_getf 92 d_59_89 rfl (ci := 7) (k := 8) rfl (hF.at 0 rfl) rfl ?_
      refine ar_call (r := [.int me, .int 11, .ref n]) (na := 0) (kd := 0) (cm := 31) (fr2 := fr - 1) (lo2 := lo - 26) 95 d_59_92 (ar_hoV (as := [.int 0, .int 0, .int (D 0 8)]) rfl rfl rfl (hF.at 22 rfl)) rfl (by omega) (show lo - 26 + (19 + 7) = lo by omega) (Nat.le_of_ble_eq_true rfl) (Nat.le_of_ble_eq_true rfl) (c_31 hgg hnn (g := 0) (by omega) (hF.sub (F' := [cRk n nn gg C, cOr n nn gg f]) [22, 23] rfl rfl)) ?_
      intro v hh hq
      obtain ⟨rfl, ehh⟩ := hq
      rw [ehh]
      clear ehh
      refine ar_aload_n 96 d_59_95 rfl rfl ?_
      refine ar_getf 99 d_59_96 rfl (ci := 7) (k := 7) rfl (hF.at 0 rfl) rfl ?_
      refine ar_aload_n 100 d_59_99 rfl rfl ?_
      refine ar_getf 103 d_59_100 rfl (ci := 7) (k := 8) rfl (hF.at 0 rfl) rfl ?_
      obtain ⟨zk, za, zc, hnet⟩ := hN.net
      refine ar_call (r := []) (na := 0) (kd := 0) (cm := 36) (fr2 := fr - 1) (lo2 := lo - 26) 106 d_59_103 (ar_hoV (as := [.int 11, .int me, .int (nof f 0 (D 0 8) nn (0 * nn) 0), .int (D 0 7), .int (D 0 8)]) rfl rfl rfl hnet) rfl (by omega) (show lo - 26 + (19 + 7) = lo by omega) (Nat.le_of_ble_eq_true rfl) (Nat.le_of_ble_eq_true rfl) (hN.post2) ?_
      intro v hp_8 hq
      obtain ⟨m, bm, hm, hmq, rfl, hmm, hed, hf2, hz1, hz2, hqm⟩ := hq
      have hNm : NTA n (n + 1) (n + 1 + 1 + 2 * m) := Or.inr (by omega)
      have hNm1 : NTA n (n + 1) (n + 1 + 1 + 2 * m + 1) := Or.inr (by omega)
      replace hF : ax_hs hp_8 [cNd n nd me D, cDk nd D, cAr nd 2 35840 D, cAr nd 3 4096 D, cAr nd 4 32 D, cAr nd 5 280 D, cAr nd 6 280 D, cLd n nd me D A, cAr nd 8 16 D, cAr nd 9 280 D, cTb nd gg D K, cAr nd 11 48 D, cAr nd 12 48 D, cAr nd 13 48 D, cAr nd 14 2400 D, cAr nd 15 512 D, cAr nd 16 961 D, cAr nd 17 961 D, cWk nd D, cWa nd D, cAr nd 20 612 D, cAr nd 21 1152 D, cRk n nn gg C, cOr n nn gg f] := hF.fr hf2 (far (n := n) (nd := nd) rfl hnd)
      replace hF : ax_hs hp_8 [(n + 1 + 1 + 2 * m, .inr (2, [.int 11, .int me, .int (nof f 0 (D 0 8) nn (0 * nn) 0), .int (D 0 7), .int (D 0 8), .int (-1), .int 0, .int 0, .ref (n + 1 + 1 + 2 * m + 1)])), (n + 1 + 1 + 2 * m + 1, .inl (0, 617, .inl bm)), cNd n nd me D, cDk nd D, cAr nd 2 35840 D, cAr nd 3 4096 D, cAr nd 4 32 D, cAr nd 5 280 D, cAr nd 6 280 D, cLd n nd me D A, cAr nd 8 16 D, cAr nd 9 280 D, cTb nd gg D K, cAr nd 11 48 D, cAr nd 12 48 D, cAr nd 13 48 D, cAr nd 14 2400 D, cAr nd 15 512 D, cAr nd 16 961 D, cAr nd 17 961 D, cWk nd D, cWa nd D, cAr nd 20 612 D, cAr nd 21 1152 D, cRk n nn gg C, cOr n nn gg f] := hF.msg (far (n := n) (nd := nd) rfl hnd) hm hmm
      replace hf := hf.trC hf2 (fun _ _ z => Or.inl z)
      replace hn : hp_8.1 = h0.1 := by omega
      replace hs : hp_8.2.1 = h0.2.1 := by omega
      have hfm : ax_fr (fun x => x = n + 1 + 1 + 2 * m ∨ x = n + 1 + 1 + 2 * m + 1) hp_8 hp_8 := ax_fr.rf
      clear hN hnet hf2 hz1 hz2 hmm
      refine ar_astore_n 107 [(0, .ref nd), (1, .ref (n + 1 + 1 + 2 * q)), (2, .int (nI j1)), (3, .ref (n + 1 + 1 + 2 * m))] d_59_106 rfl (by decide) rfl ?_
      refine ar_aload_n 108 d_59_107 rfl rfl ?_
      refine ar_getf 111 d_59_108 rfl (ci := 2) (k := 8) rfl (hF.at 0 rfl) rfl ?_
      refine ar_iconst 112 (v := 0) d_59_111 rfl (by decide) ?_
      refine ar_aload_n 113 d_59_112 rfl rfl ?_
      refine ar_getf 116 d_59_113 rfl (ci := 2) (k := 5) rfl hqm.1 rfl ?_
      refine ar_iastN 117 (e := 0) d_59_116 rfl (hF.at 1 rfl) (by omega) (by omega) ?_
      replace hF : ax_hs (ax_put hp_8 (n + 1 + 1 + 2 * m + 1) (.inl (0, 617, .inl (upd bm 0 (u 5))))) [(n + 1 + 1 + 2 * m, .inr (2, [.int 11, .int me, .int (nof f 0 (D 0 8) nn (0 * nn) 0), .int (D 0 7), .int (D 0 8), .int (-1), .int 0, .int 0, .ref (n + 1 + 1 + 2 * m + 1)])), (n + 1 + 1 + 2 * m + 1, .inl (0, 617, .inl (upd bm 0 (u 5)))), cNd n nd me D, cDk nd D, cAr nd 2 35840 D, cAr nd 3 4096 D, cAr nd 4 32 D, cAr nd 5 280 D, cAr nd 6 280 D, cLd n nd me D A, cAr nd 8 16 D, cAr nd 9 280 D, cTb nd gg D K, cAr nd 11 48 D, cAr nd 12 48 D, cAr nd 13 48 D, cAr nd 14 2400 D, cAr nd 15 512 D, cAr nd 16 961 D, cAr nd 17 961 D, cWk nd D, cWa nd D, cAr nd 20 612 D, cAr nd 21 1152 D, cRk n nn gg C, cOr n nn gg f] := hF.put 1 _ rfl rfl
      replace hf := hf.put (a := n + 1 + 1 + 2 * m + 1) (c := .inl (0, 617, .inl (upd bm 0 (u 5)))) (Or.inl hNm1)
      replace hfm := hfm.put (a := n + 1 + 1 + 2 * m + 1) (c := .inl (0, 617, .inl (upd bm 0 (u 5)))) (Or.inr rfl)
      replace hn : (ax_put hp_8 (n + 1 + 1 + 2 * m + 1) (.inl (0, 617, .inl (upd bm 0 (u 5))))).1 = h0.1 := hn
      replace hs : (ax_put hp_8 (n + 1 + 1 + 2 * m + 1) (.inl (0, 617, .inl (upd bm 0 (u 5))))).2.1 = h0.2.1 := hs
      replace hqm := hqm.put (x := n + 1 + 1 + 2 * m + 1) (c := .inl (0, 617, .inl (upd bm 0 (u 5)))) (by omega) (by omega)
      generalize ax_put hp_8 (n + 1 + 1 + 2 * m + 1) (.inl (0, 617, .inl (upd bm 0 (u 5)))) = hp_9 at hF hf hfm hqm hn hs ⊢
      refine ar_aload_n 118 d_59_117 rfl rfl ?_
      refine ar_iconst 119 (v := 1) d_59_118 rfl (by decide) ?_
      refine ar_putf 122 [.int 11, .int me, .int (nof f 0 (D 0 8) nn (0 * nn) 0), .int (D 0 7), .int (D 0 8), .int (-1), .int 0, .int 1, .ref (n + 1 + 1 + 2 * m + 1)] d_59_119 rfl (ci := 2) (k := 7) rfl rfl (hF.at 0 rfl) (Nat.le_of_ble_eq_true rfl) rfl rfl rfl ?_
      replace hF : ax_hs (ax_put hp_9 (n + 1 + 1 + 2 * m) (.inr (2, [.int 11, .int me, .int (nof f 0 (D 0 8) nn (0 * nn) 0), .int (D 0 7), .int (D 0 8), .int (-1), .int 0, .int 1, .ref (n + 1 + 1 + 2 * m + 1)]))) [(n + 1 + 1 + 2 * m, .inr (2, [.int 11, .int me, .int (nof f 0 (D 0 8) nn (0 * nn) 0), .int (D 0 7), .int (D 0 8), .int (-1), .int 0, .int 1, .ref (n + 1 + 1 + 2 * m + 1)])), (n + 1 + 1 + 2 * m + 1, .inl (0, 617, .inl (upd bm 0 (u 5)))), cNd n nd me D, cDk nd D, cAr nd 2 35840 D, cAr nd 3 4096 D, cAr nd 4 32 D, cAr nd 5 280 D, cAr nd 6 280 D, cLd n nd me D A, cAr nd 8 16 D, cAr nd 9 280 D, cTb nd gg D K, cAr nd 11 48 D, cAr nd 12 48 D, cAr nd 13 48 D, cAr nd 14 2400 D, cAr nd 15 512 D, cAr nd 16 961 D, cAr nd 17 961 D, cWk nd D, cWa nd D, cAr nd 20 612 D, cAr nd 21 1152 D, cRk n nn gg C, cOr n nn gg f] := hF.put 0 _ rfl rfl
      replace hf := hf.put (a := n + 1 + 1 + 2 * m) (c := .inr (2, [.int 11, .int me, .int (nof f 0 (D 0 8) nn (0 * nn) 0), .int (D 0 7), .int (D 0 8), .int (-1), .int 0, .int 1, .ref (n + 1 + 1 + 2 * m + 1)])) (Or.inl hNm)
      replace hfm := hfm.put (a := n + 1 + 1 + 2 * m) (c := .inr (2, [.int 11, .int me, .int (nof f 0 (D 0 8) nn (0 * nn) 0), .int (D 0 7), .int (D 0 8), .int (-1), .int 0, .int 1, .ref (n + 1 + 1 + 2 * m + 1)])) (Or.inl rfl)
      replace hn : (ax_put hp_9 (n + 1 + 1 + 2 * m) (.inr (2, [.int 11, .int me, .int (nof f 0 (D 0 8) nn (0 * nn) 0), .int (D 0 7), .int (D 0 8), .int (-1), .int 0, .int 1, .ref (n + 1 + 1 + 2 * m + 1)]))).1 = h0.1 := hn
      replace hs : (ax_put hp_9 (n + 1 + 1 + 2 * m) (.inr (2, [.int 11, .int me, .int (nof f 0 (D 0 8) nn (0 * nn) 0), .int (D 0 7), .int (D 0 8), .int (-1), .int 0, .int 1, .ref (n + 1 + 1 + 2 * m + 1)]))).2.1 = h0.2.1 := hs
      replace hqm := hqm.put (x := n + 1 + 1 + 2 * m) (c := .inr (2, [.int 11, .int me, .int (nof f 0 (D 0 8) nn (0 * nn) 0), .int (D 0 7), .int (D 0 8), .int (-1), .int 0, .int 1, .ref (n + 1 + 1 + 2 * m + 1)])) (by omega) (by omega)
      generalize ax_put hp_9 (n + 1 + 1 + 2 * m) (.inr (2, [.int 11, .int me, .int (nof f 0 (D 0 8) nn (0 * nn) 0), .int (D 0 7), .int (D 0 8), .int (-1), .int 0, .int 1, .ref (n + 1 + 1 + 2 * m + 1)])) = hp_10 at hF hf hfm hqm hn hs ⊢
      have hN : NeT Z hp_10 n q u b (pst Y (va_up (mg 11 me (nof f 0 (D 0 8) nn (0 * nn) 0) (D 0 7) (D 0 8)) 7 1, upd (fun _ => 0) 0 (u 5))) := hed _ (va_up (mg 11 me (nof f 0 (D 0 8) nn (0 * nn) 0) (D 0 7) (D 0 8)) 7 1) (upd bm 0 (u 5)) _ hfm ⟨hF.at 0 rfl, hF.at 1 rfl⟩ (MI.cnt (Or.inr (Or.inl rfl)) ⟨1, by decide, rfl⟩) (sm_one (Or.inr (Or.inl rfl)) rfl)
      replace hF := hF.sub (F' := [cNd n nd me D, cDk nd D, cAr nd 2 35840 D, cAr nd 3 4096 D, cAr nd 4 32 D, cAr nd 5 280 D, cAr nd 6 280 D, cLd n nd me D A, cAr nd 8 16 D, cAr nd 9 280 D, cTb nd gg D K, cAr nd 11 48 D, cAr nd 12 48 D, cAr nd 13 48 D, cAr nd 14 2400 D, cAr nd 15 512 D, cAr nd 16 961 D, cAr nd 17 961 D, cWk nd D, cWa nd D, cAr nd 20 612 D, cAr nd 21 1152 D, cRk n nn gg C, cOr n nn gg f]) [2, 3, 4, 5, 6, 7, 8, 9, 10, 11, 12, 13, 14, 15, 16, 17, 18, 19, 20, 21, 22, 23, 24, 25] rfl rfl
      clear hed hfm hNm hNm1 hm hmq
      clear hqm
      have hS9 : NS Z n nd nn gg C me f q u b uv h0 hp_10 D K A (pst Y (va_up (mg 11 me (nof f 0 (D 0 8) nn (0 * nn) 0) (D 0 7) (D 0 8)) 7 1, upd (fun _ => 0) 0 (u 5))) := ⟨hF, hN, hf, hn, hs, hp0, hu0⟩
      have hI9 : NI Z nn D := hI
      exact ar_ret d_59_122 rfl (⟨rfl, _, _, _, _, hS9, hI9, eq_ifF (nI_ne1 hj1 ey1) (bnN_eq (cl_eq hj1 ey1) (eq_ifF cc7 (rfl))), trivial⟩)
def G_66 (nn gg : Nat) (C me : Int32) (f u b : Nat → Int32)  : Nat → Nat → (Nat → Nat → Int32) → Int64 → Int64 → List Mg → St
  | 0, i, D, K, A, Y =>
    (D, K, A, Y)
  | k + 1, i, D, K, A, Y =>
    if sloB (D 6) (b i) = -1 then
      G_66 nn gg C me f u b k (i + 1) D K A Y
    else
      bnN ((sloB (D 6) (b i)).toNatClampNeg) (fun j1 =>
        if D 1 4 = 32 then
          bnS (F_60 nn gg C me f u b D K A Y) (fun D2 K2 A2 Y2 =>
            bnN ((D2 1 4).toNatClampNeg) (fun c =>
              if D2 5 j1 < 0 then
                G_66 nn gg C me f u b k (i + 1) (va_up (va_up (va_up (va_up (va_up D2 1 (upd (D2 1) 4 (nI (c + 1)))) 3 (erF (D2 3) c)) 4 (upd (D2 4) c (nI j1))) 5 (upd (D2 5) j1 (nI c))) 6 (upd (D2 6) j1 (-1))) K2 A2 Y2
              else
                bnN ((D2 5 j1).toNatClampNeg) (fun kk =>
                  G_66 nn gg C me f u b k (i + 1) (va_up (va_up (va_up D2 1 (upd (D2 1) 4 (nI c))) 3 (erF (D2 3) kk)) 6 (upd (D2 6) j1 (-1))) K2 A2 Y2)))
        else
          bnN ((D 1 4).toNatClampNeg) (fun c =>
            if D 5 j1 < 0 then
              G_66 nn gg C me f u b k (i + 1) (va_up (va_up (va_up (va_up (va_up D 1 (upd (D 1) 4 (nI (c + 1)))) 3 (erF (D 3) c)) 4 (upd (D 4) c (nI j1))) 5 (upd (D 5) j1 (nI c))) 6 (upd (D 6) j1 (-1))) K A Y
            else
              bnN ((D 5 j1).toNatClampNeg) (fun kk =>
                G_66 nn gg C me f u b k (i + 1) (va_up (va_up (va_up D 1 (upd (D 1) 4 (nI c))) 3 (erF (D 3) kk)) 6 (upd (D 6) j1 (-1))) K A Y)))
def F_66 (nn gg : Nat) (C me : Int32) (f u b : Nat → Int32) (D : Nat → Nat → Int32) (K A : Int64) (Y : List Mg)  : St :=
  bnN ((u 7).toNatClampNeg) (fun cnt =>
    G_66 nn gg C me f u b cnt 0 D K A Y)
set_option maxRecDepth 100000 in
theorem s_66 {L : Nat} {xs : Nat → Int32} {fr lo : Nat} {Z : ZT} {n nd nn gg : Nat} {C me : Int32} {f : Nat → Int32} {q : Nat} {u b : Nat → Int32} {uv : Int32} {h0 h : ax_H} {D : Nat → Nat → Int32} {K A : Int64} {Y : List Mg}  (hfr : 4 ≤ fr) (hlo : 120 ≤ lo) (hC : CS n nd nn gg f) (hS : NS Z n nd nn gg C me f q u b uv h0 h D K A Y) (hI : NI Z nn D) (hup : ¬ uv = 0) (hu : inR 281 (u 7)) : ax_M L xs 66 fr lo [.ref nd, .ref (n + 1 + 1 + 2 * q)] h (fun r h' => r = none ∧ PS Z n nd nn gg C me f q u b uv h0 h' (fun D' K' A' Y' => (D', K', A', Y') = F_66 nn gg C me f u b D K A Y ∧ True)) := by
  have hC0 := hC
  obtain ⟨cnt, hcnt, hu⟩ := hu
  have key : ∀ (k i : Nat) (h : ax_H) (D : Nat → Nat → Int32) (K A : Int64) (Y : List Mg), i + k = cnt → NS Z n nd nn gg C me f q u b uv h0 h D K A Y → NI Z nn D → ax_A (ax_step L xs) ((66, 2, fr, lo), [(0, .ref nd), (1, .ref (n + 1 + 1 + 2 * q)), (2, .int (nI i))], [], h) (fun r h' => r = none ∧ PS Z n nd nn gg C me f q u b uv h0 h' (fun D' K' A' Y' => (D', K', A', Y') = G_66 nn gg C me f u b k i D K A Y ∧ True)) := by
    intro k
    induction k with
    | zero =>
      intro i h D K A Y hi hS hI
      have e0 : i = cnt := by omega
      subst e0
      obtain ⟨hnd, hn0, hnn3, hnn, hgg1, hgg, hRg⟩ := hC
      obtain ⟨hF, hN, hf, hn, hs, hp0, hu0⟩ := hS
      replace hF : ax_hs h [cNd n nd me D, cDk nd D, cAr nd 2 35840 D, cAr nd 3 4096 D, cAr nd 4 32 D, cAr nd 5 280 D, cAr nd 6 280 D, cLd n nd me D A, cAr nd 8 16 D, cAr nd 9 280 D, cTb nd gg D K, cAr nd 11 48 D, cAr nd 12 48 D, cAr nd 13 48 D, cAr nd 14 2400 D, cAr nd 15 512 D, cAr nd 16 961 D, cAr nd 17 961 D, cWk nd D, cWa nd D, cAr nd 20 612 D, cAr nd 21 1152 D, cRk n nn gg C, cOr n nn gg f] := hF
      refine ar_iload_n 3 d_66_2 rfl rfl ?_
      refine ar_aload_n 4 d_66_3 rfl rfl ?_
      refine ar_getf 7 d_66_4 rfl (ci := 2) (k := 7) rfl hN.mgc rfl ?_
      refine ar_icmp_ge 60 10 d_66_7 (by decide) rfl (fun _ => ?_) (fun c => absurd (by rw [hu]; exact Int32.le_refl _) c)
      have hS9 : NS Z n nd nn gg C me f q u b uv h0 h D K A Y := ⟨hF, hN, hf, hn, hs, hp0, hu0⟩
      have hI9 : NI Z nn D := hI
      exact ar_ret d_66_60 rfl (⟨rfl, _, _, _, _, hS9, hI9, rfl, trivial⟩)
    | succ k ih =>
      intro i h D K A Y hi hS hI
      have hic : i < cnt := by omega
      obtain ⟨hnd, hn0, hnn3, hnn, hgg1, hgg, hRg⟩ := hC
      obtain ⟨hF, hN, hf, hn, hs, hp0, hu0⟩ := hS
      replace hF : ax_hs h [cNd n nd me D, cDk nd D, cAr nd 2 35840 D, cAr nd 3 4096 D, cAr nd 4 32 D, cAr nd 5 280 D, cAr nd 6 280 D, cLd n nd me D A, cAr nd 8 16 D, cAr nd 9 280 D, cTb nd gg D K, cAr nd 11 48 D, cAr nd 12 48 D, cAr nd 13 48 D, cAr nd 14 2400 D, cAr nd 15 512 D, cAr nd 16 961 D, cAr nd 17 961 D, cWk nd D, cWa nd D, cAr nd 20 612 D, cAr nd 21 1152 D, cRk n nn gg C, cOr n nn gg f] := hF
      refine ar_iload_n 3 d_66_2 rfl rfl ?_
      refine ar_aload_n 4 d_66_3 rfl rfl ?_
      refine ar_getf 7 d_66_4 rfl (ci := 2) (k := 7) rfl hN.mgc rfl ?_
      refine ar_icmp_ge 60 10 d_66_7 (by decide) rfl (fun c => absurd c (by rw [hu]; exact nI_ge hic (by omega))) (fun _ => ?_)
      refine ar_aload_n 11 d_66_10 rfl rfl ?_
      refine ar_aload_n 12 d_66_11 rfl rfl ?_
      refine ar_getf 15 d_66_12 rfl (ci := 2) (k := 8) rfl hN.mgc rfl ?_
      refine ar_iload_n 16 d_66_15 rfl rfl ?_
      refine ar_ialdN 17 (e := i) d_66_16 rfl hN.mbc (by omega) (by omega) ?_
      refine ar_call (r := []) (na := 0) (kd := 0) (cm := 22) (fr2 := fr - 1) (lo2 := lo - 22) 20 d_66_17 (ar_hoV (as := [.int (b i)]) rfl rfl rfl (hF.at 0 rfl)) rfl (by omega) (show lo - 22 + (19 + 3) = lo by omega) (Nat.le_of_ble_eq_true rfl) (Nat.le_of_ble_eq_true rfl) (c_22E (hF.sub (F' := [cNd n nd me D, cAr nd 6 280 D]) [0, 6] rfl rfl)) ?_
      intro v hh hq
      obtain ⟨rfl, ehh⟩ := hq
      rw [ehh]
      clear ehh
      rcases sloB_or (D 6) (b i) with ⟨ey1, hno1⟩ | ⟨j1, hj1, ey1, htj1⟩
      · refine ar_top (x' := -1) (ey1) ?_
        refine ar_istore_n 21 [(0, .ref nd), (1, .ref (n + 1 + 1 + 2 * q)), (2, .int (nI i)), (3, .int (-1))] d_66_20 rfl (by decide) rfl ?_
        refine ar_iload_n 22 d_66_21 rfl rfl ?_
        refine ar_if_lt 54 25 d_66_22 (by decide) rfl (fun _ => ?_) (fun c => absurd (by decide) c)
        refine ar_iinc 57 [(0, .ref nd), (1, .ref (n + 1 + 1 + 2 * q)), (2, .int (nI (i + 1))), (3, .int (-1))] d_66_54 rfl rfl (nI_1 i) (by decide) rfl ?_
        refine ar_goto 2 d_66_57 (by decide) ?_
        refine ar_wk [0, 1, 2] rfl (by simp) ?_
        have hS1 : NS Z n nd nn gg C me f q u b uv h0 h D K A Y := ⟨hF, hN, hf, hn, hs, hp0, hu0⟩
        have hI1 : NI Z nn D := hI
        rw [← show G_66 nn gg C me f u b k (i + 1) D K A Y = G_66 nn gg C me f u b (k + 1) i D K A Y from eq_ifT ey1 (rfl)]
        exact ih (i + 1) h D K A Y (by omega) hS1 hI1
      · refine ar_top (x' := nI j1) (ey1) ?_
        refine ar_istore_n 21 [(0, .ref nd), (1, .ref (n + 1 + 1 + 2 * q)), (2, .int (nI i)), (3, .int (nI j1))] d_66_20 rfl (by decide) rfl ?_
        refine ar_iload_n 22 d_66_21 rfl rfl ?_
        refine ar_if_lt 54 25 d_66_22 (by decide) rfl (fun c => absurd c (nI_pos (by omega))) (fun _ => ?_)
        refine ar_aload_n 26 d_66_25 rfl rfl ?_
        refine ar_getf 29 d_66_26 rfl (ci := 7) (k := 3) rfl (hF.at 0 rfl) rfl ?_
        refine ar_call (r := []) (na := 0) (kd := 0) (cm := 23) (fr2 := fr - 1) (lo2 := lo - 20) 32 d_66_29 (ar_hoV (as := []) rfl rfl rfl (hF.at 1 rfl)) rfl (by omega) (show lo - 20 + (19 + 1) = lo by omega) (Nat.le_of_ble_eq_true rfl) (Nat.le_of_ble_eq_true rfl) (c_23E (hF.at 1 rfl)) ?_
        intro v hh hq
        obtain ⟨rfl, ehh⟩ := hq
        rw [ehh]
        clear ehh
        by_cases hfu : D 1 4 = 32
        · refine ar_top (x' := 1) (if_pos hfu) ?_
          refine ar_if_eq 39 35 d_66_32 (by decide) rfl (fun c => absurd c (by decide)) (fun _ => ?_)
          refine ar_aload_n 36 d_66_35 rfl rfl ?_
          have hS1 : NS Z n nd nn gg C me f q u b uv h0 h D K A Y := ⟨hF, hN, hf, hn, hs, hp0, hu0⟩
          have hI1 : NI Z nn D := hI
          refine ar_call (r := []) (na := 0) (kd := 0) (cm := 60) (fr2 := fr - 1) (lo2 := lo - 23) 39 d_66_36 (ar_hoV (as := []) rfl rfl rfl (hF.at 0 rfl)) rfl (by omega) (show lo - 23 + (19 + 4) = lo by omega) (Nat.le_of_ble_eq_true rfl) (Nat.le_of_ble_eq_true rfl) (s_60 (by omega) (by omega) hC0 hS1 hI1 hup) ?_
          intro v hp_2 hq
          obtain ⟨rfl, D2, K2, A2, Y2, hS2, hI2, hE2, hf6, hf1, hf5⟩ := hq
          clear hS1 hI1 hF hN hf hn hs hp0 hu0
          obtain ⟨hF, hN, hf, hn, hs, hp0, hu0⟩ := hS2
          replace hF : ax_hs hp_2 [cNd n nd me D2, cDk nd D2, cAr nd 2 35840 D2, cAr nd 3 4096 D2, cAr nd 4 32 D2, cAr nd 5 280 D2, cAr nd 6 280 D2, cLd n nd me D2 A2, cAr nd 8 16 D2, cAr nd 9 280 D2, cTb nd gg D2 K2, cAr nd 11 48 D2, cAr nd 12 48 D2, cAr nd 13 48 D2, cAr nd 14 2400 D2, cAr nd 15 512 D2, cAr nd 16 961 D2, cAr nd 17 961 D2, cWk nd D2, cWa nd D2, cAr nd 20 612 D2, cAr nd 21 1152 D2, cRk n nn gg C, cOr n nn gg f] := hF
          have hI2 := hI2
          clear hI2
          refine ar_aload_n 40 d_66_39 rfl rfl ?_
          refine ar_getf 43 d_66_40 rfl (ci := 7) (k := 3) rfl (hF.at 0 rfl) rfl ?_
          refine ar_iload_n 44 d_66_43 rfl rfl ?_
          obtain ⟨c, hc, ec⟩ : ∃ c : Nat, c < 32 ∧ D2 1 4 = nI c := ⟨0, by omega, hf1⟩
          have hD : DI Z (D2 0 6) (nI c) (D2 2) (D2 3) (D2 4) (D2 5) (D2 6) := by
            have e := hI2.1
            rw [ec] at e
            exact e
          have hup2 : ¬ D2 0 6 = 0 := by rw [hu0]; exact hup
          replace hF : ax_hs hp_2 [cNd n nd me D2, (nd + 1, .inr (8, [.ref (nd + 2), .ref (nd + 3), .ref (nd + 4), .ref (nd + 5), .int (nI c)])), cAr nd 2 35840 D2, cAr nd 3 4096 D2, cAr nd 4 32 D2, cAr nd 5 280 D2, cAr nd 6 280 D2, cLd n nd me D2 A2, cAr nd 8 16 D2, cAr nd 9 280 D2, cTb nd gg D2 K2, cAr nd 11 48 D2, cAr nd 12 48 D2, cAr nd 13 48 D2, cAr nd 14 2400 D2, cAr nd 15 512 D2, cAr nd 16 961 D2, cAr nd 17 961 D2, cWk nd D2, cWa nd D2, cAr nd 20 612 D2, cAr nd 21 1152 D2, cRk n nn gg C, cOr n nn gg f] := by
            have e : ax_hs hp_2 [cNd n nd me D2, (nd + 1, .inr (8, [.ref (nd + 2), .ref (nd + 3), .ref (nd + 4), .ref (nd + 5), .int (D2 1 4)])), cAr nd 2 35840 D2, cAr nd 3 4096 D2, cAr nd 4 32 D2, cAr nd 5 280 D2, cAr nd 6 280 D2, cLd n nd me D2 A2, cAr nd 8 16 D2, cAr nd 9 280 D2, cTb nd gg D2 K2, cAr nd 11 48 D2, cAr nd 12 48 D2, cAr nd 13 48 D2, cAr nd 14 2400 D2, cAr nd 15 512 D2, cAr nd 16 961 D2, cAr nd 17 961 D2, cWk nd D2, cWa nd D2, cAr nd 20 612 D2, cAr nd 21 1152 D2, cRk n nn gg C, cOr n nn gg f] := hF
            rw [ec] at e
            exact e
          by_cases hoj : D2 5 j1 < 0
          · refine ar_call (r := []) (na := 0) (kd := 0) (cm := 25) (fr2 := fr - 1) (lo2 := lo - 22) 47 d_66_44 (ar_hoV (as := [.int (nI j1)]) rfl rfl rfl (hF.at 1 rfl)) rfl (by omega) (show lo - 22 + (19 + 3) = lo by omega) (Nat.le_of_ble_eq_true rfl) (Nat.le_of_ble_eq_true rfl) (c_25N (by omega) (by omega) hj1 hc hoj (hF.sub (F' := [(nd + 1, .inr (8, [.ref (nd + 2), .ref (nd + 3), .ref (nd + 4), .ref (nd + 5), .int (nI c)])), cAr nd 2 35840 D2, cAr nd 3 4096 D2, cAr nd 4 32 D2, cAr nd 5 280 D2]) [1, 2, 3, 4, 5] rfl rfl) rfl rfl (by omega)) ?_
            intro v hp_3 hq
            obtain ⟨rfl, qF, qn, qs, qf⟩ := hq
            have qF : ax_hs hp_3 [(nd + 1, .inr (8, [.ref (nd + 2), .ref (nd + 3), .ref (nd + 4), .ref (nd + 5), .int (nI (c + 1))])), cAr nd 2 35840 D2, (nd + 3, .inl (0, 4096, .inl (erF (D2 3) c))), (nd + 4, .inl (0, 32, .inl (upd (D2 4) c (nI j1)))), (nd + 5, .inl (0, 280, .inl (upd (D2 5) j1 (nI c))))] := qF
            replace hF : ax_hs hp_3 [cNd n nd me D2, cAr nd 6 280 D2, cLd n nd me D2 A2, cAr nd 8 16 D2, cAr nd 9 280 D2, cTb nd gg D2 K2, cAr nd 11 48 D2, cAr nd 12 48 D2, cAr nd 13 48 D2, cAr nd 14 2400 D2, cAr nd 15 512 D2, cAr nd 16 961 D2, cAr nd 17 961 D2, cWk nd D2, cWa nd D2, cAr nd 20 612 D2, cAr nd 21 1152 D2, cRk n nn gg C, cOr n nn gg f, (nd + 1, .inr (8, [.ref (nd + 2), .ref (nd + 3), .ref (nd + 4), .ref (nd + 5), .int (nI (c + 1))])), cAr nd 2 35840 D2, (nd + 3, .inl (0, 4096, .inl (erF (D2 3) c))), (nd + 4, .inl (0, 32, .inl (upd (D2 4) c (nI j1)))), (nd + 5, .inl (0, 280, .inl (upd (D2 5) j1 (nI c))))] := ax_hs.call (rest := [cNd n nd me D2, cAr nd 6 280 D2, cLd n nd me D2 A2, cAr nd 8 16 D2, cAr nd 9 280 D2, cTb nd gg D2 K2, cAr nd 11 48 D2, cAr nd 12 48 D2, cAr nd 13 48 D2, cAr nd 14 2400 D2, cAr nd 15 512 D2, cAr nd 16 961 D2, cAr nd 17 961 D2, cWk nd D2, cWa nd D2, cAr nd 20 612 D2, cAr nd 21 1152 D2, cRk n nn gg C, cOr n nn gg f]) [1, 2, 3, 4, 5] [0, 6, 7, 8, 9, 10, 11, 12, 13, 14, 15, 16, 17, 18, 19, 20, 21, 22, 23] hF qf qF rfl rfl rfl [1, 4, 5, 3] rfl rfl [1, 2, 3, 4, 5] (news := []) rfl rfl (fun _ z => absurd z List.not_mem_nil) rfl
            replace hF := hF.sub (F' := [cNd n nd me D2, (nd + 1, .inr (8, [.ref (nd + 2), .ref (nd + 3), .ref (nd + 4), .ref (nd + 5), .int (nI (c + 1))])), cAr nd 2 35840 D2, (nd + 3, .inl (0, 4096, .inl (erF (D2 3) c))), (nd + 4, .inl (0, 32, .inl (upd (D2 4) c (nI j1)))), (nd + 5, .inl (0, 280, .inl (upd (D2 5) j1 (nI c)))), cAr nd 6 280 D2, cLd n nd me D2 A2, cAr nd 8 16 D2, cAr nd 9 280 D2, cTb nd gg D2 K2, cAr nd 11 48 D2, cAr nd 12 48 D2, cAr nd 13 48 D2, cAr nd 14 2400 D2, cAr nd 15 512 D2, cAr nd 16 961 D2, cAr nd 17 961 D2, cWk nd D2, cWa nd D2, cAr nd 20 612 D2, cAr nd 21 1152 D2, cRk n nn gg C, cOr n nn gg f]) [0, 19, 20, 21, 22, 23, 1, 2, 3, 4, 5, 6, 7, 8, 9, 10, 11, 12, 13, 14, 15, 16, 17, 18] rfl rfl
            replace hN := hN.fr qf (fun x hx z => by simp only [List.mem_cons, List.not_mem_nil, or_false] at z; unfold NTA at hx; omega)
            replace hf := hf.trC qf (fun x _ z => Or.inr (by simp only [List.mem_cons, List.not_mem_nil, or_false] at z; omega))
            replace hn : hp_3.1 = h0.1 := by omega
            replace hs : hp_3.2.1 = h0.2.1 := by omega
            clear qF qn qs qf
            refine ar_aload_n 48 d_66_47 rfl rfl ?_
            refine ar_getf 51 d_66_48 rfl (ci := 7) (k := 5) rfl (hF.at 0 rfl) rfl ?_
            refine ar_iload_n 52 d_66_51 rfl rfl ?_
            refine ar_iconst 53 (v := -1) d_66_52 rfl (by decide) ?_
            refine ar_iastN 54 (e := j1) d_66_53 rfl (hF.at 6 rfl) (by omega) (by omega) ?_
            replace hF : ax_hs (ax_put hp_3 (nd + 6) (.inl (0, 280, .inl (upd (D2 6) j1 (-1))))) [cNd n nd me D2, (nd + 1, .inr (8, [.ref (nd + 2), .ref (nd + 3), .ref (nd + 4), .ref (nd + 5), .int (nI (c + 1))])), cAr nd 2 35840 D2, (nd + 3, .inl (0, 4096, .inl (erF (D2 3) c))), (nd + 4, .inl (0, 32, .inl (upd (D2 4) c (nI j1)))), (nd + 5, .inl (0, 280, .inl (upd (D2 5) j1 (nI c)))), (nd + 6, .inl (0, 280, .inl (upd (D2 6) j1 (-1)))), cLd n nd me D2 A2, cAr nd 8 16 D2, cAr nd 9 280 D2, cTb nd gg D2 K2, cAr nd 11 48 D2, cAr nd 12 48 D2, cAr nd 13 48 D2, cAr nd 14 2400 D2, cAr nd 15 512 D2, cAr nd 16 961 D2, cAr nd 17 961 D2, cWk nd D2, cWa nd D2, cAr nd 20 612 D2, cAr nd 21 1152 D2, cRk n nn gg C, cOr n nn gg f] := hF.put 6 _ rfl rfl
            replace hf := hf.put (a := nd + 6) (c := .inl (0, 280, .inl (upd (D2 6) j1 (-1)))) (Or.inr (by omega))
            replace hN := hN.put (a := nd + 6) (c := .inl (0, 280, .inl (upd (D2 6) j1 (-1)))) (by omega)
            replace hn : (ax_put hp_3 (nd + 6) (.inl (0, 280, .inl (upd (D2 6) j1 (-1))))).1 = h0.1 := hn
            replace hs : (ax_put hp_3 (nd + 6) (.inl (0, 280, .inl (upd (D2 6) j1 (-1))))).2.1 = h0.2.1 := hs
            generalize ax_put hp_3 (nd + 6) (.inl (0, 280, .inl (upd (D2 6) j1 (-1)))) = hp_5 at hF hf hN hn hs ⊢
            refine ar_iinc 57 [(0, .ref nd), (1, .ref (n + 1 + 1 + 2 * q)), (2, .int (nI (i + 1))), (3, .int (nI j1))] d_66_54 rfl rfl (nI_1 i) (by decide) rfl ?_
            refine ar_goto 2 d_66_57 (by decide) ?_
            refine ar_wk [0, 1, 2] rfl (by simp) ?_
            have hS1 : NS Z n nd nn gg C me f q u b uv h0 hp_5 (va_up (va_up (va_up (va_up (va_up D2 1 (upd (D2 1) 4 (nI (c + 1)))) 3 (erF (D2 3) c)) 4 (upd (D2 4) c (nI j1))) 5 (upd (D2 5) j1 (nI c))) 6 (upd (D2 6) j1 (-1))) K2 A2 Y2 := ⟨hF, hN, hf, hn, hs, hp0, hu0⟩
            have hI1 : NI Z nn (va_up (va_up (va_up (va_up (va_up D2 1 (upd (D2 1) 4 (nI (c + 1)))) 3 (erF (D2 3) c)) 4 (upd (D2 4) c (nI j1))) 5 (upd (D2 5) j1 (nI c))) 6 (upd (D2 6) j1 (-1))) := ⟨hD.more hup2 hc hj1 hoj (fun y hy => erF_out hy) (gd.zero (erF_in (by omega))) (fun z => absurd rfl z) (Or.inl erF_st), hI2.2⟩
            rw [← show G_66 nn gg C me f u b k (i + 1) (va_up (va_up (va_up (va_up (va_up D2 1 (upd (D2 1) 4 (nI (c + 1)))) 3 (erF (D2 3) c)) 4 (upd (D2 4) c (nI j1))) 5 (upd (D2 5) j1 (nI c))) 6 (upd (D2 6) j1 (-1))) K2 A2 Y2 = G_66 nn gg C me f u b (k + 1) i D K A Y from eq_ifF (nI_ne1 hj1 ey1) (bnN_eq (cl_eq hj1 ey1) (eq_ifT hfu (bnS_eq hE2 (bnN_eq (cl_eq hc ec) (eq_ifT hoj (rfl))))))]
            exact ih (i + 1) hp_5 (va_up (va_up (va_up (va_up (va_up D2 1 (upd (D2 1) 4 (nI (c + 1)))) 3 (erF (D2 3) c)) 4 (upd (D2 4) c (nI j1))) 5 (upd (D2 5) j1 (nI c))) 6 (upd (D2 6) j1 (-1))) K2 A2 Y2 (by omega) hS1 hI1
          · obtain ⟨kk, hkk, ek⟩ : ∃ kk : Nat, kk < 32 ∧ D2 5 j1 = nI kk := by
              obtain ⟨⟨c0, h1, h2, h3, h4⟩, -⟩ := hD
              rcases h4 j1 hj1 with e | ⟨q, q1, q2, -⟩
              · exact absurd (by rw [e]; decide) hoj
              · exact ⟨q, by omega, q2⟩
            refine ar_call (r := []) (na := 0) (kd := 0) (cm := 25) (fr2 := fr - 1) (lo2 := lo - 22) 47 d_66_44 (ar_hoV (as := [.int (nI j1)]) rfl rfl rfl (hF.at 1 rfl)) rfl (by omega) (show lo - 22 + (19 + 3) = lo by omega) (Nat.le_of_ble_eq_true rfl) (Nat.le_of_ble_eq_true rfl) (c_25O (by omega) (by omega) hj1 (by omega) hkk ek (hF.sub (F' := [(nd + 1, .inr (8, [.ref (nd + 2), .ref (nd + 3), .ref (nd + 4), .ref (nd + 5), .int (nI c)])), cAr nd 2 35840 D2, cAr nd 3 4096 D2, cAr nd 4 32 D2, cAr nd 5 280 D2]) [1, 2, 3, 4, 5] rfl rfl) rfl rfl (by omega)) ?_
            intro v hp_4 hq
            obtain ⟨rfl, qF, qn, qs, qf⟩ := hq
            have qF : ax_hs hp_4 [(nd + 1, .inr (8, [.ref (nd + 2), .ref (nd + 3), .ref (nd + 4), .ref (nd + 5), .int (nI c)])), cAr nd 2 35840 D2, (nd + 3, .inl (0, 4096, .inl (erF (D2 3) kk))), cAr nd 4 32 D2, cAr nd 5 280 D2] := qF
            replace hF : ax_hs hp_4 [cNd n nd me D2, cAr nd 6 280 D2, cLd n nd me D2 A2, cAr nd 8 16 D2, cAr nd 9 280 D2, cTb nd gg D2 K2, cAr nd 11 48 D2, cAr nd 12 48 D2, cAr nd 13 48 D2, cAr nd 14 2400 D2, cAr nd 15 512 D2, cAr nd 16 961 D2, cAr nd 17 961 D2, cWk nd D2, cWa nd D2, cAr nd 20 612 D2, cAr nd 21 1152 D2, cRk n nn gg C, cOr n nn gg f, (nd + 1, .inr (8, [.ref (nd + 2), .ref (nd + 3), .ref (nd + 4), .ref (nd + 5), .int (nI c)])), cAr nd 2 35840 D2, (nd + 3, .inl (0, 4096, .inl (erF (D2 3) kk))), cAr nd 4 32 D2, cAr nd 5 280 D2] := ax_hs.call (rest := [cNd n nd me D2, cAr nd 6 280 D2, cLd n nd me D2 A2, cAr nd 8 16 D2, cAr nd 9 280 D2, cTb nd gg D2 K2, cAr nd 11 48 D2, cAr nd 12 48 D2, cAr nd 13 48 D2, cAr nd 14 2400 D2, cAr nd 15 512 D2, cAr nd 16 961 D2, cAr nd 17 961 D2, cWk nd D2, cWa nd D2, cAr nd 20 612 D2, cAr nd 21 1152 D2, cRk n nn gg C, cOr n nn gg f]) [1, 2, 3, 4, 5] [0, 6, 7, 8, 9, 10, 11, 12, 13, 14, 15, 16, 17, 18, 19, 20, 21, 22, 23] hF qf qF rfl rfl rfl [3] rfl rfl [1, 2, 3, 4, 5] (news := []) rfl rfl (fun _ z => absurd z List.not_mem_nil) rfl
            replace hF := hF.sub (F' := [cNd n nd me D2, (nd + 1, .inr (8, [.ref (nd + 2), .ref (nd + 3), .ref (nd + 4), .ref (nd + 5), .int (nI c)])), cAr nd 2 35840 D2, (nd + 3, .inl (0, 4096, .inl (erF (D2 3) kk))), cAr nd 4 32 D2, cAr nd 5 280 D2, cAr nd 6 280 D2, cLd n nd me D2 A2, cAr nd 8 16 D2, cAr nd 9 280 D2, cTb nd gg D2 K2, cAr nd 11 48 D2, cAr nd 12 48 D2, cAr nd 13 48 D2, cAr nd 14 2400 D2, cAr nd 15 512 D2, cAr nd 16 961 D2, cAr nd 17 961 D2, cWk nd D2, cWa nd D2, cAr nd 20 612 D2, cAr nd 21 1152 D2, cRk n nn gg C, cOr n nn gg f]) [0, 19, 20, 21, 22, 23, 1, 2, 3, 4, 5, 6, 7, 8, 9, 10, 11, 12, 13, 14, 15, 16, 17, 18] rfl rfl
            replace hN := hN.fr qf (fun x hx z => by simp only [List.mem_cons, List.not_mem_nil, or_false] at z; unfold NTA at hx; omega)
            replace hf := hf.trC qf (fun x _ z => Or.inr (by simp only [List.mem_cons, List.not_mem_nil, or_false] at z; omega))
            replace hn : hp_4.1 = h0.1 := by omega
            replace hs : hp_4.2.1 = h0.2.1 := by omega
            clear qF qn qs qf
            refine ar_aload_n 48 d_66_47 rfl rfl ?_
            refine ar_getf 51 d_66_48 rfl (ci := 7) (k := 5) rfl (hF.at 0 rfl) rfl ?_
            refine ar_iload_n 52 d_66_51 rfl rfl ?_
            refine ar_iconst 53 (v := -1) d_66_52 rfl (by decide) ?_
            refine ar_iastN 54 (e := j1) d_66_53 rfl (hF.at 6 rfl) (by omega) (by omega) ?_
            replace hF : ax_hs (ax_put hp_4 (nd + 6) (.inl (0, 280, .inl (upd (D2 6) j1 (-1))))) [cNd n nd me D2, (nd + 1, .inr (8, [.ref (nd + 2), .ref (nd + 3), .ref (nd + 4), .ref (nd + 5), .int (nI c)])), cAr nd 2 35840 D2, (nd + 3, .inl (0, 4096, .inl (erF (D2 3) kk))), cAr nd 4 32 D2, cAr nd 5 280 D2, (nd + 6, .inl (0, 280, .inl (upd (D2 6) j1 (-1)))), cLd n nd me D2 A2, cAr nd 8 16 D2, cAr nd 9 280 D2, cTb nd gg D2 K2, cAr nd 11 48 D2, cAr nd 12 48 D2, cAr nd 13 48 D2, cAr nd 14 2400 D2, cAr nd 15 512 D2, cAr nd 16 961 D2, cAr nd 17 961 D2, cWk nd D2, cWa nd D2, cAr nd 20 612 D2, cAr nd 21 1152 D2, cRk n nn gg C, cOr n nn gg f] := hF.put 6 _ rfl rfl
            replace hf := hf.put (a := nd + 6) (c := .inl (0, 280, .inl (upd (D2 6) j1 (-1)))) (Or.inr (by omega))
            replace hN := hN.put (a := nd + 6) (c := .inl (0, 280, .inl (upd (D2 6) j1 (-1)))) (by omega)
            replace hn : (ax_put hp_4 (nd + 6) (.inl (0, 280, .inl (upd (D2 6) j1 (-1))))).1 = h0.1 := hn
            replace hs : (ax_put hp_4 (nd + 6) (.inl (0, 280, .inl (upd (D2 6) j1 (-1))))).2.1 = h0.2.1 := hs
            generalize ax_put hp_4 (nd + 6) (.inl (0, 280, .inl (upd (D2 6) j1 (-1)))) = hp_6 at hF hf hN hn hs ⊢
            refine ar_iinc 57 [(0, .ref nd), (1, .ref (n + 1 + 1 + 2 * q)), (2, .int (nI (i + 1))), (3, .int (nI j1))] d_66_54 rfl rfl (nI_1 i) (by decide) rfl ?_
            refine ar_goto 2 d_66_57 (by decide) ?_
            refine ar_wk [0, 1, 2] rfl (by simp) ?_
            have hS1 : NS Z n nd nn gg C me f q u b uv h0 hp_6 (va_up (va_up (va_up D2 1 (upd (D2 1) 4 (nI c))) 3 (erF (D2 3) kk)) 6 (upd (D2 6) j1 (-1))) K2 A2 Y2 := ⟨hF, hN, hf, hn, hs, hp0, hu0⟩
            have hI1 : NI Z nn (va_up (va_up (va_up D2 1 (upd (D2 1) 4 (nI c))) 3 (erF (D2 3) kk)) 6 (upd (D2 6) j1 (-1))) := ⟨hD.again hup2 hj1 hkk ek, hI2.2⟩
            rw [← show G_66 nn gg C me f u b k (i + 1) (va_up (va_up (va_up D2 1 (upd (D2 1) 4 (nI c))) 3 (erF (D2 3) kk)) 6 (upd (D2 6) j1 (-1))) K2 A2 Y2 = G_66 nn gg C me f u b (k + 1) i D K A Y from eq_ifF (nI_ne1 hj1 ey1) (bnN_eq (cl_eq hj1 ey1) (eq_ifT hfu (bnS_eq hE2 (bnN_eq (cl_eq hc ec) (eq_ifF hoj (bnN_eq (cl_eq hkk ek) (rfl)))))))]
            exact ih (i + 1) hp_6 (va_up (va_up (va_up D2 1 (upd (D2 1) 4 (nI c))) 3 (erF (D2 3) kk)) 6 (upd (D2 6) j1 (-1))) K2 A2 Y2 (by omega) hS1 hI1
        · refine ar_top (x' := 0) (if_neg hfu) ?_
          have hnf := hfu
          refine ar_if_eq 39 35 d_66_32 (by decide) rfl (fun _ => ?_) (fun c => absurd (by decide) c)
          refine ar_aload_n 40 d_66_39 rfl rfl ?_
          refine ar_getf 43 d_66_40 rfl (ci := 7) (k := 3) rfl (hF.at 0 rfl) rfl ?_
          refine ar_iload_n 44 d_66_43 rfl rfl ?_
          obtain ⟨c, hc, ec⟩ : ∃ c : Nat, c < 32 ∧ D 1 4 = nI c := by
            obtain ⟨c, hc, ec, -⟩ := hI.1.1
            exact ⟨c, Nat.lt_of_le_of_ne hc (fun z => hnf (by rw [ec, z]; rfl)), ec⟩
          have hD : DI Z (D 0 6) (nI c) (D 2) (D 3) (D 4) (D 5) (D 6) := by
            have e := hI.1
            rw [ec] at e
            exact e
          have hup2 : ¬ D 0 6 = 0 := by rw [hu0]; exact hup
          replace hF : ax_hs h [cNd n nd me D, (nd + 1, .inr (8, [.ref (nd + 2), .ref (nd + 3), .ref (nd + 4), .ref (nd + 5), .int (nI c)])), cAr nd 2 35840 D, cAr nd 3 4096 D, cAr nd 4 32 D, cAr nd 5 280 D, cAr nd 6 280 D, cLd n nd me D A, cAr nd 8 16 D, cAr nd 9 280 D, cTb nd gg D K, cAr nd 11 48 D, cAr nd 12 48 D, cAr nd 13 48 D, cAr nd 14 2400 D, cAr nd 15 512 D, cAr nd 16 961 D, cAr nd 17 961 D, cWk nd D, cWa nd D, cAr nd 20 612 D, cAr nd 21 1152 D, cRk n nn gg C, cOr n nn gg f] := by
            have e : ax_hs h [cNd n nd me D, (nd + 1, .inr (8, [.ref (nd + 2), .ref (nd + 3), .ref (nd + 4), .ref (nd + 5), .int (D 1 4)])), cAr nd 2 35840 D, cAr nd 3 4096 D, cAr nd 4 32 D, cAr nd 5 280 D, cAr nd 6 280 D, cLd n nd me D A, cAr nd 8 16 D, cAr nd 9 280 D, cTb nd gg D K, cAr nd 11 48 D, cAr nd 12 48 D, cAr nd 13 48 D, cAr nd 14 2400 D, cAr nd 15 512 D, cAr nd 16 961 D, cAr nd 17 961 D, cWk nd D, cWa nd D, cAr nd 20 612 D, cAr nd 21 1152 D, cRk n nn gg C, cOr n nn gg f] := hF
            rw [ec] at e
            exact e
          by_cases hoj : D 5 j1 < 0
          · refine ar_call (r := []) (na := 0) (kd := 0) (cm := 25) (fr2 := fr - 1) (lo2 := lo - 22) 47 d_66_44 (ar_hoV (as := [.int (nI j1)]) rfl rfl rfl (hF.at 1 rfl)) rfl (by omega) (show lo - 22 + (19 + 3) = lo by omega) (Nat.le_of_ble_eq_true rfl) (Nat.le_of_ble_eq_true rfl) (c_25N (by omega) (by omega) hj1 hc hoj (hF.sub (F' := [(nd + 1, .inr (8, [.ref (nd + 2), .ref (nd + 3), .ref (nd + 4), .ref (nd + 5), .int (nI c)])), cAr nd 2 35840 D, cAr nd 3 4096 D, cAr nd 4 32 D, cAr nd 5 280 D]) [1, 2, 3, 4, 5] rfl rfl) rfl rfl (by omega)) ?_
            intro v hp_7 hq
            obtain ⟨rfl, qF, qn, qs, qf⟩ := hq
            have qF : ax_hs hp_7 [(nd + 1, .inr (8, [.ref (nd + 2), .ref (nd + 3), .ref (nd + 4), .ref (nd + 5), .int (nI (c + 1))])), cAr nd 2 35840 D, (nd + 3, .inl (0, 4096, .inl (erF (D 3) c))), (nd + 4, .inl (0, 32, .inl (upd (D 4) c (nI j1)))), (nd + 5, .inl (0, 280, .inl (upd (D 5) j1 (nI c))))] := qF
            replace hF : ax_hs hp_7 [cNd n nd me D, cAr nd 6 280 D, cLd n nd me D A, cAr nd 8 16 D, cAr nd 9 280 D, cTb nd gg D K, cAr nd 11 48 D, cAr nd 12 48 D, cAr nd 13 48 D, cAr nd 14 2400 D, cAr nd 15 512 D, cAr nd 16 961 D, cAr nd 17 961 D, cWk nd D, cWa nd D, cAr nd 20 612 D, cAr nd 21 1152 D, cRk n nn gg C, cOr n nn gg f, (nd + 1, .inr (8, [.ref (nd + 2), .ref (nd + 3), .ref (nd + 4), .ref (nd + 5), .int (nI (c + 1))])), cAr nd 2 35840 D, (nd + 3, .inl (0, 4096, .inl (erF (D 3) c))), (nd + 4, .inl (0, 32, .inl (upd (D 4) c (nI j1)))), (nd + 5, .inl (0, 280, .inl (upd (D 5) j1 (nI c))))] := ax_hs.call (rest := [cNd n nd me D, cAr nd 6 280 D, cLd n nd me D A, cAr nd 8 16 D, cAr nd 9 280 D, cTb nd gg D K, cAr nd 11 48 D, cAr nd 12 48 D, cAr nd 13 48 D, cAr nd 14 2400 D, cAr nd 15 512 D, cAr nd 16 961 D, cAr nd 17 961 D, cWk nd D, cWa nd D, cAr nd 20 612 D, cAr nd 21 1152 D, cRk n nn gg C, cOr n nn gg f]) [1, 2, 3, 4, 5] [0, 6, 7, 8, 9, 10, 11, 12, 13, 14, 15, 16, 17, 18, 19, 20, 21, 22, 23] hF qf qF rfl rfl rfl [1, 4, 5, 3] rfl rfl [1, 2, 3, 4, 5] (news := []) rfl rfl (fun _ z => absurd z List.not_mem_nil) rfl
            replace hF := hF.sub (F' := [cNd n nd me D, (nd + 1, .inr (8, [.ref (nd + 2), .ref (nd + 3), .ref (nd + 4), .ref (nd + 5), .int (nI (c + 1))])), cAr nd 2 35840 D, (nd + 3, .inl (0, 4096, .inl (erF (D 3) c))), (nd + 4, .inl (0, 32, .inl (upd (D 4) c (nI j1)))), (nd + 5, .inl (0, 280, .inl (upd (D 5) j1 (nI c)))), cAr nd 6 280 D, cLd n nd me D A, cAr nd 8 16 D, cAr nd 9 280 D, cTb nd gg D K, cAr nd 11 48 D, cAr nd 12 48 D, cAr nd 13 48 D, cAr nd 14 2400 D, cAr nd 15 512 D, cAr nd 16 961 D, cAr nd 17 961 D, cWk nd D, cWa nd D, cAr nd 20 612 D, cAr nd 21 1152 D, cRk n nn gg C, cOr n nn gg f]) [0, 19, 20, 21, 22, 23, 1, 2, 3, 4, 5, 6, 7, 8, 9, 10, 11, 12, 13, 14, 15, 16, 17, 18] rfl rfl
            replace hN := hN.fr qf (fun x hx z => by simp only [List.mem_cons, List.not_mem_nil, or_false] at z; unfold NTA at hx; omega)
            replace hf := hf.trC qf (fun x _ z => Or.inr (by simp only [List.mem_cons, List.not_mem_nil, or_false] at z; omega))
            replace hn : hp_7.1 = h0.1 := by omega
            replace hs : hp_7.2.1 = h0.2.1 := by omega
            clear qF qn qs qf
            refine ar_aload_n 48 d_66_47 rfl rfl ?_
            refine ar_getf 51 d_66_48 rfl (ci := 7) (k := 5) rfl (hF.at 0 rfl) rfl ?_
            refine ar_iload_n 52 d_66_51 rfl rfl ?_
            refine ar_iconst 53 (v := -1) d_66_52 rfl (by decide) ?_
            refine ar_iastN 54 (e := j1) d_66_53 rfl (hF.at 6 rfl) (by omega) (by omega) ?_
            replace hF : ax_hs (ax_put hp_7 (nd + 6) (.inl (0, 280, .inl (upd (D 6) j1 (-1))))) [cNd n nd me D, (nd + 1, .inr (8, [.ref (nd + 2), .ref (nd + 3), .ref (nd + 4), .ref (nd + 5), .int (nI (c + 1))])), cAr nd 2 35840 D, (nd + 3, .inl (0, 4096, .inl (erF (D 3) c))), (nd + 4, .inl (0, 32, .inl (upd (D 4) c (nI j1)))), (nd + 5, .inl (0, 280, .inl (upd (D 5) j1 (nI c)))), (nd + 6, .inl (0, 280, .inl (upd (D 6) j1 (-1)))), cLd n nd me D A, cAr nd 8 16 D, cAr nd 9 280 D, cTb nd gg D K, cAr nd 11 48 D, cAr nd 12 48 D, cAr nd 13 48 D, cAr nd 14 2400 D, cAr nd 15 512 D, cAr nd 16 961 D, cAr nd 17 961 D, cWk nd D, cWa nd D, cAr nd 20 612 D, cAr nd 21 1152 D, cRk n nn gg C, cOr n nn gg f] := hF.put 6 _ rfl rfl
            replace hf := hf.put (a := nd + 6) (c := .inl (0, 280, .inl (upd (D 6) j1 (-1)))) (Or.inr (by omega))
            replace hN := hN.put (a := nd + 6) (c := .inl (0, 280, .inl (upd (D 6) j1 (-1)))) (by omega)
            replace hn : (ax_put hp_7 (nd + 6) (.inl (0, 280, .inl (upd (D 6) j1 (-1))))).1 = h0.1 := hn
            replace hs : (ax_put hp_7 (nd + 6) (.inl (0, 280, .inl (upd (D 6) j1 (-1))))).2.1 = h0.2.1 := hs
            generalize ax_put hp_7 (nd + 6) (.inl (0, 280, .inl (upd (D 6) j1 (-1)))) = hp_9 at hF hf hN hn hs ⊢
            refine ar_iinc 57 [(0, .ref nd), (1, .ref (n + 1 + 1 + 2 * q)), (2, .int (nI (i + 1))), (3, .int (nI j1))] d_66_54 rfl rfl (nI_1 i) (by decide) rfl ?_
            refine ar_goto 2 d_66_57 (by decide) ?_
            refine ar_wk [0, 1, 2] rfl (by simp) ?_
            have hS1 : NS Z n nd nn gg C me f q u b uv h0 hp_9 (va_up (va_up (va_up (va_up (va_up D 1 (upd (D 1) 4 (nI (c + 1)))) 3 (erF (D 3) c)) 4 (upd (D 4) c (nI j1))) 5 (upd (D 5) j1 (nI c))) 6 (upd (D 6) j1 (-1))) K A Y := ⟨hF, hN, hf, hn, hs, hp0, hu0⟩
            have hI1 : NI Z nn (va_up (va_up (va_up (va_up (va_up D 1 (upd (D 1) 4 (nI (c + 1)))) 3 (erF (D 3) c)) 4 (upd (D 4) c (nI j1))) 5 (upd (D 5) j1 (nI c))) 6 (upd (D 6) j1 (-1))) := ⟨hD.more hup2 hc hj1 hoj (fun y hy => erF_out hy) (gd.zero (erF_in (by omega))) (fun z => absurd rfl z) (Or.inl erF_st), hI.2⟩
            rw [← show G_66 nn gg C me f u b k (i + 1) (va_up (va_up (va_up (va_up (va_up D 1 (upd (D 1) 4 (nI (c + 1)))) 3 (erF (D 3) c)) 4 (upd (D 4) c (nI j1))) 5 (upd (D 5) j1 (nI c))) 6 (upd (D 6) j1 (-1))) K A Y = G_66 nn gg C me f u b (k + 1) i D K A Y from eq_ifF (nI_ne1 hj1 ey1) (bnN_eq (cl_eq hj1 ey1) (eq_ifF hfu (bnN_eq (cl_eq hc ec) (eq_ifT hoj (rfl)))))]
            exact ih (i + 1) hp_9 (va_up (va_up (va_up (va_up (va_up D 1 (upd (D 1) 4 (nI (c + 1)))) 3 (erF (D 3) c)) 4 (upd (D 4) c (nI j1))) 5 (upd (D 5) j1 (nI c))) 6 (upd (D 6) j1 (-1))) K A Y (by omega) hS1 hI1
          · obtain ⟨kk, hkk, ek⟩ : ∃ kk : Nat, kk < 32 ∧ D 5 j1 = nI kk := by
              obtain ⟨⟨c0, h1, h2, h3, h4⟩, -⟩ := hD
              rcases h4 j1 hj1 with e | ⟨q, q1, q2, -⟩
              · exact absurd (by rw [e]; decide) hoj
              · exact ⟨q, by omega, q2⟩
            refine ar_call (r := []) (na := 0) (kd := 0) (cm := 25) (fr2 := fr - 1) (lo2 := lo - 22) 47 d_66_44 (ar_hoV (as := [.int (nI j1)]) rfl rfl rfl (hF.at 1 rfl)) rfl (by omega) (show lo - 22 + (19 + 3) = lo by omega) (Nat.le_of_ble_eq_true rfl) (Nat.le_of_ble_eq_true rfl) (c_25O (by omega) (by omega) hj1 (by omega) hkk ek (hF.sub (F' := [(nd + 1, .inr (8, [.ref (nd + 2), .ref (nd + 3), .ref (nd + 4), .ref (nd + 5), .int (nI c)])), cAr nd 2 35840 D, cAr nd 3 4096 D, cAr nd 4 32 D, cAr nd 5 280 D]) [1, 2, 3, 4, 5] rfl rfl) rfl rfl (by omega)) ?_
            intro v hp_8 hq
            obtain ⟨rfl, qF, qn, qs, qf⟩ := hq
            have qF : ax_hs hp_8 [(nd + 1, .inr (8, [.ref (nd + 2), .ref (nd + 3), .ref (nd + 4), .ref (nd + 5), .int (nI c)])), cAr nd 2 35840 D, (nd + 3, .inl (0, 4096, .inl (erF (D 3) kk))), cAr nd 4 32 D, cAr nd 5 280 D] := qF
            replace hF : ax_hs hp_8 [cNd n nd me D, cAr nd 6 280 D, cLd n nd me D A, cAr nd 8 16 D, cAr nd 9 280 D, cTb nd gg D K, cAr nd 11 48 D, cAr nd 12 48 D, cAr nd 13 48 D, cAr nd 14 2400 D, cAr nd 15 512 D, cAr nd 16 961 D, cAr nd 17 961 D, cWk nd D, cWa nd D, cAr nd 20 612 D, cAr nd 21 1152 D, cRk n nn gg C, cOr n nn gg f, (nd + 1, .inr (8, [.ref (nd + 2), .ref (nd + 3), .ref (nd + 4), .ref (nd + 5), .int (nI c)])), cAr nd 2 35840 D, (nd + 3, .inl (0, 4096, .inl (erF (D 3) kk))), cAr nd 4 32 D, cAr nd 5 280 D] := ax_hs.call (rest := [cNd n nd me D, cAr nd 6 280 D, cLd n nd me D A, cAr nd 8 16 D, cAr nd 9 280 D, cTb nd gg D K, cAr nd 11 48 D, cAr nd 12 48 D, cAr nd 13 48 D, cAr nd 14 2400 D, cAr nd 15 512 D, cAr nd 16 961 D, cAr nd 17 961 D, cWk nd D, cWa nd D, cAr nd 20 612 D, cAr nd 21 1152 D, cRk n nn gg C, cOr n nn gg f]) [1, 2, 3, 4, 5] [0, 6, 7, 8, 9, 10, 11, 12, 13, 14, 15, 16, 17, 18, 19, 20, 21, 22, 23] hF qf qF rfl rfl rfl [3] rfl rfl [1, 2, 3, 4, 5] (news := []) rfl rfl (fun _ z => absurd z List.not_mem_nil) rfl
            replace hF := hF.sub (F' := [cNd n nd me D, (nd + 1, .inr (8, [.ref (nd + 2), .ref (nd + 3), .ref (nd + 4), .ref (nd + 5), .int (nI c)])), cAr nd 2 35840 D, (nd + 3, .inl (0, 4096, .inl (erF (D 3) kk))), cAr nd 4 32 D, cAr nd 5 280 D, cAr nd 6 280 D, cLd n nd me D A, cAr nd 8 16 D, cAr nd 9 280 D, cTb nd gg D K, cAr nd 11 48 D, cAr nd 12 48 D, cAr nd 13 48 D, cAr nd 14 2400 D, cAr nd 15 512 D, cAr nd 16 961 D, cAr nd 17 961 D, cWk nd D, cWa nd D, cAr nd 20 612 D, cAr nd 21 1152 D, cRk n nn gg C, cOr n nn gg f]) [0, 19, 20, 21, 22, 23, 1, 2, 3, 4, 5, 6, 7, 8, 9, 10, 11, 12, 13, 14, 15, 16, 17, 18] rfl rfl
            replace hN := hN.fr qf (fun x hx z => by simp only [List.mem_cons, List.not_mem_nil, or_false] at z; unfold NTA at hx; omega)
            replace hf := hf.trC qf (fun x _ z => Or.inr (by simp only [List.mem_cons, List.not_mem_nil, or_false] at z; omega))
            replace hn : hp_8.1 = h0.1 := by omega
            replace hs : hp_8.2.1 = h0.2.1 := by omega
            clear qF qn qs qf
            refine ar_aload_n 48 d_66_47 rfl rfl ?_
            refine ar_getf 51 d_66_48 rfl (ci := 7) (k := 5) rfl (hF.at 0 rfl) rfl ?_
            refine ar_iload_n 52 d_66_51 rfl rfl ?_
            refine ar_iconst 53 (v := -1) d_66_52 rfl (by decide) ?_
            refine ar_iastN 54 (e := j1) d_66_53 rfl (hF.at 6 rfl) (by omega) (by omega) ?_
            replace hF : ax_hs (ax_put hp_8 (nd + 6) (.inl (0, 280, .inl (upd (D 6) j1 (-1))))) [cNd n nd me D, (nd + 1, .inr (8, [.ref (nd + 2), .ref (nd + 3), .ref (nd + 4), .ref (nd + 5), .int (nI c)])), cAr nd 2 35840 D, (nd + 3, .inl (0, 4096, .inl (erF (D 3) kk))), cAr nd 4 32 D, cAr nd 5 280 D, (nd + 6, .inl (0, 280, .inl (upd (D 6) j1 (-1)))), cLd n nd me D A, cAr nd 8 16 D, cAr nd 9 280 D, cTb nd gg D K, cAr nd 11 48 D, cAr nd 12 48 D, cAr nd 13 48 D, cAr nd 14 2400 D, cAr nd 15 512 D, cAr nd 16 961 D, cAr nd 17 961 D, cWk nd D, cWa nd D, cAr nd 20 612 D, cAr nd 21 1152 D, cRk n nn gg C, cOr n nn gg f] := hF.put 6 _ rfl rfl
            replace hf := hf.put (a := nd + 6) (c := .inl (0, 280, .inl (upd (D 6) j1 (-1)))) (Or.inr (by omega))
            replace hN := hN.put (a := nd + 6) (c := .inl (0, 280, .inl (upd (D 6) j1 (-1)))) (by omega)
            replace hn : (ax_put hp_8 (nd + 6) (.inl (0, 280, .inl (upd (D 6) j1 (-1))))).1 = h0.1 := hn
            replace hs : (ax_put hp_8 (nd + 6) (.inl (0, 280, .inl (upd (D 6) j1 (-1))))).2.1 = h0.2.1 := hs
            generalize ax_put hp_8 (nd + 6) (.inl (0, 280, .inl (upd (D 6) j1 (-1)))) = hp_10 at hF hf hN hn hs ⊢
            refine ar_iinc 57 [(0, .ref nd), (1, .ref (n + 1 + 1 + 2 * q)), (2, .int (nI (i + 1))), (3, .int (nI j1))] d_66_54 rfl rfl (nI_1 i) (by decide) rfl ?_
            refine ar_goto 2 d_66_57 (by decide) ?_
            refine ar_wk [0, 1, 2] rfl (by simp) ?_
            have hS1 : NS Z n nd nn gg C me f q u b uv h0 hp_10 (va_up (va_up (va_up D 1 (upd (D 1) 4 (nI c))) 3 (erF (D 3) kk)) 6 (upd (D 6) j1 (-1))) K A Y := ⟨hF, hN, hf, hn, hs, hp0, hu0⟩
            have hI1 : NI Z nn (va_up (va_up (va_up D 1 (upd (D 1) 4 (nI c))) 3 (erF (D 3) kk)) 6 (upd (D 6) j1 (-1))) := ⟨hD.again hup2 hj1 hkk ek, hI.2⟩
            rw [← show G_66 nn gg C me f u b k (i + 1) (va_up (va_up (va_up D 1 (upd (D 1) 4 (nI c))) 3 (erF (D 3) kk)) 6 (upd (D 6) j1 (-1))) K A Y = G_66 nn gg C me f u b (k + 1) i D K A Y from eq_ifF (nI_ne1 hj1 ey1) (bnN_eq (cl_eq hj1 ey1) (eq_ifF hfu (bnN_eq (cl_eq hc ec) (eq_ifF hoj (bnN_eq (cl_eq hkk ek) (rfl))))))]
            exact ih (i + 1) hp_10 (va_up (va_up (va_up D 1 (upd (D 1) 4 (nI c))) 3 (erF (D 3) kk)) 6 (upd (D 6) j1 (-1))) K A Y (by omega) hS1 hI1
  show ax_A (ax_step L xs) ((66, 0, fr, lo), [(0, .ref nd), (1, .ref (n + 1 + 1 + 2 * q))], [], h) _
  refine ar_iconst 1 (v := 0) d_66_0 rfl (by decide) ?_
  refine ar_istore_n 2 [(0, .ref nd), (1, .ref (n + 1 + 1 + 2 * q)), (2, .int 0)] d_66_1 rfl (by decide) rfl ?_
  rw [← show G_66 nn gg C me f u b cnt 0 D K A Y = F_66 nn gg C me f u b D K A Y from bnN_eq (cl_eq hcnt hu) (rfl)]
  exact key cnt 0 h D K A Y (by omega) hS hI
def G_19 (nn gg : Nat) (C me : Int32) (f u b : Nat → Int32)  : Nat → Nat → (Nat → Nat → Int32) → Int64 → Int64 → List Mg → St
  | 0, i, D, K, A, Y =>
    (D, K, A, Y)
  | k + 1, i, D, K, A, Y =>
    if ¬ fstB (D 2 (i * 128)) = 0 ∧ fstB (D 2 (i * 128)) = lstB (D 2 (i * 128 + 127)) then
      if (D 2 (i * 128 + 1)) < 0 then
        G_19 nn gg C me f u b k (i + 1) (va_up D 6 (upd (D 6) i (D 2 (i * 128 + 1)))) K A Y
      else
        if sloB (D 6) (D 2 (i * 128 + 1)) = -1 then
          G_19 nn gg C me f u b k (i + 1) (va_up D 6 (upd (D 6) i (D 2 (i * 128 + 1)))) K A Y
        else
          bnN ((sloB (D 6) (D 2 (i * 128 + 1))).toNatClampNeg) (fun j3 =>
            if D 1 4 = 32 then
              bnN ((D 1 4).toNatClampNeg) (fun c0 =>
                bnS ((va_up (va_up (va_up D 1 (upd (D 1) 4 0)) 2 (flsF (D 3) (D 4) c0 (D 2))) 5 (flsO (D 4) c0 (D 5)), K, A, Y)) (fun D5 K A Y =>
                  bnN ((D5 1 4).toNatClampNeg) (fun c =>
                    G_19 nn gg C me f u b k (i + 1) (va_up (va_up (va_up (va_up (va_up D5 1 (upd (D5 1) 4 (nI (c + 1)))) 3 (erF (D5 3) c)) 4 (upd (D5 4) c (nI i))) 5 (upd (D5 5) i (nI c))) 6 (upd (D5 6) i (-1))) K A Y)))
            else
              bnN ((D 1 4).toNatClampNeg) (fun c =>
                G_19 nn gg C me f u b k (i + 1) (va_up (va_up (va_up (va_up (va_up D 1 (upd (D 1) 4 (nI (c + 1)))) 3 (erF (D 3) c)) 4 (upd (D 4) c (nI i))) 5 (upd (D 5) i (nI c))) 6 (upd (D 6) i (-1))) K A Y))
    else
      G_19 nn gg C me f u b k (i + 1) (va_up D 6 (upd (D 6) i (-1))) K A Y
def F_19 (nn gg : Nat) (C me : Int32) (f u b : Nat → Int32) (D : Nat → Nat → Int32) (K A : Int64) (Y : List Mg) : St := G_19 nn gg C me f u b 280 0 D K A Y
set_option maxRecDepth 100000 in
theorem s_19 {L : Nat} {xs : Nat → Int32} {fr lo : Nat} {Z : ZT} {n nd nn gg : Nat} {C me : Int32} {f : Nat → Int32} {q : Nat} {u b : Nat → Int32} {uv : Int32} {h0 h : ax_H} {D : Nat → Nat → Int32} {K A : Int64} {Y : List Mg}  (hfr : 4 ≤ fr) (hlo : 100 ≤ lo) (hC : CS n nd nn gg f) (hS : NS Z n nd nn gg C me f q u b uv h0 h D K A Y) (hI : NI Z nn D) (hup : ¬ uv = 0) (h5 : ∀ s, s < 280 → D 5 s < 0) : ax_M L xs 19 fr lo [.ref nd] h (fun r h' => r = none ∧ PS Z n nd nn gg C me f q u b uv h0 h' (fun D' K' A' Y' => (D', K', A', Y') = F_19 nn gg C me f u b D K A Y ∧ True)) := by
  have hC0 := hC
  have key : ∀ (k i : Nat) (h : ax_H) (D : Nat → Nat → Int32) (K A : Int64) (Y : List Mg), i + k = 280 → NS Z n nd nn gg C me f q u b uv h0 h D K A Y → NI Z nn D → (∀ s, i ≤ s → s < 280 → D 5 s < 0) → ax_A (ax_step L xs) ((19, 2, fr, lo), [(0, .ref nd), (1, .int (nI i))], [], h) (fun r h' => r = none ∧ PS Z n nd nn gg C me f q u b uv h0 h' (fun D' K' A' Y' => (D', K', A', Y') = G_19 nn gg C me f u b k i D K A Y ∧ True)) := by
    intro k
    induction k with
    | zero =>
      intro i h D K A Y hi hS hI h5
      have e0 : i = 280 := by omega
      subst e0
      obtain ⟨hnd, hn0, hnn3, hnn, hgg1, hgg, hRg⟩ := hC
      obtain ⟨hF, hN, hf, hn, hs, hp0, hu0⟩ := hS
      replace hF : ax_hs h [cNd n nd me D, cDk nd D, cAr nd 2 35840 D, cAr nd 3 4096 D, cAr nd 4 32 D, cAr nd 5 280 D, cAr nd 6 280 D, cLd n nd me D A, cAr nd 8 16 D, cAr nd 9 280 D, cTb nd gg D K, cAr nd 11 48 D, cAr nd 12 48 D, cAr nd 13 48 D, cAr nd 14 2400 D, cAr nd 15 512 D, cAr nd 16 961 D, cAr nd 17 961 D, cWk nd D, cWa nd D, cAr nd 20 612 D, cAr nd 21 1152 D, cRk n nn gg C, cOr n nn gg f] := hF
      refine ar_iload_n 3 d_19_2 rfl rfl ?_
      refine ar_sipush 6 (v := 280) d_19_3 rfl (by decide) ?_
      refine ar_icmp_ge 85 9 d_19_6 (by decide) rfl (fun _ => ?_) (fun c => absurd (Int32.le_refl _) c)
      have hS9 : NS Z n nd nn gg C me f q u b uv h0 h D K A Y := ⟨hF, hN, hf, hn, hs, hp0, hu0⟩
      have hI9 : NI Z nn D := hI
      exact ar_ret d_19_85 rfl (⟨rfl, _, _, _, _, hS9, hI9, rfl, trivial⟩)
    | succ k ih =>
      intro i h D K A Y hi hS hI h5
      have hic : i < 280 := by omega
      have hoi := h5 i (by omega) hic
      obtain ⟨hnd, hn0, hnn3, hnn, hgg1, hgg, hRg⟩ := hC
      obtain ⟨hF, hN, hf, hn, hs, hp0, hu0⟩ := hS
      replace hF : ax_hs h [cNd n nd me D, cDk nd D, cAr nd 2 35840 D, cAr nd 3 4096 D, cAr nd 4 32 D, cAr nd 5 280 D, cAr nd 6 280 D, cLd n nd me D A, cAr nd 8 16 D, cAr nd 9 280 D, cTb nd gg D K, cAr nd 11 48 D, cAr nd 12 48 D, cAr nd 13 48 D, cAr nd 14 2400 D, cAr nd 15 512 D, cAr nd 16 961 D, cAr nd 17 961 D, cWk nd D, cWa nd D, cAr nd 20 612 D, cAr nd 21 1152 D, cRk n nn gg C, cOr n nn gg f] := hF
      refine ar_iload_n 3 d_19_2 rfl rfl ?_
      refine ar_sipush 6 (v := 280) d_19_3 rfl (by decide) ?_
      refine ar_icmp_ge 85 9 d_19_6 (by decide) rfl (fun c => absurd c (nI_ge hic (by decide))) (fun _ => ?_)
      refine ar_aload_n 10 d_19_9 rfl rfl ?_
      refine ar_getf 13 d_19_10 rfl (ci := 7) (k := 3) rfl (hF.at 0 rfl) rfl ?_
      refine ar_iload_n 14 d_19_13 rfl rfl ?_
      by_cases hwh : whB (D 2) i
      · refine ar_call (r := []) (na := 0) (kd := 0) (cm := 20) (fr2 := fr - 1) (lo2 := lo - 23) 17 d_19_14 (ar_hoV (as := [.int (nI i)]) rfl rfl rfl (hF.at 1 rfl)) rfl (by omega) (show lo - 23 + (19 + 4) = lo by omega) (Nat.le_of_ble_eq_true rfl) (Nat.le_of_ble_eq_true rfl) (c_20T hic hwh (hF.sub (F' := [cDk nd D, cAr nd 2 35840 D]) [1, 2] rfl rfl)) ?_
        intro v hh hq
        obtain ⟨rfl, ehh⟩ := hq
        rw [ehh]
        clear ehh
        refine ar_if_eq 31 20 d_19_17 (by decide) rfl (fun c => absurd c (by decide)) (fun _ => ?_)
        refine ar_aload_n 21 d_19_20 rfl rfl ?_
        refine ar_getf 24 d_19_21 rfl (ci := 7) (k := 3) rfl (hF.at 0 rfl) rfl ?_
        refine ar_iload_n 25 d_19_24 rfl rfl ?_
        refine ar_call (r := []) (na := 0) (kd := 0) (cm := 21) (fr2 := fr - 1) (lo2 := lo - 21) 28 d_19_25 (ar_hoV (as := [.int (nI i)]) rfl rfl rfl (hF.at 1 rfl)) rfl (by omega) (show lo - 21 + (19 + 2) = lo by omega) (Nat.le_of_ble_eq_true rfl) (Nat.le_of_ble_eq_true rfl) (c_21 hic (hF.sub (F' := [cDk nd D, cAr nd 2 35840 D]) [1, 2] rfl rfl)) ?_
        intro v hh hq
        obtain ⟨rfl, ehh⟩ := hq
        rw [ehh]
        clear ehh
        refine ar_goto 32 d_19_28 (by decide) ?_
        refine ar_istore_n 33 [(0, .ref nd), (1, .int (nI i)), (2, .int (D 2 (i * 128 + 1)))] d_19_32 rfl (by decide) rfl ?_
        refine ar_iload_n 34 d_19_33 rfl rfl ?_
        refine ar_if_lt 72 37 d_19_34 (by decide) rfl (fun cc1 => ?_) (fun cc1 => ?_)
        · refine ar_aload_n 73 d_19_72 rfl rfl ?_
          refine ar_getf 76 d_19_73 rfl (ci := 7) (k := 5) rfl (hF.at 0 rfl) rfl ?_
          refine ar_iload_n 77 d_19_76 rfl rfl ?_
          refine ar_iload_n 78 d_19_77 rfl rfl ?_
          refine ar_iastN 79 (e := i) d_19_78 rfl (hF.at 6 rfl) (by omega) (by omega) ?_
          replace hF : ax_hs (ax_put h (nd + 6) (.inl (0, 280, .inl (upd (D 6) i (D 2 (i * 128 + 1)))))) [cNd n nd me D, cDk nd D, cAr nd 2 35840 D, cAr nd 3 4096 D, cAr nd 4 32 D, cAr nd 5 280 D, (nd + 6, .inl (0, 280, .inl (upd (D 6) i (D 2 (i * 128 + 1))))), cLd n nd me D A, cAr nd 8 16 D, cAr nd 9 280 D, cTb nd gg D K, cAr nd 11 48 D, cAr nd 12 48 D, cAr nd 13 48 D, cAr nd 14 2400 D, cAr nd 15 512 D, cAr nd 16 961 D, cAr nd 17 961 D, cWk nd D, cWa nd D, cAr nd 20 612 D, cAr nd 21 1152 D, cRk n nn gg C, cOr n nn gg f] := hF.put 6 _ rfl rfl
          replace hf := hf.put (a := nd + 6) (c := .inl (0, 280, .inl (upd (D 6) i (D 2 (i * 128 + 1))))) (Or.inr (by omega))
          replace hN := hN.put (a := nd + 6) (c := .inl (0, 280, .inl (upd (D 6) i (D 2 (i * 128 + 1))))) (by omega)
          replace hn : (ax_put h (nd + 6) (.inl (0, 280, .inl (upd (D 6) i (D 2 (i * 128 + 1)))))).1 = h0.1 := hn
          replace hs : (ax_put h (nd + 6) (.inl (0, 280, .inl (upd (D 6) i (D 2 (i * 128 + 1)))))).2.1 = h0.2.1 := hs
          generalize ax_put h (nd + 6) (.inl (0, 280, .inl (upd (D 6) i (D 2 (i * 128 + 1))))) = hp_2 at hF hf hN hn hs ⊢
          refine ar_iinc 82 [(0, .ref nd), (1, .int (nI (i + 1))), (2, .int (D 2 (i * 128 + 1)))] d_19_79 rfl rfl (nI_1 i) (by decide) rfl ?_
          refine ar_goto 2 d_19_82 (by decide) ?_
          refine ar_wk [0, 1] rfl (by simp) ?_
          have hS1 : NS Z n nd nn gg C me f q u b uv h0 hp_2 (va_up D 6 (upd (D 6) i (D 2 (i * 128 + 1)))) K A Y := ⟨hF, hN, hf, hn, hs, hp0, hu0⟩
          have hI1 : NI Z nn (va_up D 6 (upd (D 6) i (D 2 (i * 128 + 1)))) := ⟨hI.1.tag (by rw [hu0]; exact hup) hic hoi (fun _ => ⟨rfl, hI.1.2.1 i hic hwh⟩), hI.2⟩
          rw [← show G_19 nn gg C me f u b k (i + 1) (va_up D 6 (upd (D 6) i (D 2 (i * 128 + 1)))) K A Y = G_19 nn gg C me f u b (k + 1) i D K A Y from eq_ifT hwh (eq_ifT cc1 (rfl))]
          exact ih (i + 1) hp_2 (va_up D 6 (upd (D 6) i (D 2 (i * 128 + 1)))) K A Y (by omega) hS1 hI1 (fun s h1 h2 => h5 s (by omega) h2)
        · refine ar_aload_n 38 d_19_37 rfl rfl ?_
          refine ar_iload_n 39 d_19_38 rfl rfl ?_
          refine ar_call (r := []) (na := 0) (kd := 0) (cm := 22) (fr2 := fr - 1) (lo2 := lo - 22) 42 d_19_39 (ar_hoV (as := [.int (D 2 (i * 128 + 1))]) rfl rfl rfl (hF.at 0 rfl)) rfl (by omega) (show lo - 22 + (19 + 3) = lo by omega) (Nat.le_of_ble_eq_true rfl) (Nat.le_of_ble_eq_true rfl) (c_22E (hF.sub (F' := [cNd n nd me D, cAr nd 6 280 D]) [0, 6] rfl rfl)) ?_
          intro v hh hq
          obtain ⟨rfl, ehh⟩ := hq
          rw [ehh]
          clear ehh
          rcases sloB_or (D 6) (D 2 (i * 128 + 1)) with ⟨ey3, hno3⟩ | ⟨j3, hj3, ey3, htj3⟩
          · refine ar_top (x' := -1) (ey3) ?_
            refine ar_if_lt 72 45 d_19_42 (by decide) rfl (fun _ => ?_) (fun c => absurd (by decide) c)
            refine ar_aload_n 73 d_19_72 rfl rfl ?_
            refine ar_getf 76 d_19_73 rfl (ci := 7) (k := 5) rfl (hF.at 0 rfl) rfl ?_
            refine ar_iload_n 77 d_19_76 rfl rfl ?_
            refine ar_iload_n 78 d_19_77 rfl rfl ?_
            refine ar_iastN 79 (e := i) d_19_78 rfl (hF.at 6 rfl) (by omega) (by omega) ?_
            replace hF : ax_hs (ax_put h (nd + 6) (.inl (0, 280, .inl (upd (D 6) i (D 2 (i * 128 + 1)))))) [cNd n nd me D, cDk nd D, cAr nd 2 35840 D, cAr nd 3 4096 D, cAr nd 4 32 D, cAr nd 5 280 D, (nd + 6, .inl (0, 280, .inl (upd (D 6) i (D 2 (i * 128 + 1))))), cLd n nd me D A, cAr nd 8 16 D, cAr nd 9 280 D, cTb nd gg D K, cAr nd 11 48 D, cAr nd 12 48 D, cAr nd 13 48 D, cAr nd 14 2400 D, cAr nd 15 512 D, cAr nd 16 961 D, cAr nd 17 961 D, cWk nd D, cWa nd D, cAr nd 20 612 D, cAr nd 21 1152 D, cRk n nn gg C, cOr n nn gg f] := hF.put 6 _ rfl rfl
            replace hf := hf.put (a := nd + 6) (c := .inl (0, 280, .inl (upd (D 6) i (D 2 (i * 128 + 1))))) (Or.inr (by omega))
            replace hN := hN.put (a := nd + 6) (c := .inl (0, 280, .inl (upd (D 6) i (D 2 (i * 128 + 1))))) (by omega)
            replace hn : (ax_put h (nd + 6) (.inl (0, 280, .inl (upd (D 6) i (D 2 (i * 128 + 1)))))).1 = h0.1 := hn
            replace hs : (ax_put h (nd + 6) (.inl (0, 280, .inl (upd (D 6) i (D 2 (i * 128 + 1)))))).2.1 = h0.2.1 := hs
            generalize ax_put h (nd + 6) (.inl (0, 280, .inl (upd (D 6) i (D 2 (i * 128 + 1))))) = hp_4 at hF hf hN hn hs ⊢
            refine ar_iinc 82 [(0, .ref nd), (1, .int (nI (i + 1))), (2, .int (D 2 (i * 128 + 1)))] d_19_79 rfl rfl (nI_1 i) (by decide) rfl ?_
            refine ar_goto 2 d_19_82 (by decide) ?_
            refine ar_wk [0, 1] rfl (by simp) ?_
            have hS1 : NS Z n nd nn gg C me f q u b uv h0 hp_4 (va_up D 6 (upd (D 6) i (D 2 (i * 128 + 1)))) K A Y := ⟨hF, hN, hf, hn, hs, hp0, hu0⟩
            have hI1 : NI Z nn (va_up D 6 (upd (D 6) i (D 2 (i * 128 + 1)))) := ⟨hI.1.tag (by rw [hu0]; exact hup) hic hoi (fun _ => ⟨rfl, hI.1.2.1 i hic hwh⟩), hI.2⟩
            rw [← show G_19 nn gg C me f u b k (i + 1) (va_up D 6 (upd (D 6) i (D 2 (i * 128 + 1)))) K A Y = G_19 nn gg C me f u b (k + 1) i D K A Y from eq_ifT hwh (eq_ifF cc1 (eq_ifT ey3 (rfl)))]
            exact ih (i + 1) hp_4 (va_up D 6 (upd (D 6) i (D 2 (i * 128 + 1)))) K A Y (by omega) hS1 hI1 (fun s h1 h2 => h5 s (by omega) h2)
          · refine ar_top (x' := nI j3) (ey3) ?_
            refine ar_if_lt 72 45 d_19_42 (by decide) rfl (fun c => absurd c (nI_pos (by omega))) (fun _ => ?_)
            refine ar_aload_n 46 d_19_45 rfl rfl ?_
            refine ar_getf 49 d_19_46 rfl (ci := 7) (k := 3) rfl (hF.at 0 rfl) rfl ?_
            refine ar_call (r := []) (na := 0) (kd := 0) (cm := 23) (fr2 := fr - 1) (lo2 := lo - 20) 52 d_19_49 (ar_hoV (as := []) rfl rfl rfl (hF.at 1 rfl)) rfl (by omega) (show lo - 20 + (19 + 1) = lo by omega) (Nat.le_of_ble_eq_true rfl) (Nat.le_of_ble_eq_true rfl) (c_23E (hF.at 1 rfl)) ?_
            intro v hh hq
            obtain ⟨rfl, ehh⟩ := hq
            rw [ehh]
            clear ehh
            by_cases hfu : D 1 4 = 32
            · refine ar_top (x' := 1) (if_pos hfu) ?_
              refine ar_if_eq 62 55 d_19_52 (by decide) rfl (fun c => absurd c (by decide)) (fun _ => ?_)
              refine ar_aload_n 56 d_19_55 rfl rfl ?_
              refine ar_getf 59 d_19_56 rfl (ci := 7) (k := 3) rfl (hF.at 0 rfl) rfl ?_
              obtain ⟨c0, hc0, ec0, -⟩ := hI.1.1
              have hD0 : DI Z (D 0 6) (nI c0) (D 2) (D 3) (D 4) (D 5) (D 6) := by
                have e := hI.1
                rw [ec0] at e
                exact e
              have hup0 : ¬ D 0 6 = 0 := by rw [hu0]; exact hup
              have hDF := hD0.flush hc0 hup0
              replace hF : ax_hs h [cNd n nd me D, (nd + 1, .inr (8, [.ref (nd + 2), .ref (nd + 3), .ref (nd + 4), .ref (nd + 5), .int (nI c0)])), cAr nd 2 35840 D, cAr nd 3 4096 D, cAr nd 4 32 D, cAr nd 5 280 D, cAr nd 6 280 D, cLd n nd me D A, cAr nd 8 16 D, cAr nd 9 280 D, cTb nd gg D K, cAr nd 11 48 D, cAr nd 12 48 D, cAr nd 13 48 D, cAr nd 14 2400 D, cAr nd 15 512 D, cAr nd 16 961 D, cAr nd 17 961 D, cWk nd D, cWa nd D, cAr nd 20 612 D, cAr nd 21 1152 D, cRk n nn gg C, cOr n nn gg f] := by
                have e : ax_hs h [cNd n nd me D, (nd + 1, .inr (8, [.ref (nd + 2), .ref (nd + 3), .ref (nd + 4), .ref (nd + 5), .int (D 1 4)])), cAr nd 2 35840 D, cAr nd 3 4096 D, cAr nd 4 32 D, cAr nd 5 280 D, cAr nd 6 280 D, cLd n nd me D A, cAr nd 8 16 D, cAr nd 9 280 D, cTb nd gg D K, cAr nd 11 48 D, cAr nd 12 48 D, cAr nd 13 48 D, cAr nd 14 2400 D, cAr nd 15 512 D, cAr nd 16 961 D, cAr nd 17 961 D, cWk nd D, cWa nd D, cAr nd 20 612 D, cAr nd 21 1152 D, cRk n nn gg C, cOr n nn gg f] := hF
                rw [ec0] at e
                exact e
              refine ar_call (r := []) (na := 0) (kd := 0) (cm := 24) (fr2 := fr - 1) (lo2 := lo - 21) 62 d_19_59 (ar_hoV (as := []) rfl rfl rfl (hF.at 1 rfl)) rfl (by omega) (show lo - 21 + (19 + 2) = lo by omega) (Nat.le_of_ble_eq_true rfl) (Nat.le_of_ble_eq_true rfl) (c_24 (by omega) (by omega) hc0 (hD0.swr hc0) (hF.sub (F' := [(nd + 1, .inr (8, [.ref (nd + 2), .ref (nd + 3), .ref (nd + 4), .ref (nd + 5), .int (nI c0)])), cAr nd 2 35840 D, cAr nd 3 4096 D, cAr nd 4 32 D, cAr nd 5 280 D]) [1, 2, 3, 4, 5] rfl rfl) rfl rfl (by omega)) ?_
              intro v hp_5 hq
              obtain ⟨rfl, qF, qn, qs, qf⟩ := hq
              have qF : ax_hs hp_5 [(nd + 1, .inr (8, [.ref (nd + 2), .ref (nd + 3), .ref (nd + 4), .ref (nd + 5), .int 0])), (nd + 2, .inl (0, 35840, .inl (flsF (D 3) (D 4) c0 (D 2)))), cAr nd 3 4096 D, cAr nd 4 32 D, (nd + 5, .inl (0, 280, .inl (flsO (D 4) c0 (D 5))))] := qF
              replace hF : ax_hs hp_5 [cNd n nd me D, cAr nd 6 280 D, cLd n nd me D A, cAr nd 8 16 D, cAr nd 9 280 D, cTb nd gg D K, cAr nd 11 48 D, cAr nd 12 48 D, cAr nd 13 48 D, cAr nd 14 2400 D, cAr nd 15 512 D, cAr nd 16 961 D, cAr nd 17 961 D, cWk nd D, cWa nd D, cAr nd 20 612 D, cAr nd 21 1152 D, cRk n nn gg C, cOr n nn gg f, (nd + 1, .inr (8, [.ref (nd + 2), .ref (nd + 3), .ref (nd + 4), .ref (nd + 5), .int 0])), (nd + 2, .inl (0, 35840, .inl (flsF (D 3) (D 4) c0 (D 2)))), cAr nd 3 4096 D, cAr nd 4 32 D, (nd + 5, .inl (0, 280, .inl (flsO (D 4) c0 (D 5))))] := ax_hs.call (rest := [cNd n nd me D, cAr nd 6 280 D, cLd n nd me D A, cAr nd 8 16 D, cAr nd 9 280 D, cTb nd gg D K, cAr nd 11 48 D, cAr nd 12 48 D, cAr nd 13 48 D, cAr nd 14 2400 D, cAr nd 15 512 D, cAr nd 16 961 D, cAr nd 17 961 D, cWk nd D, cWa nd D, cAr nd 20 612 D, cAr nd 21 1152 D, cRk n nn gg C, cOr n nn gg f]) [1, 2, 3, 4, 5] [0, 6, 7, 8, 9, 10, 11, 12, 13, 14, 15, 16, 17, 18, 19, 20, 21, 22, 23] hF qf qF rfl rfl rfl [1, 2, 5] rfl rfl [1, 2, 3, 4, 5] (news := []) rfl rfl (fun _ z => absurd z List.not_mem_nil) rfl
              replace hF := hF.sub (F' := [cNd n nd me D, (nd + 1, .inr (8, [.ref (nd + 2), .ref (nd + 3), .ref (nd + 4), .ref (nd + 5), .int 0])), (nd + 2, .inl (0, 35840, .inl (flsF (D 3) (D 4) c0 (D 2)))), cAr nd 3 4096 D, cAr nd 4 32 D, (nd + 5, .inl (0, 280, .inl (flsO (D 4) c0 (D 5)))), cAr nd 6 280 D, cLd n nd me D A, cAr nd 8 16 D, cAr nd 9 280 D, cTb nd gg D K, cAr nd 11 48 D, cAr nd 12 48 D, cAr nd 13 48 D, cAr nd 14 2400 D, cAr nd 15 512 D, cAr nd 16 961 D, cAr nd 17 961 D, cWk nd D, cWa nd D, cAr nd 20 612 D, cAr nd 21 1152 D, cRk n nn gg C, cOr n nn gg f]) [0, 19, 20, 21, 22, 23, 1, 2, 3, 4, 5, 6, 7, 8, 9, 10, 11, 12, 13, 14, 15, 16, 17, 18] rfl rfl
              replace hN := hN.fr qf (fun x hx z => by simp only [List.mem_cons, List.not_mem_nil, or_false] at z; unfold NTA at hx; omega)
              replace hf := hf.trC qf (fun x _ z => Or.inr (by simp only [List.mem_cons, List.not_mem_nil, or_false] at z; omega))
              replace hn : hp_5.1 = h0.1 := by omega
              replace hs : hp_5.2.1 = h0.2.1 := by omega
              clear qF qn qs qf
              have hS3 : NS Z n nd nn gg C me f q u b uv h0 hp_5 (va_up (va_up (va_up D 1 (upd (D 1) 4 0)) 2 (flsF (D 3) (D 4) c0 (D 2))) 5 (flsO (D 4) c0 (D 5))) K A Y := ⟨hF, hN, hf, hn, hs, hp0, hu0⟩
              have hI3 : NI Z nn (va_up (va_up (va_up D 1 (upd (D 1) 4 0)) 2 (flsF (D 3) (D 4) c0 (D 2))) 5 (flsO (D 4) c0 (D 5))) := ⟨hDF.1, hI.2⟩
              have hf1 : (va_up (va_up (va_up D 1 (upd (D 1) 4 0)) 2 (flsF (D 3) (D 4) c0 (D 2))) 5 (flsO (D 4) c0 (D 5))) 1 4 = 0 := rfl
              have hf5 : ∀ s, s < 280 → (va_up (va_up (va_up D 1 (upd (D 1) 4 0)) 2 (flsF (D 3) (D 4) c0 (D 2))) 5 (flsO (D 4) c0 (D 5))) 5 s < 0 := fun s hs => by rw [show (va_up (va_up (va_up D 1 (upd (D 1) 4 0)) 2 (flsF (D 3) (D 4) c0 (D 2))) 5 (flsO (D 4) c0 (D 5))) 5 s = -1 from hDF.2 s hs]; decide
              generalize hE5 : va_up (va_up (va_up D 1 (upd (D 1) 4 0)) 2 (flsF (D 3) (D 4) c0 (D 2))) 5 (flsO (D 4) c0 (D 5)) = D5 at hS3 hI3 hf1 hf5
              clear hF hN hf hn hs hp0 hu0
              obtain ⟨hF, hN, hf, hn, hs, hp0, hu0⟩ := hS3
              replace hF : ax_hs hp_5 [cNd n nd me D5, cDk nd D5, cAr nd 2 35840 D5, cAr nd 3 4096 D5, cAr nd 4 32 D5, cAr nd 5 280 D5, cAr nd 6 280 D5, cLd n nd me D5 A, cAr nd 8 16 D5, cAr nd 9 280 D5, cTb nd gg D5 K, cAr nd 11 48 D5, cAr nd 12 48 D5, cAr nd 13 48 D5, cAr nd 14 2400 D5, cAr nd 15 512 D5, cAr nd 16 961 D5, cAr nd 17 961 D5, cWk nd D5, cWa nd D5, cAr nd 20 612 D5, cAr nd 21 1152 D5, cRk n nn gg C, cOr n nn gg f] := hF
              refine ar_aload_n 63 d_19_62 rfl rfl ?_
              refine ar_getf 66 d_19_63 rfl (ci := 7) (k := 3) rfl (hF.at 0 rfl) rfl ?_
              refine ar_iload_n 67 d_19_66 rfl rfl ?_
              obtain ⟨c, hc, ec⟩ : ∃ c : Nat, c < 32 ∧ D5 1 4 = nI c := ⟨0, by omega, hf1⟩
              have hD : DI Z (D5 0 6) (nI c) (D5 2) (D5 3) (D5 4) (D5 5) (D5 6) := by
                have e := hI3.1
                rw [ec] at e
                exact e
              have hup2 : ¬ D5 0 6 = 0 := by rw [hu0]; exact hup
              replace hF : ax_hs hp_5 [cNd n nd me D5, (nd + 1, .inr (8, [.ref (nd + 2), .ref (nd + 3), .ref (nd + 4), .ref (nd + 5), .int (nI c)])), cAr nd 2 35840 D5, cAr nd 3 4096 D5, cAr nd 4 32 D5, cAr nd 5 280 D5, cAr nd 6 280 D5, cLd n nd me D5 A, cAr nd 8 16 D5, cAr nd 9 280 D5, cTb nd gg D5 K, cAr nd 11 48 D5, cAr nd 12 48 D5, cAr nd 13 48 D5, cAr nd 14 2400 D5, cAr nd 15 512 D5, cAr nd 16 961 D5, cAr nd 17 961 D5, cWk nd D5, cWa nd D5, cAr nd 20 612 D5, cAr nd 21 1152 D5, cRk n nn gg C, cOr n nn gg f] := by
                have e : ax_hs hp_5 [cNd n nd me D5, (nd + 1, .inr (8, [.ref (nd + 2), .ref (nd + 3), .ref (nd + 4), .ref (nd + 5), .int (D5 1 4)])), cAr nd 2 35840 D5, cAr nd 3 4096 D5, cAr nd 4 32 D5, cAr nd 5 280 D5, cAr nd 6 280 D5, cLd n nd me D5 A, cAr nd 8 16 D5, cAr nd 9 280 D5, cTb nd gg D5 K, cAr nd 11 48 D5, cAr nd 12 48 D5, cAr nd 13 48 D5, cAr nd 14 2400 D5, cAr nd 15 512 D5, cAr nd 16 961 D5, cAr nd 17 961 D5, cWk nd D5, cWa nd D5, cAr nd 20 612 D5, cAr nd 21 1152 D5, cRk n nn gg C, cOr n nn gg f] := hF
                rw [ec] at e
                exact e
              refine ar_call (r := []) (na := 0) (kd := 0) (cm := 25) (fr2 := fr - 1) (lo2 := lo - 22) 70 d_19_67 (ar_hoV (as := [.int (nI i)]) rfl rfl rfl (hF.at 1 rfl)) rfl (by omega) (show lo - 22 + (19 + 3) = lo by omega) (Nat.le_of_ble_eq_true rfl) (Nat.le_of_ble_eq_true rfl) (c_25N (by omega) (by omega) hic hc (hf5 i hic) (hF.sub (F' := [(nd + 1, .inr (8, [.ref (nd + 2), .ref (nd + 3), .ref (nd + 4), .ref (nd + 5), .int (nI c)])), cAr nd 2 35840 D5, cAr nd 3 4096 D5, cAr nd 4 32 D5, cAr nd 5 280 D5]) [1, 2, 3, 4, 5] rfl rfl) rfl rfl (by omega)) ?_
              intro v hp_6 hq
              obtain ⟨rfl, qF, qn, qs, qf⟩ := hq
              have qF : ax_hs hp_6 [(nd + 1, .inr (8, [.ref (nd + 2), .ref (nd + 3), .ref (nd + 4), .ref (nd + 5), .int (nI (c + 1))])), cAr nd 2 35840 D5, (nd + 3, .inl (0, 4096, .inl (erF (D5 3) c))), (nd + 4, .inl (0, 32, .inl (upd (D5 4) c (nI i)))), (nd + 5, .inl (0, 280, .inl (upd (D5 5) i (nI c))))] := qF
              replace hF : ax_hs hp_6 [cNd n nd me D5, cAr nd 6 280 D5, cLd n nd me D5 A, cAr nd 8 16 D5, cAr nd 9 280 D5, cTb nd gg D5 K, cAr nd 11 48 D5, cAr nd 12 48 D5, cAr nd 13 48 D5, cAr nd 14 2400 D5, cAr nd 15 512 D5, cAr nd 16 961 D5, cAr nd 17 961 D5, cWk nd D5, cWa nd D5, cAr nd 20 612 D5, cAr nd 21 1152 D5, cRk n nn gg C, cOr n nn gg f, (nd + 1, .inr (8, [.ref (nd + 2), .ref (nd + 3), .ref (nd + 4), .ref (nd + 5), .int (nI (c + 1))])), cAr nd 2 35840 D5, (nd + 3, .inl (0, 4096, .inl (erF (D5 3) c))), (nd + 4, .inl (0, 32, .inl (upd (D5 4) c (nI i)))), (nd + 5, .inl (0, 280, .inl (upd (D5 5) i (nI c))))] := ax_hs.call (rest := [cNd n nd me D5, cAr nd 6 280 D5, cLd n nd me D5 A, cAr nd 8 16 D5, cAr nd 9 280 D5, cTb nd gg D5 K, cAr nd 11 48 D5, cAr nd 12 48 D5, cAr nd 13 48 D5, cAr nd 14 2400 D5, cAr nd 15 512 D5, cAr nd 16 961 D5, cAr nd 17 961 D5, cWk nd D5, cWa nd D5, cAr nd 20 612 D5, cAr nd 21 1152 D5, cRk n nn gg C, cOr n nn gg f]) [1, 2, 3, 4, 5] [0, 6, 7, 8, 9, 10, 11, 12, 13, 14, 15, 16, 17, 18, 19, 20, 21, 22, 23] hF qf qF rfl rfl rfl [1, 4, 5, 3] rfl rfl [1, 2, 3, 4, 5] (news := []) rfl rfl (fun _ z => absurd z List.not_mem_nil) rfl
              replace hF := hF.sub (F' := [cNd n nd me D5, (nd + 1, .inr (8, [.ref (nd + 2), .ref (nd + 3), .ref (nd + 4), .ref (nd + 5), .int (nI (c + 1))])), cAr nd 2 35840 D5, (nd + 3, .inl (0, 4096, .inl (erF (D5 3) c))), (nd + 4, .inl (0, 32, .inl (upd (D5 4) c (nI i)))), (nd + 5, .inl (0, 280, .inl (upd (D5 5) i (nI c)))), cAr nd 6 280 D5, cLd n nd me D5 A, cAr nd 8 16 D5, cAr nd 9 280 D5, cTb nd gg D5 K, cAr nd 11 48 D5, cAr nd 12 48 D5, cAr nd 13 48 D5, cAr nd 14 2400 D5, cAr nd 15 512 D5, cAr nd 16 961 D5, cAr nd 17 961 D5, cWk nd D5, cWa nd D5, cAr nd 20 612 D5, cAr nd 21 1152 D5, cRk n nn gg C, cOr n nn gg f]) [0, 19, 20, 21, 22, 23, 1, 2, 3, 4, 5, 6, 7, 8, 9, 10, 11, 12, 13, 14, 15, 16, 17, 18] rfl rfl
              replace hN := hN.fr qf (fun x hx z => by simp only [List.mem_cons, List.not_mem_nil, or_false] at z; unfold NTA at hx; omega)
              replace hf := hf.trC qf (fun x _ z => Or.inr (by simp only [List.mem_cons, List.not_mem_nil, or_false] at z; omega))
              replace hn : hp_6.1 = h0.1 := by omega
              replace hs : hp_6.2.1 = h0.2.1 := by omega
              clear qF qn qs qf
              refine ar_iconst 71 (v := -1) d_19_70 rfl (by decide) ?_
              refine ar_istore_n 72 [(0, .ref nd), (1, .int (nI i)), (2, .int (-1))] d_19_71 rfl (by decide) rfl ?_
              refine ar_aload_n 73 d_19_72 rfl rfl ?_
              refine ar_getf 76 d_19_73 rfl (ci := 7) (k := 5) rfl (hF.at 0 rfl) rfl ?_
              refine ar_iload_n 77 d_19_76 rfl rfl ?_
              refine ar_iload_n 78 d_19_77 rfl rfl ?_
              refine ar_iastN 79 (e := i) d_19_78 rfl (hF.at 6 rfl) (by omega) (by omega) ?_
              replace hF : ax_hs (ax_put hp_6 (nd + 6) (.inl (0, 280, .inl (upd (D5 6) i (-1))))) [cNd n nd me D5, (nd + 1, .inr (8, [.ref (nd + 2), .ref (nd + 3), .ref (nd + 4), .ref (nd + 5), .int (nI (c + 1))])), cAr nd 2 35840 D5, (nd + 3, .inl (0, 4096, .inl (erF (D5 3) c))), (nd + 4, .inl (0, 32, .inl (upd (D5 4) c (nI i)))), (nd + 5, .inl (0, 280, .inl (upd (D5 5) i (nI c)))), (nd + 6, .inl (0, 280, .inl (upd (D5 6) i (-1)))), cLd n nd me D5 A, cAr nd 8 16 D5, cAr nd 9 280 D5, cTb nd gg D5 K, cAr nd 11 48 D5, cAr nd 12 48 D5, cAr nd 13 48 D5, cAr nd 14 2400 D5, cAr nd 15 512 D5, cAr nd 16 961 D5, cAr nd 17 961 D5, cWk nd D5, cWa nd D5, cAr nd 20 612 D5, cAr nd 21 1152 D5, cRk n nn gg C, cOr n nn gg f] := hF.put 6 _ rfl rfl
              replace hf := hf.put (a := nd + 6) (c := .inl (0, 280, .inl (upd (D5 6) i (-1)))) (Or.inr (by omega))
              replace hN := hN.put (a := nd + 6) (c := .inl (0, 280, .inl (upd (D5 6) i (-1)))) (by omega)
              replace hn : (ax_put hp_6 (nd + 6) (.inl (0, 280, .inl (upd (D5 6) i (-1))))).1 = h0.1 := hn
              replace hs : (ax_put hp_6 (nd + 6) (.inl (0, 280, .inl (upd (D5 6) i (-1))))).2.1 = h0.2.1 := hs
              generalize ax_put hp_6 (nd + 6) (.inl (0, 280, .inl (upd (D5 6) i (-1)))) = hp_7 at hF hf hN hn hs ⊢
              refine ar_iinc 82 [(0, .ref nd), (1, .int (nI (i + 1))), (2, .int (-1))] d_19_79 rfl rfl (nI_1 i) (by decide) rfl ?_
              refine ar_goto 2 d_19_82 (by decide) ?_
              refine ar_wk [0, 1] rfl (by simp) ?_
              have hS1 : NS Z n nd nn gg C me f q u b uv h0 hp_7 (va_up (va_up (va_up (va_up (va_up D5 1 (upd (D5 1) 4 (nI (c + 1)))) 3 (erF (D5 3) c)) 4 (upd (D5 4) c (nI i))) 5 (upd (D5 5) i (nI c))) 6 (upd (D5 6) i (-1))) K A Y := ⟨hF, hN, hf, hn, hs, hp0, hu0⟩
              have hI1 : NI Z nn (va_up (va_up (va_up (va_up (va_up D5 1 (upd (D5 1) 4 (nI (c + 1)))) 3 (erF (D5 3) c)) 4 (upd (D5 4) c (nI i))) 5 (upd (D5 5) i (nI c))) 6 (upd (D5 6) i (-1))) := ⟨hD.more hup2 hc hic (hf5 i hic) (fun y hy => erF_out hy) (gd.zero (erF_in (by omega))) (fun z => absurd rfl z) (Or.inl erF_st), hI3.2⟩
              rw [← show G_19 nn gg C me f u b k (i + 1) (va_up (va_up (va_up (va_up (va_up D5 1 (upd (D5 1) 4 (nI (c + 1)))) 3 (erF (D5 3) c)) 4 (upd (D5 4) c (nI i))) 5 (upd (D5 5) i (nI c))) 6 (upd (D5 6) i (-1))) K A Y = G_19 nn gg C me f u b (k + 1) i D K A Y from eq_ifT hwh (eq_ifF cc1 (eq_ifF (nI_ne1 hj3 ey3) (bnN_eq (cl_eq hj3 ey3) (eq_ifT hfu (bnN_eq (cl_eq (show c0 < 33 by omega) ec0) (bnS_eq (by rw [hE5]) (bnN_eq (cl_eq hc ec) (rfl))))))))]
              exact ih (i + 1) hp_7 (va_up (va_up (va_up (va_up (va_up D5 1 (upd (D5 1) 4 (nI (c + 1)))) 3 (erF (D5 3) c)) 4 (upd (D5 4) c (nI i))) 5 (upd (D5 5) i (nI c))) 6 (upd (D5 6) i (-1))) K A Y (by omega) hS1 hI1 (fun s h1 h2 => by
                show upd (D5 5) i (nI c) s < 0
                rw [pk_un (by omega)]
                exact hf5 s h2)
            · refine ar_top (x' := 0) (if_neg hfu) ?_
              have hnf := hfu
              refine ar_if_eq 62 55 d_19_52 (by decide) rfl (fun _ => ?_) (fun c => absurd (by decide) c)
              refine ar_aload_n 63 d_19_62 rfl rfl ?_
              refine ar_getf 66 d_19_63 rfl (ci := 7) (k := 3) rfl (hF.at 0 rfl) rfl ?_
              refine ar_iload_n 67 d_19_66 rfl rfl ?_
              obtain ⟨c, hc, ec⟩ : ∃ c : Nat, c < 32 ∧ D 1 4 = nI c := by
                obtain ⟨c, hc, ec, -⟩ := hI.1.1
                exact ⟨c, Nat.lt_of_le_of_ne hc (fun z => hnf (by rw [ec, z]; rfl)), ec⟩
              have hD : DI Z (D 0 6) (nI c) (D 2) (D 3) (D 4) (D 5) (D 6) := by
                have e := hI.1
                rw [ec] at e
                exact e
              have hup2 : ¬ D 0 6 = 0 := by rw [hu0]; exact hup
              replace hF : ax_hs h [cNd n nd me D, (nd + 1, .inr (8, [.ref (nd + 2), .ref (nd + 3), .ref (nd + 4), .ref (nd + 5), .int (nI c)])), cAr nd 2 35840 D, cAr nd 3 4096 D, cAr nd 4 32 D, cAr nd 5 280 D, cAr nd 6 280 D, cLd n nd me D A, cAr nd 8 16 D, cAr nd 9 280 D, cTb nd gg D K, cAr nd 11 48 D, cAr nd 12 48 D, cAr nd 13 48 D, cAr nd 14 2400 D, cAr nd 15 512 D, cAr nd 16 961 D, cAr nd 17 961 D, cWk nd D, cWa nd D, cAr nd 20 612 D, cAr nd 21 1152 D, cRk n nn gg C, cOr n nn gg f] := by
                have e : ax_hs h [cNd n nd me D, (nd + 1, .inr (8, [.ref (nd + 2), .ref (nd + 3), .ref (nd + 4), .ref (nd + 5), .int (D 1 4)])), cAr nd 2 35840 D, cAr nd 3 4096 D, cAr nd 4 32 D, cAr nd 5 280 D, cAr nd 6 280 D, cLd n nd me D A, cAr nd 8 16 D, cAr nd 9 280 D, cTb nd gg D K, cAr nd 11 48 D, cAr nd 12 48 D, cAr nd 13 48 D, cAr nd 14 2400 D, cAr nd 15 512 D, cAr nd 16 961 D, cAr nd 17 961 D, cWk nd D, cWa nd D, cAr nd 20 612 D, cAr nd 21 1152 D, cRk n nn gg C, cOr n nn gg f] := hF
                rw [ec] at e
                exact e
              refine ar_call (r := []) (na := 0) (kd := 0) (cm := 25) (fr2 := fr - 1) (lo2 := lo - 22) 70 d_19_67 (ar_hoV (as := [.int (nI i)]) rfl rfl rfl (hF.at 1 rfl)) rfl (by omega) (show lo - 22 + (19 + 3) = lo by omega) (Nat.le_of_ble_eq_true rfl) (Nat.le_of_ble_eq_true rfl) (c_25N (by omega) (by omega) hic hc hoi (hF.sub (F' := [(nd + 1, .inr (8, [.ref (nd + 2), .ref (nd + 3), .ref (nd + 4), .ref (nd + 5), .int (nI c)])), cAr nd 2 35840 D, cAr nd 3 4096 D, cAr nd 4 32 D, cAr nd 5 280 D]) [1, 2, 3, 4, 5] rfl rfl) rfl rfl (by omega)) ?_
              intro v hp_8 hq
              obtain ⟨rfl, qF, qn, qs, qf⟩ := hq
              have qF : ax_hs hp_8 [(nd + 1, .inr (8, [.ref (nd + 2), .ref (nd + 3), .ref (nd + 4), .ref (nd + 5), .int (nI (c + 1))])), cAr nd 2 35840 D, (nd + 3, .inl (0, 4096, .inl (erF (D 3) c))), (nd + 4, .inl (0, 32, .inl (upd (D 4) c (nI i)))), (nd + 5, .inl (0, 280, .inl (upd (D 5) i (nI c))))] := qF
              replace hF : ax_hs hp_8 [cNd n nd me D, cAr nd 6 280 D, cLd n nd me D A, cAr nd 8 16 D, cAr nd 9 280 D, cTb nd gg D K, cAr nd 11 48 D, cAr nd 12 48 D, cAr nd 13 48 D, cAr nd 14 2400 D, cAr nd 15 512 D, cAr nd 16 961 D, cAr nd 17 961 D, cWk nd D, cWa nd D, cAr nd 20 612 D, cAr nd 21 1152 D, cRk n nn gg C, cOr n nn gg f, (nd + 1, .inr (8, [.ref (nd + 2), .ref (nd + 3), .ref (nd + 4), .ref (nd + 5), .int (nI (c + 1))])), cAr nd 2 35840 D, (nd + 3, .inl (0, 4096, .inl (erF (D 3) c))), (nd + 4, .inl (0, 32, .inl (upd (D 4) c (nI i)))), (nd + 5, .inl (0, 280, .inl (upd (D 5) i (nI c))))] := ax_hs.call (rest := [cNd n nd me D, cAr nd 6 280 D, cLd n nd me D A, cAr nd 8 16 D, cAr nd 9 280 D, cTb nd gg D K, cAr nd 11 48 D, cAr nd 12 48 D, cAr nd 13 48 D, cAr nd 14 2400 D, cAr nd 15 512 D, cAr nd 16 961 D, cAr nd 17 961 D, cWk nd D, cWa nd D, cAr nd 20 612 D, cAr nd 21 1152 D, cRk n nn gg C, cOr n nn gg f]) [1, 2, 3, 4, 5] [0, 6, 7, 8, 9, 10, 11, 12, 13, 14, 15, 16, 17, 18, 19, 20, 21, 22, 23] hF qf qF rfl rfl rfl [1, 4, 5, 3] rfl rfl [1, 2, 3, 4, 5] (news := []) rfl rfl (fun _ z => absurd z List.not_mem_nil) rfl
              replace hF := hF.sub (F' := [cNd n nd me D, (nd + 1, .inr (8, [.ref (nd + 2), .ref (nd + 3), .ref (nd + 4), .ref (nd + 5), .int (nI (c + 1))])), cAr nd 2 35840 D, (nd + 3, .inl (0, 4096, .inl (erF (D 3) c))), (nd + 4, .inl (0, 32, .inl (upd (D 4) c (nI i)))), (nd + 5, .inl (0, 280, .inl (upd (D 5) i (nI c)))), cAr nd 6 280 D, cLd n nd me D A, cAr nd 8 16 D, cAr nd 9 280 D, cTb nd gg D K, cAr nd 11 48 D, cAr nd 12 48 D, cAr nd 13 48 D, cAr nd 14 2400 D, cAr nd 15 512 D, cAr nd 16 961 D, cAr nd 17 961 D, cWk nd D, cWa nd D, cAr nd 20 612 D, cAr nd 21 1152 D, cRk n nn gg C, cOr n nn gg f]) [0, 19, 20, 21, 22, 23, 1, 2, 3, 4, 5, 6, 7, 8, 9, 10, 11, 12, 13, 14, 15, 16, 17, 18] rfl rfl
              replace hN := hN.fr qf (fun x hx z => by simp only [List.mem_cons, List.not_mem_nil, or_false] at z; unfold NTA at hx; omega)
              replace hf := hf.trC qf (fun x _ z => Or.inr (by simp only [List.mem_cons, List.not_mem_nil, or_false] at z; omega))
              replace hn : hp_8.1 = h0.1 := by omega
              replace hs : hp_8.2.1 = h0.2.1 := by omega
              clear qF qn qs qf
              refine ar_iconst 71 (v := -1) d_19_70 rfl (by decide) ?_
              refine ar_istore_n 72 [(0, .ref nd), (1, .int (nI i)), (2, .int (-1))] d_19_71 rfl (by decide) rfl ?_
              refine ar_aload_n 73 d_19_72 rfl rfl ?_
              refine ar_getf 76 d_19_73 rfl (ci := 7) (k := 5) rfl (hF.at 0 rfl) rfl ?_
              refine ar_iload_n 77 d_19_76 rfl rfl ?_
              refine ar_iload_n 78 d_19_77 rfl rfl ?_
              refine ar_iastN 79 (e := i) d_19_78 rfl (hF.at 6 rfl) (by omega) (by omega) ?_
              replace hF : ax_hs (ax_put hp_8 (nd + 6) (.inl (0, 280, .inl (upd (D 6) i (-1))))) [cNd n nd me D, (nd + 1, .inr (8, [.ref (nd + 2), .ref (nd + 3), .ref (nd + 4), .ref (nd + 5), .int (nI (c + 1))])), cAr nd 2 35840 D, (nd + 3, .inl (0, 4096, .inl (erF (D 3) c))), (nd + 4, .inl (0, 32, .inl (upd (D 4) c (nI i)))), (nd + 5, .inl (0, 280, .inl (upd (D 5) i (nI c)))), (nd + 6, .inl (0, 280, .inl (upd (D 6) i (-1)))), cLd n nd me D A, cAr nd 8 16 D, cAr nd 9 280 D, cTb nd gg D K, cAr nd 11 48 D, cAr nd 12 48 D, cAr nd 13 48 D, cAr nd 14 2400 D, cAr nd 15 512 D, cAr nd 16 961 D, cAr nd 17 961 D, cWk nd D, cWa nd D, cAr nd 20 612 D, cAr nd 21 1152 D, cRk n nn gg C, cOr n nn gg f] := hF.put 6 _ rfl rfl
              replace hf := hf.put (a := nd + 6) (c := .inl (0, 280, .inl (upd (D 6) i (-1)))) (Or.inr (by omega))
              replace hN := hN.put (a := nd + 6) (c := .inl (0, 280, .inl (upd (D 6) i (-1)))) (by omega)
              replace hn : (ax_put hp_8 (nd + 6) (.inl (0, 280, .inl (upd (D 6) i (-1))))).1 = h0.1 := hn
              replace hs : (ax_put hp_8 (nd + 6) (.inl (0, 280, .inl (upd (D 6) i (-1))))).2.1 = h0.2.1 := hs
              generalize ax_put hp_8 (nd + 6) (.inl (0, 280, .inl (upd (D 6) i (-1)))) = hp_9 at hF hf hN hn hs ⊢
              refine ar_iinc 82 [(0, .ref nd), (1, .int (nI (i + 1))), (2, .int (-1))] d_19_79 rfl rfl (nI_1 i) (by decide) rfl ?_
              refine ar_goto 2 d_19_82 (by decide) ?_
              refine ar_wk [0, 1] rfl (by simp) ?_
              have hS1 : NS Z n nd nn gg C me f q u b uv h0 hp_9 (va_up (va_up (va_up (va_up (va_up D 1 (upd (D 1) 4 (nI (c + 1)))) 3 (erF (D 3) c)) 4 (upd (D 4) c (nI i))) 5 (upd (D 5) i (nI c))) 6 (upd (D 6) i (-1))) K A Y := ⟨hF, hN, hf, hn, hs, hp0, hu0⟩
              have hI1 : NI Z nn (va_up (va_up (va_up (va_up (va_up D 1 (upd (D 1) 4 (nI (c + 1)))) 3 (erF (D 3) c)) 4 (upd (D 4) c (nI i))) 5 (upd (D 5) i (nI c))) 6 (upd (D 6) i (-1))) := ⟨hD.more hup2 hc hic hoi (fun y hy => erF_out hy) (gd.zero (erF_in (by omega))) (fun z => absurd rfl z) (Or.inl erF_st), hI.2⟩
              rw [← show G_19 nn gg C me f u b k (i + 1) (va_up (va_up (va_up (va_up (va_up D 1 (upd (D 1) 4 (nI (c + 1)))) 3 (erF (D 3) c)) 4 (upd (D 4) c (nI i))) 5 (upd (D 5) i (nI c))) 6 (upd (D 6) i (-1))) K A Y = G_19 nn gg C me f u b (k + 1) i D K A Y from eq_ifT hwh (eq_ifF cc1 (eq_ifF (nI_ne1 hj3 ey3) (bnN_eq (cl_eq hj3 ey3) (eq_ifF hfu (bnN_eq (cl_eq hc ec) (rfl))))))]
              exact ih (i + 1) hp_9 (va_up (va_up (va_up (va_up (va_up D 1 (upd (D 1) 4 (nI (c + 1)))) 3 (erF (D 3) c)) 4 (upd (D 4) c (nI i))) 5 (upd (D 5) i (nI c))) 6 (upd (D 6) i (-1))) K A Y (by omega) hS1 hI1 (fun s h1 h2 => by
                show upd (D 5) i (nI c) s < 0
                rw [pk_un (by omega)]
                exact h5 s (by omega) h2)
      · refine ar_call (r := []) (na := 0) (kd := 0) (cm := 20) (fr2 := fr - 1) (lo2 := lo - 23) 17 d_19_14 (ar_hoV (as := [.int (nI i)]) rfl rfl rfl (hF.at 1 rfl)) rfl (by omega) (show lo - 23 + (19 + 4) = lo by omega) (Nat.le_of_ble_eq_true rfl) (Nat.le_of_ble_eq_true rfl) (c_20F hic hwh (hF.sub (F' := [cDk nd D, cAr nd 2 35840 D]) [1, 2] rfl rfl)) ?_
        intro v hh hq
        obtain ⟨rfl, ehh⟩ := hq
        rw [ehh]
        clear ehh
        refine ar_if_eq 31 20 d_19_17 (by decide) rfl (fun _ => ?_) (fun c => absurd (by decide) c)
        refine ar_iconst 32 (v := -1) d_19_31 rfl (by decide) ?_
        refine ar_istore_n 33 [(0, .ref nd), (1, .int (nI i)), (2, .int (-1))] d_19_32 rfl (by decide) rfl ?_
        refine ar_iload_n 34 d_19_33 rfl rfl ?_
        refine ar_if_lt 72 37 d_19_34 (by decide) rfl (fun _ => ?_) (fun c => absurd (by decide) c)
        refine ar_aload_n 73 d_19_72 rfl rfl ?_
        refine ar_getf 76 d_19_73 rfl (ci := 7) (k := 5) rfl (hF.at 0 rfl) rfl ?_
        refine ar_iload_n 77 d_19_76 rfl rfl ?_
        refine ar_iload_n 78 d_19_77 rfl rfl ?_
        refine ar_iastN 79 (e := i) d_19_78 rfl (hF.at 6 rfl) (by omega) (by omega) ?_
        replace hF : ax_hs (ax_put h (nd + 6) (.inl (0, 280, .inl (upd (D 6) i (-1))))) [cNd n nd me D, cDk nd D, cAr nd 2 35840 D, cAr nd 3 4096 D, cAr nd 4 32 D, cAr nd 5 280 D, (nd + 6, .inl (0, 280, .inl (upd (D 6) i (-1)))), cLd n nd me D A, cAr nd 8 16 D, cAr nd 9 280 D, cTb nd gg D K, cAr nd 11 48 D, cAr nd 12 48 D, cAr nd 13 48 D, cAr nd 14 2400 D, cAr nd 15 512 D, cAr nd 16 961 D, cAr nd 17 961 D, cWk nd D, cWa nd D, cAr nd 20 612 D, cAr nd 21 1152 D, cRk n nn gg C, cOr n nn gg f] := hF.put 6 _ rfl rfl
        replace hf := hf.put (a := nd + 6) (c := .inl (0, 280, .inl (upd (D 6) i (-1)))) (Or.inr (by omega))
        replace hN := hN.put (a := nd + 6) (c := .inl (0, 280, .inl (upd (D 6) i (-1)))) (by omega)
        replace hn : (ax_put h (nd + 6) (.inl (0, 280, .inl (upd (D 6) i (-1))))).1 = h0.1 := hn
        replace hs : (ax_put h (nd + 6) (.inl (0, 280, .inl (upd (D 6) i (-1))))).2.1 = h0.2.1 := hs
        generalize ax_put h (nd + 6) (.inl (0, 280, .inl (upd (D 6) i (-1)))) = hp_10 at hF hf hN hn hs ⊢
        refine ar_iinc 82 [(0, .ref nd), (1, .int (nI (i + 1))), (2, .int (-1))] d_19_79 rfl rfl (nI_1 i) (by decide) rfl ?_
        refine ar_goto 2 d_19_82 (by decide) ?_
        refine ar_wk [0, 1] rfl (by simp) ?_
        have hS1 : NS Z n nd nn gg C me f q u b uv h0 hp_10 (va_up D 6 (upd (D 6) i (-1))) K A Y := ⟨hF, hN, hf, hn, hs, hp0, hu0⟩
        have hI1 : NI Z nn (va_up D 6 (upd (D 6) i (-1))) := ⟨hI.1.tag (by rw [hu0]; exact hup) hic hoi (fun z => absurd rfl z), hI.2⟩
        rw [← show G_19 nn gg C me f u b k (i + 1) (va_up D 6 (upd (D 6) i (-1))) K A Y = G_19 nn gg C me f u b (k + 1) i D K A Y from eq_ifF hwh (rfl)]
        exact ih (i + 1) hp_10 (va_up D 6 (upd (D 6) i (-1))) K A Y (by omega) hS1 hI1 (fun s h1 h2 => h5 s (by omega) h2)
  show ax_A (ax_step L xs) ((19, 0, fr, lo), [(0, .ref nd)], [], h) _
  refine ar_iconst 1 (v := 0) d_19_0 rfl (by decide) ?_
  refine ar_istore_n 2 [(0, .ref nd), (1, .int 0)] d_19_1 rfl (by decide) rfl ?_
  exact key 280 0 h D K A Y (by omega) hS hI (fun s _ hs => h5 s hs)

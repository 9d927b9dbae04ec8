/-! quiet NODES: list, hear -/
theorem c_56G {L : Nat} {xs : Nat → Int32} {fr lo : Nat} {h : ax_H} {nd rk nt w dk ld tg da db dc dd q : Nat} {me up ne ns to : Int32} {tf u b : Nat → Int32} {ids : List Nat} {ms : List Mg} (hfr : 1 ≤ fr) (hlo : 26 ≤ lo) (hA_nd : ¬ NTA nt w nd) (hA_dk : ¬ NTA nt w dk) (hA_tg : ¬ NTA nt w tg) (ht : ∀ i, i < 280 → tf i < 0) (hN : NTL h nt w ids ms q u b) (hF : ax_hs h [(nd, .inr (7, [.int me, .ref rk, .ref nt, .ref dk, .ref ld, .ref tg, .int up, .int ne, .int ns])), (dk, .inr (8, [.ref da, .ref db, .ref dc, .ref dd, .int 0])), (tg, .inl (0, 280, .inl tf))]) : ax_M L xs 56 fr lo [.ref nd, .int to] h (fun r h' => ∃ ids' bm, r = none ∧ NTL h' nt w ids' (pst ms (mg 5 me to ne ns, bm)) q u b ∧ ax_fr (NTA nt w) h h' ∧ h'.1 = h.1 ∧ h'.2.1 = h.2.1) := by
  show ax_A (ax_step L xs) ((56, 0, fr, lo), [(0, .ref nd), (1, .int to)], [], h) _
  obtain ⟨za, zc, hnet⟩ := hN.net
  refine ar_aload_n 1 d_56_0 rfl rfl ?_
  refine ar_getf 4 d_56_1 rfl (ci := 7) (k := 2) rfl (hF.at 0 rfl) rfl ?_
  refine ar_iconst 5 (v := 5) d_56_4 rfl (by decide) ?_
  refine ar_aload_n 6 d_56_5 rfl rfl ?_
  refine ar_getf 9 d_56_6 rfl (ci := 7) (k := 0) rfl (hF.at 0 rfl) rfl ?_
  refine ar_iload_n 10 d_56_9 rfl rfl ?_
  refine ar_aload_n 11 d_56_10 rfl rfl ?_
  refine ar_getf 14 d_56_11 rfl (ci := 7) (k := 7) rfl (hF.at 0 rfl) rfl ?_
  refine ar_aload_n 15 d_56_14 rfl rfl ?_
  refine ar_getf 18 d_56_15 rfl (ci := 7) (k := 8) rfl (hF.at 0 rfl) rfl ?_
  refine ar_call (r := []) (na := 0) (kd := 0) (cm := 36) (fr2 := fr - 1) (lo2 := lo - 26) 21 d_56_18 (ar_hoV (as := [.int 5, .int me, .int to, .int ne, .int ns]) rfl rfl rfl hnet) rfl (by omega) (show lo - 26 + (19 + 7) = lo by omega) (Nat.le_of_ble_eq_true rfl) (Nat.le_of_ble_eq_true rfl) (c_36G hN) ?_
  intro v h2 hq
  obtain ⟨m, bm, ids2, hm, rfl, hmq, hN2, hmm, hf2, hz1, hz2⟩ := hq
  have hNm : NTA nt w (w + 1 + 2 * m) := Or.inr (by omega)
  have hF2 : ax_hs h2 [(nd, .inr (7, [.int me, .ref rk, .ref nt, .ref dk, .ref ld, .ref tg, .int up, .int ne, .int ns])), (dk, .inr (8, [.ref da, .ref db, .ref dc, .ref dd, .int 0])), (tg, .inl (0, 280, .inl tf))] := hF.fr hf2 (by intro x hx; simp at hx; rcases hx with rfl | rfl | rfl <;> assumption)
  refine ar_astore_n 22 [(0, .ref nd), (1, .int to), (2, .ref (w + 1 + 2 * m))] d_56_21 rfl (by decide) rfl ?_
  refine ar_iconst 23 (v := 0) d_56_22 rfl (by decide) ?_
  refine ar_istore_n 24 [(0, .ref nd), (1, .int to), (2, .ref (w + 1 + 2 * m)), (3, .int 0)] d_56_23 rfl (by decide) rfl ?_
  have key : ∀ (k i : Nat), i + k = 280 → ax_A (ax_step L xs) ((56, 24, fr, lo), [(0, .ref nd), (1, .int to), (2, .ref (w + 1 + 2 * m)), (3, .int (nI i))], [], h2) (fun r h' => ∃ ids' bm, r = none ∧ NTL h' nt w ids' (pst ms (mg 5 me to ne ns, bm)) q u b ∧ ax_fr (NTA nt w) h h' ∧ h'.1 = h.1 ∧ h'.2.1 = h.2.1) := by
    intro k
    induction k with
    | zero =>
      intro i hi
      have e0 : i = 280 := by omega
      subst e0
      refine ar_iload_n 25 d_56_24 rfl rfl ?_
      refine ar_sipush 28 (v := 280) d_56_25 rfl (by decide) ?_
      refine ar_icmp_ge 82 31 d_56_28 (by decide) rfl (fun _ => ?_) (fun c => absurd (Int32.le_refl _) c)
      have hg : ax_g h2 (w + 1 + 2 * m) = some (.inr (2, [.int 5, .int me, .int to, .int ne, .int ns, .int (-1), .int 0, .int 0, .ref (w + 1 + 2 * m + 1)])) := hmm.1
      have hF3 : ax_hs h2 [(w + 1 + 2 * m, .inr (2, [.int 5, .int me, .int to, .int ne, .int ns, .int (-1), .int 0, .int 0, .ref (w + 1 + 2 * m + 1)])), (nd, .inr (7, [.int me, .ref rk, .ref nt, .ref dk, .ref ld, .ref tg, .int up, .int ne, .int ns])), (dk, .inr (8, [.ref da, .ref db, .ref dc, .ref dd, .int 0])), (tg, .inl (0, 280, .inl tf))] := ax_hs.consN (nt := nt) (w := w) hg hF2 hNm (by intro x hx; simp at hx; rcases hx with rfl | rfl | rfl <;> assumption)
      refine ar_aload_n 83 d_56_82 rfl rfl ?_
      refine ar_aload_n 84 d_56_83 rfl rfl ?_
      refine ar_getf 87 d_56_84 rfl (ci := 7) (k := 3) rfl (hF3.at 1 rfl) rfl ?_
      refine ar_getf 90 d_56_87 rfl (ci := 8) (k := 4) rfl (hF3.at 2 rfl) rfl ?_
      refine ar_putf 93 [.int 5, .int me, .int to, .int ne, .int ns, .int (-1), .int 0, .int 0, .ref (w + 1 + 2 * m + 1)] d_56_90 rfl (ci := 2) (k := 6) rfl rfl (hF3.at 0 rfl) (Nat.le_of_ble_eq_true rfl) rfl rfl rfl ?_
      have hF3 : ax_hs (ax_put h2 (w + 1 + 2 * m) (.inr (2, [.int 5, .int me, .int to, .int ne, .int ns, .int (-1), .int 0, .int 0, .ref (w + 1 + 2 * m + 1)]))) [(w + 1 + 2 * m, .inr (2, [.int 5, .int me, .int to, .int ne, .int ns, .int (-1), .int 0, .int 0, .ref (w + 1 + 2 * m + 1)])), (nd, .inr (7, [.int me, .ref rk, .ref nt, .ref dk, .ref ld, .ref tg, .int up, .int ne, .int ns])), (dk, .inr (8, [.ref da, .ref db, .ref dc, .ref dd, .int 0])), (tg, .inl (0, 280, .inl tf))] := hF3.put 0 _ rfl rfl
      exact ar_ret d_56_93 rfl (⟨ids2, bm, rfl, hN2.fr (ax_fr.same (A := fun _ => False) hg) (fun _ _ z => z), hf2.tr (ax_fr.same hg), hz1, hz2⟩)
    | succ k ih =>
      intro i hi
      have hi8 : i < 280 := by omega
      refine ar_iload_n 25 d_56_24 rfl rfl ?_
      refine ar_sipush 28 (v := 280) d_56_25 rfl (by decide) ?_
      refine ar_top (x' := nI 280) rfl ?_
      refine ar_icmp_ge 82 31 d_56_28 (by decide) rfl (fun c => absurd c (nI_ge (b := 280) hi8 (by omega))) (fun _ => ?_)
      refine ar_aload_n 32 d_56_31 rfl rfl ?_
      refine ar_getf 35 d_56_32 rfl (ci := 7) (k := 5) rfl (hF2.at 0 rfl) rfl ?_
      refine ar_iload_n 36 d_56_35 rfl rfl ?_
      refine ar_iald 37 d_56_36 rfl (hF2.at 2 rfl) (nI_in hi8 (by omega)) ?_
      refine ar_if_lt 76 40 d_56_37 (by decide) rfl (fun _ => ?_) (fun c => absurd (by rw [nI_clamp (by omega)]; exact ht i hi8) c)
      refine ar_iinc 79 [(0, .ref nd), (1, .int to), (2, .ref (w + 1 + 2 * m)), (3, .int (nI (i + 1)))] d_56_76 rfl rfl ((nI_succ i).symm) (by decide) rfl ?_
      refine ar_goto 24 d_56_79 (by decide) ?_
      exact ih (i + 1) (by omega)
  exact key 280 0 (by omega)
theorem c_55o {L : Nat} {xs : Nat → Int32} {fr lo : Nat} {h : ax_H} {nd rk nt dk ld tg mm : Nat} {me up ne ns : Int32} {u : Nat → Int32} (hlt : u 3 < ne) (hF : ax_hs h [(nd, .inr (7, [.int me, .ref rk, .ref nt, .ref dk, .ref ld, .ref tg, .int up, .int ne, .int ns])), (mm, .inr (2, [.int (u 0), .int (u 1), .int (u 2), .int (u 3), .int (u 4), .int (u 5), .int (u 6), .int (u 7), .ref (mm + 1)]))]) : ax_M L xs 55 fr lo [.ref nd, .ref mm] h (fun r h' => r = none ∧ h' = h) := by
  show ax_A (ax_step L xs) ((55, 0, fr, lo), [(0, .ref nd), (1, .ref mm)], [], h) _
  refine ar_aload_n 1 d_55_0 rfl rfl ?_
  refine ar_getf 4 d_55_1 rfl (ci := 2) (k := 3) rfl (hF.at 1 rfl) rfl ?_
  refine ar_aload_n 5 d_55_4 rfl rfl ?_
  refine ar_getf 8 d_55_5 rfl (ci := 7) (k := 7) rfl (hF.at 0 rfl) rfl ?_
  refine ar_icmp_ge 12 11 d_55_8 (by decide) rfl (fun c => absurd c (Int32.not_le.mpr hlt)) (fun _ => ?_)
  exact ar_ret d_55_11 rfl (⟨rfl, rfl⟩)
theorem c_55l {L : Nat} {xs : Nat → Int32} {fr lo : Nat} {h : ax_H} {nd rk nt w dk ld tg da db dc dd q : Nat} {me up ne ns : Int32} {tf u b : Nat → Int32} {ids : List Nat} {ms : List Mg} (hfr : 2 ≤ fr) (hlo : 60 ≤ lo) (hA_nd : ¬ NTA nt w nd) (hA_dk : ¬ NTA nt w dk) (hA_tg : ¬ NTA nt w tg) (ht : ∀ i, i < 280 → tf i < 0) (h3 : u 3 = ne) (h0 : u 0 = 4) (hN : NTL h nt w ids ms q u b) (hF : ax_hs h [(nd, .inr (7, [.int me, .ref rk, .ref nt, .ref dk, .ref ld, .ref tg, .int up, .int ne, .int ns])), (dk, .inr (8, [.ref da, .ref db, .ref dc, .ref dd, .int 0])), (tg, .inl (0, 280, .inl tf))]) : ax_M L xs 55 fr lo [.ref nd, .ref (w + 1 + 2 * q)] h (fun r h' => ∃ ids' bm, r = none ∧ NTL h' nt w ids' (pst ms (mg 5 me (u 1) ne ns, bm)) q u b ∧ ax_fr (NTA nt w) h h' ∧ h'.1 = h.1 ∧ h'.2.1 = h.2.1) := by
  show ax_A (ax_step L xs) ((55, 0, fr, lo), [(0, .ref nd), (1, .ref (w + 1 + 2 * q))], [], h) _
  have hmr := hN.read
  have hF1 : ax_hs h [(w + 1 + 2 * q, .inr (2, [.int (u 0), .int (u 1), .int (u 2), .int (u 3), .int (u 4), .int (u 5), .int (u 6), .int (u 7), .ref (w + 1 + 2 * q + 1)])), (nd, .inr (7, [.int me, .ref rk, .ref nt, .ref dk, .ref ld, .ref tg, .int up, .int ne, .int ns])), (dk, .inr (8, [.ref da, .ref db, .ref dc, .ref dd, .int 0])), (tg, .inl (0, 280, .inl tf))] := ax_hs.consN (nt := nt) (w := w) (show ax_g h (w + 1 + 2 * q) = some (.inr (2, [.int (u 0), .int (u 1), .int (u 2), .int (u 3), .int (u 4), .int (u 5), .int (u 6), .int (u 7), .ref (w + 1 + 2 * q + 1)])) from hmr.1.1) hF (Or.inr (by have := hmr.2; omega)) (by intro x hx; simp at hx; rcases hx with rfl | rfl | rfl <;> assumption)
  refine ar_aload_n 1 d_55_0 rfl rfl ?_
  refine ar_getf 4 d_55_1 rfl (ci := 2) (k := 3) rfl (hF1.at 0 rfl) rfl ?_
  refine ar_aload_n 5 d_55_4 rfl rfl ?_
  refine ar_getf 8 d_55_5 rfl (ci := 7) (k := 7) rfl (hF1.at 1 rfl) rfl ?_
  refine ar_icmp_ge 12 11 d_55_8 (by decide) rfl (fun _ => ?_) (fun c => absurd (by rw [h3]; exact Int32.le_refl _) c)
  refine ar_aload_n 13 d_55_12 rfl rfl ?_
  refine ar_getf 16 d_55_13 rfl (ci := 2) (k := 3) rfl (hF1.at 0 rfl) rfl ?_
  refine ar_aload_n 17 d_55_16 rfl rfl ?_
  refine ar_getf 20 d_55_17 rfl (ci := 7) (k := 7) rfl (hF1.at 1 rfl) rfl ?_
  refine ar_icmp_le 35 23 d_55_20 (by decide) rfl (fun _ => ?_) (fun c => absurd (by rw [h3]; exact Int32.le_refl _) c)
  refine ar_aload_n 36 d_55_35 rfl rfl ?_
  refine ar_getf 39 d_55_36 rfl (ci := 2) (k := 0) rfl (hF1.at 0 rfl) rfl ?_
  refine ar_tabIn 135 d_55_39 (by rw [h0]; decide) (off := 96) (by rw [h0]; rfl) (by decide) ?_
  refine ar_aload_n 136 d_55_135 rfl rfl ?_
  refine ar_aload_n 137 d_55_136 rfl rfl ?_
  refine ar_getf 140 d_55_137 rfl (ci := 2) (k := 1) rfl (hF1.at 0 rfl) rfl ?_
  refine ar_call (r := []) (na := 0) (kd := 0) (cm := 56) (fr2 := fr - 1) (lo2 := lo - 23) 143 d_55_140 (ar_hoV (as := [.int (u 1)]) rfl rfl rfl (hF1.at 1 rfl)) rfl (by omega) (show lo - 23 + (19 + 4) = lo by omega) (Nat.le_of_ble_eq_true rfl) (Nat.le_of_ble_eq_true rfl) (c_56G (by omega) (by omega) hA_nd hA_dk hA_tg ht hN hF) ?_
  intro v h2 hq
  obtain ⟨ids2, bm, rfl, hN2, hf2, hz1, hz2⟩ := hq
  refine ar_goto 226 d_55_143 (by decide) ?_
  exact ar_ret d_55_226 rfl (⟨ids2, bm, rfl, hN2, hf2, hz1, hz2⟩)
theorem c_55m {L : Nat} {xs : Nat → Int32} {fr lo : Nat} {h : ax_H} {nd rk nt w dk ld tg q nn gg o : Nat} {C me up ne ns : Int32} {u b : Nat → Int32} {ids : List Nat} {ms : List Mg} (hfr : 1 ≤ fr) (hlo : 40 ≤ lo) (hA_nd : ¬ NTA nt w nd) (hA_rk : ¬ NTA nt w rk) (h3 : u 3 = ne) (h0 : u 0 = 0) (hN : NTL h nt w ids ms q u b) (hF : ax_hs h [(nd, .inr (7, [.int me, .ref rk, .ref nt, .ref dk, .ref ld, .ref tg, .int up, .int ne, .int ns])), (rk, .inr (3, [.int (nI nn), .int C, .int (nI gg), .ref o]))]) : ax_M L xs 55 fr lo [.ref nd, .ref (w + 1 + 2 * q)] h (fun r h' => ∃ ids' bm, r = none ∧ NTL h' nt w ids' (pst ms (mg 1 me (nI nn) ne ns, bm)) q u b ∧ ax_fr (NTA nt w) h h' ∧ h'.1 = h.1 ∧ h'.2.1 = h.2.1) := by
  show ax_A (ax_step L xs) ((55, 0, fr, lo), [(0, .ref nd), (1, .ref (w + 1 + 2 * q))], [], h) _
  obtain ⟨za, zc, hnet⟩ := hN.net
  have hmr := hN.read
  have hF1 : ax_hs h [(w + 1 + 2 * q, .inr (2, [.int (u 0), .int (u 1), .int (u 2), .int (u 3), .int (u 4), .int (u 5), .int (u 6), .int (u 7), .ref (w + 1 + 2 * q + 1)])), (nd, .inr (7, [.int me, .ref rk, .ref nt, .ref dk, .ref ld, .ref tg, .int up, .int ne, .int ns])), (rk, .inr (3, [.int (nI nn), .int C, .int (nI gg), .ref o]))] := ax_hs.consN (nt := nt) (w := w) (show ax_g h (w + 1 + 2 * q) = some (.inr (2, [.int (u 0), .int (u 1), .int (u 2), .int (u 3), .int (u 4), .int (u 5), .int (u 6), .int (u 7), .ref (w + 1 + 2 * q + 1)])) from hmr.1.1) hF (Or.inr (by have := hmr.2; omega)) (by intro x hx; simp at hx; rcases hx with rfl | rfl <;> assumption)
  refine ar_aload_n 1 d_55_0 rfl rfl ?_
  refine ar_getf 4 d_55_1 rfl (ci := 2) (k := 3) rfl (hF1.at 0 rfl) rfl ?_
  refine ar_aload_n 5 d_55_4 rfl rfl ?_
  refine ar_getf 8 d_55_5 rfl (ci := 7) (k := 7) rfl (hF1.at 1 rfl) rfl ?_
  refine ar_icmp_ge 12 11 d_55_8 (by decide) rfl (fun _ => ?_) (fun c => absurd (by rw [h3]; exact Int32.le_refl _) c)
  refine ar_aload_n 13 d_55_12 rfl rfl ?_
  refine ar_getf 16 d_55_13 rfl (ci := 2) (k := 3) rfl (hF1.at 0 rfl) rfl ?_
  refine ar_aload_n 17 d_55_16 rfl rfl ?_
  refine ar_getf 20 d_55_17 rfl (ci := 7) (k := 7) rfl (hF1.at 1 rfl) rfl ?_
  refine ar_icmp_le 35 23 d_55_20 (by decide) rfl (fun _ => ?_) (fun c => absurd (by rw [h3]; exact Int32.le_refl _) c)
  refine ar_aload_n 36 d_55_35 rfl rfl ?_
  refine ar_getf 39 d_55_36 rfl (ci := 2) (k := 0) rfl (hF1.at 0 rfl) rfl ?_
  refine ar_tabIn 104 d_55_39 (by rw [h0]; decide) (off := 65) (by rw [h0]; rfl) (by decide) ?_
  refine ar_aload_n 105 d_55_104 rfl rfl ?_
  refine ar_getf 108 d_55_105 rfl (ci := 7) (k := 2) rfl (hF1.at 1 rfl) rfl ?_
  refine ar_iconst 109 (v := 1) d_55_108 rfl (by decide) ?_
  refine ar_aload_n 110 d_55_109 rfl rfl ?_
  refine ar_getf 113 d_55_110 rfl (ci := 7) (k := 0) rfl (hF1.at 1 rfl) rfl ?_
  refine ar_aload_n 114 d_55_113 rfl rfl ?_
  refine ar_getf 117 d_55_114 rfl (ci := 7) (k := 1) rfl (hF1.at 1 rfl) rfl ?_
  refine ar_getf 120 d_55_117 rfl (ci := 3) (k := 0) rfl (hF1.at 2 rfl) rfl ?_
  refine ar_aload_n 121 d_55_120 rfl rfl ?_
  refine ar_getf 124 d_55_121 rfl (ci := 7) (k := 7) rfl (hF1.at 1 rfl) rfl ?_
  refine ar_aload_n 125 d_55_124 rfl rfl ?_
  refine ar_getf 128 d_55_125 rfl (ci := 7) (k := 8) rfl (hF1.at 1 rfl) rfl ?_
  refine ar_call (r := []) (na := 0) (kd := 0) (cm := 36) (fr2 := fr - 1) (lo2 := lo - 26) 131 d_55_128 (ar_hoV (as := [.int 1, .int me, .int (nI nn), .int ne, .int ns]) rfl rfl rfl hnet) rfl (by omega) (show lo - 26 + (19 + 7) = lo by omega) (Nat.le_of_ble_eq_true rfl) (Nat.le_of_ble_eq_true rfl) (c_36G hN) ?_
  intro v h2 hq
  obtain ⟨m, bm, ids2, hm, rfl, hmq, hN2, hmm, hf2, hz1, hz2⟩ := hq
  refine ar_pop 132 d_55_131 rfl rfl ?_
  refine ar_goto 226 d_55_132 (by decide) ?_
  exact ar_ret d_55_226 rfl (⟨ids2, bm, rfl, hN2, hf2, hz1, hz2⟩)
theorem c_55d {L : Nat} {xs : Nat → Int32} {fr lo : Nat} {h : ax_H} {ld rk nt tb wk ma sp wa wb a1 a2 a3 a4 a5 a6 a7 : Nat} {me ep st hd cl ni tu md g an wo w5 w6 w7 w8 w9 w10 w11 w12 w13 w14 : Int32} {ak : Int64} {f6 fm : Nat → Int32} {nd dk tg mm nn gg o : Nat} {C up ne ns : Int32} {f u : Nat → Int32} (hfr : 5 ≤ fr) (hlo : 180 ≤ lo) (hgg : gg ≤ 16) (hg1 : 0 < gg) (hnn : nn ≤ 6) (hl : nof f 0 ns nn 0 0 = me) (hv : f6 960 < 0) (h3 : u 3 = ne) (h0 : u 0 = 5) (h6 : u 6 = 0) (h7 : u 7 = 0) (hF : ax_hs h [(nd, .inr (7, [.int me, .ref rk, .ref nt, .ref dk, .ref ld, .ref tg, .int up, .int ne, .int ns])), (ld, .inr (9, [.int me, .ref rk, .ref nt, .ref tb, .ref wk, .ref ma, .ref sp, .int ep, .int st, .int hd, .int cl, .long ak, .int ni, .int tu, .int md])), (tb, .inr (6, [.int g, .ref a1, .ref a2, .ref a3, .ref a4, .ref a5, .ref a6, .ref a7, .long 0, .int 0, .int an])), (wk, .inr (10, [.ref tb, .ref wa, .ref wb, .int 0, .int wo, .int w5, .int w6, .int w7, .int w8, .int w9, .int w10, .int w11, .int w12, .int w13, .int w14])), (ma, .inl (0, 16, .inl fm)), (a6, .inl (0, 961, .inl f6)), (rk, .inr (3, [.int (nI nn), .int C, .int (nI gg), .ref o])), (o, .inl (0, gg * nn, .inl f)), (mm, .inr (2, [.int (u 0), .int (u 1), .int (u 2), .int (u 3), .int (u 4), .int (u 5), .int (u 6), .int (u 7), .ref (mm + 1)]))]) : ax_M L xs 55 fr lo [.ref nd, .ref mm] h (fun r h' => r = none ∧ h' = (ax_put h ld (.inr (9, [.int me, .ref rk, .ref nt, .ref tb, .ref wk, .ref ma, .ref sp, .int ep, .int st, .int (hd ||| (1 <<< ((u 1) &&& 31))), .int (cl ||| (1 <<< ((u 1) &&& 31))), .long ak, .int ni, .int tu, .int md])))) := by
  show ax_A (ax_step L xs) ((55, 0, fr, lo), [(0, .ref nd), (1, .ref mm)], [], h) _
  refine ar_aload_n 1 d_55_0 rfl rfl ?_
  refine ar_getf 4 d_55_1 rfl (ci := 2) (k := 3) rfl (hF.at 8 rfl) rfl ?_
  refine ar_aload_n 5 d_55_4 rfl rfl ?_
  refine ar_getf 8 d_55_5 rfl (ci := 7) (k := 7) rfl (hF.at 0 rfl) rfl ?_
  refine ar_icmp_ge 12 11 d_55_8 (by decide) rfl (fun _ => ?_) (fun c => absurd (by rw [h3]; exact Int32.le_refl _) c)
  refine ar_aload_n 13 d_55_12 rfl rfl ?_
  refine ar_getf 16 d_55_13 rfl (ci := 2) (k := 3) rfl (hF.at 8 rfl) rfl ?_
  refine ar_aload_n 17 d_55_16 rfl rfl ?_
  refine ar_getf 20 d_55_17 rfl (ci := 7) (k := 7) rfl (hF.at 0 rfl) rfl ?_
  refine ar_icmp_le 35 23 d_55_20 (by decide) rfl (fun _ => ?_) (fun c => absurd (by rw [h3]; exact Int32.le_refl _) c)
  refine ar_aload_n 36 d_55_35 rfl rfl ?_
  refine ar_getf 39 d_55_36 rfl (ci := 2) (k := 0) rfl (hF.at 8 rfl) rfl ?_
  refine ar_tabIn 204 d_55_39 (by rw [h0]; decide) (off := 165) (by rw [h0]; rfl) (by decide) ?_
  refine ar_aload_n 205 d_55_204 rfl rfl ?_
  refine ar_call (r := []) (na := 0) (kd := 0) (cm := 30) (fr2 := fr - 1) (lo2 := lo - 20) 208 d_55_205 (ar_hoV (as := []) rfl rfl rfl (hF.at 0 rfl)) rfl (by omega) (show lo - 20 + (19 + 1) = lo by omega) (Nat.le_of_ble_eq_true rfl) (Nat.le_of_ble_eq_true rfl) (c_30T (by omega) (by omega) hgg hg1 hnn hl (hF.sub (F' := [(nd, .inr (7, [.int me, .ref rk, .ref nt, .ref dk, .ref ld, .ref tg, .int up, .int ne, .int ns])), (rk, .inr (3, [.int (nI nn), .int C, .int (nI gg), .ref o])), (o, .inl (0, gg * nn, .inl f))]) [0, 6, 7] rfl rfl)) ?_
  intro v hh hq
  obtain ⟨rfl, ehh⟩ := hq
  rw [ehh]
  clear ehh
  refine ar_if_eq 226 211 d_55_208 (by decide) rfl (fun c => absurd c (by decide)) (fun _ => ?_)
  refine ar_aload_n 212 d_55_211 rfl rfl ?_
  refine ar_getf 215 d_55_212 rfl (ci := 7) (k := 4) rfl (hF.at 0 rfl) rfl ?_
  refine ar_aload_n 216 d_55_215 rfl rfl ?_
  refine ar_call (r := []) (na := 0) (kd := 0) (cm := 67) (fr2 := fr - 1) (lo2 := lo - 21) 219 d_55_216 (ar_hoV (as := [.ref mm]) rfl rfl rfl (hF.at 1 rfl)) rfl (by omega) (show lo - 21 + (19 + 2) = lo by omega) (Nat.le_of_ble_eq_true rfl) (Nat.le_of_ble_eq_true rfl) (c_670 (by omega) (by omega) (by decide) hv h0 h6 h7 (hF.sub (F' := [(ld, .inr (9, [.int me, .ref rk, .ref nt, .ref tb, .ref wk, .ref ma, .ref sp, .int ep, .int st, .int hd, .int cl, .long ak, .int ni, .int tu, .int md])), (tb, .inr (6, [.int g, .ref a1, .ref a2, .ref a3, .ref a4, .ref a5, .ref a6, .ref a7, .long 0, .int 0, .int an])), (wk, .inr (10, [.ref tb, .ref wa, .ref wb, .int 0, .int wo, .int w5, .int w6, .int w7, .int w8, .int w9, .int w10, .int w11, .int w12, .int w13, .int w14])), (ma, .inl (0, 16, .inl fm)), (a6, .inl (0, 961, .inl f6)), (mm, .inr (2, [.int (u 0), .int (u 1), .int (u 2), .int (u 3), .int (u 4), .int (u 5), .int (u 6), .int (u 7), .ref (mm + 1)]))]) [1, 2, 3, 4, 5, 8] rfl rfl)) ?_
  intro v hh hq
  obtain ⟨rfl, rfl⟩ := hq
  have hF : ax_hs (ax_put h ld (.inr (9, [.int me, .ref rk, .ref nt, .ref tb, .ref wk, .ref ma, .ref sp, .int ep, .int st, .int (hd ||| (1 <<< ((u 1) &&& 31))), .int (cl ||| (1 <<< ((u 1) &&& 31))), .long ak, .int ni, .int tu, .int md]))) [(nd, .inr (7, [.int me, .ref rk, .ref nt, .ref dk, .ref ld, .ref tg, .int up, .int ne, .int ns])), (ld, .inr (9, [.int me, .ref rk, .ref nt, .ref tb, .ref wk, .ref ma, .ref sp, .int ep, .int st, .int (hd ||| (1 <<< ((u 1) &&& 31))), .int (cl ||| (1 <<< ((u 1) &&& 31))), .long ak, .int ni, .int tu, .int md])), (tb, .inr (6, [.int g, .ref a1, .ref a2, .ref a3, .ref a4, .ref a5, .ref a6, .ref a7, .long 0, .int 0, .int an])), (wk, .inr (10, [.ref tb, .ref wa, .ref wb, .int 0, .int wo, .int w5, .int w6, .int w7, .int w8, .int w9, .int w10, .int w11, .int w12, .int w13, .int w14])), (ma, .inl (0, 16, .inl fm)), (a6, .inl (0, 961, .inl f6)), (rk, .inr (3, [.int (nI nn), .int C, .int (nI gg), .ref o])), (o, .inl (0, gg * nn, .inl f)), (mm, .inr (2, [.int (u 0), .int (u 1), .int (u 2), .int (u 3), .int (u 4), .int (u 5), .int (u 6), .int (u 7), .ref (mm + 1)]))] := hF.put 1 _ rfl rfl
  refine ar_aload_n 220 d_55_219 rfl rfl ?_
  refine ar_getf 223 d_55_220 rfl (ci := 7) (k := 4) rfl (hF.at 0 rfl) rfl ?_
  refine ar_call (r := []) (na := 0) (kd := 0) (cm := 91) (fr2 := fr - 1) (lo2 := lo - 21) 226 d_55_223 (ar_hoV (as := []) rfl rfl rfl (hF.at 1 rfl)) rfl (by omega) (show lo - 21 + (19 + 2) = lo by omega) (Nat.le_of_ble_eq_true rfl) (Nat.le_of_ble_eq_true rfl) (c_910 (hF.sub (F' := [(ld, .inr (9, [.int me, .ref rk, .ref nt, .ref tb, .ref wk, .ref ma, .ref sp, .int ep, .int st, .int (hd ||| (1 <<< ((u 1) &&& 31))), .int (cl ||| (1 <<< ((u 1) &&& 31))), .long ak, .int ni, .int tu, .int md])), (wk, .inr (10, [.ref tb, .ref wa, .ref wb, .int 0, .int wo, .int w5, .int w6, .int w7, .int w8, .int w9, .int w10, .int w11, .int w12, .int w13, .int w14]))]) [1, 3] rfl rfl)) ?_
  intro v hh hq
  obtain ⟨rfl, ehh⟩ := hq
  rw [ehh]
  clear ehh
  exact ar_ret d_55_226 rfl (⟨rfl, rfl⟩)

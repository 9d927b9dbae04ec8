/-! auditDisk, audit for every state -/
theorem c_77S {L : Nat} {xs : Nat → Int32} {fr lo : Nat} {h : ax_H} {tb a1 a2 a3 a4 a5 a6 a7 : Nat} {g fl an : Int32} {kn : Int64} {Z : ZT} {jf zf nf fo vf : Nat → Int32} {x : Int32} (hT : TI Z fl jf zf nf fo vf) (gt : ax_g h tb = some (.inr (6, [.int g, .ref a1, .ref a2, .ref a3, .ref a4, .ref a5, .ref a6, .ref a7, .long kn, .int fl, .int an]))) (g5 : ax_g h a5 = some (.inl (0, 512, .inl fo))) (g6 : ax_g h a6 = some (.inl (0, 961, .inl vf))) : ax_M L xs 77 fr lo [.ref tb, .int x] h (fun r h' => ∃ y : Int32, r = some (.int y) ∧ (y = -1 ∨ ∃ t a : Nat, t < 2 ^ 31 ∧ x = nI t ∧ a < 961 ∧ y = nI a ∧ FD jf vf t a) ∧ h' = h) := ax_A.post (c_77E hT gt g5 g6) (fun r h' hq => ⟨_, hq.1, hT.fnd2 x, hq.2⟩)
theorem c_140S {L : Nat} {xs : Nat → Int32} {fr lo : Nat} {h : ax_H} {k : Int32} : ax_M L xs 140 fr lo [.int k] h (fun r h' => ∃ y : Int32, r = some (.int y) ∧ h' = h) := ax_A.post c_140E (fun r h' hq => ⟨_, hq.1, hq.2⟩)

theorem va2 {E : Nat → Nat → Int32} {a b c d : Nat → Int32} : va_up (va_up (va_up (va_up E 1 a) 65 b) 1 c) 65 d = va_up (va_up E 1 c) 65 d := by
  funext k
  by_cases h1 : k = 65
  · subst h1; rw [va_up_s, va_up_s]
  · rw [va_up_n _ _ h1, va_up_n _ _ h1]
    by_cases h2 : k = 1
    · subst h2; rw [va_up_s, va_up_s]
    · rw [va_up_n _ _ h2, va_up_n _ _ h2, va_up_n _ _ h1, va_up_n _ _ h2]
set_option maxRecDepth 100000 in
theorem gx_170 {L : Nat} {xs : Nat → Int32} {fr lo : Nat} {s0 n nn gg : Nat} {C : Int32} {f : Nat → Int32} {q : Nat} {u b : Nat → Int32} {hb h : ax_H} {Z : ZT} {D : Nat → Nat → Nat → Int32} {K A : Nat → Int64} {E : Nat → Nat → Int32} {TK : Int64} {Q : Nat → Mg} {ms : List Mg}  (hfr : 2 ≤ fr) (hlo : 100 ≤ lo) (hC : CG s0 n nn gg f) (hG0 : GN Z n nn gg C f hb D K A) (hS : AS s0 n nn gg C f q u b hb h E TK Q ms) {j : Nat} (hj : j < nn) (hsI : seenI nn E) (hK : TI Z (E 58 9) (E 59) (E 60) (E 61) (E 63) (E 64)) : ax_M L xs 170 fr lo [.ref s0, .int (nI j)] h (fun r h' => ∃ (y : Int32) (sf hv : Nat → Int32), r = some (.int y) ∧ AS s0 n nn gg C f q u b hb h' (va_up (va_up E 1 sf) 65 hv) TK Q ms ∧ seenI nn (va_up (va_up E 1 sf) 65 hv)) := by
  have hC0 := hC
  obtain ⟨hs0, hsn, hnn3, hnn, hgg1, hgg, hRg⟩ := hC
  have key : ∀ (k i : Nat) (wv : Int32) (h : ax_H) (sf hv : Nat → Int32), i + k = 280 → AS s0 n nn gg C f q u b hb h (va_up (va_up E 1 sf) 65 hv) TK Q ms → seenI nn (va_up (va_up E 1 sf) 65 hv) → ax_A (ax_step L xs) ((170, 15, fr, lo), [(0, .ref s0), (1, .int (nI j)), (2, .ref (n + 329 + 22 * j + 1)), (3, .int wv), (4, .int (nI i))], [], h) (fun r h' => ∃ (y : Int32) (sf hv : Nat → Int32), r = some (.int y) ∧ AS s0 n nn gg C f q u b hb h' (va_up (va_up E 1 sf) 65 hv) TK Q ms ∧ seenI nn (va_up (va_up E 1 sf) 65 hv)) := by
    intro k
    induction k with
    | zero =>
      intro i wv h sf hv hi hS hsI
      have e0 : 280 = i := by omega
      subst e0
      have hSk := hS
      obtain ⟨hF, hA, hN, hf, hn, hs, hp0⟩ := hS
      replace hF : ax_hs h [cSt s0 n (va_up (va_up E 1 sf) 65 hv), cRk n nn gg C, cOr n nn gg f, cAs n (va_up (va_up E 1 sf) 65 hv), cEr n 5 512 (va_up (va_up E 1 sf) 65 hv), cEr n 6 100 (va_up (va_up E 1 sf) 65 hv), cEr n 7 2 (va_up (va_up E 1 sf) 65 hv), cAk n, cEr n 9 512 (va_up (va_up E 1 sf) 65 hv), cNa n nn, cEr n 0 48 (va_up (va_up E 1 sf) 65 hv), cEr n 1 961 (va_up (va_up E 1 sf) 65 hv), cTs n gg (va_up (va_up E 1 sf) 65 hv) TK, cEr n 59 48 (va_up (va_up E 1 sf) 65 hv), cEr n 60 48 (va_up (va_up E 1 sf) 65 hv), cEr n 61 48 (va_up (va_up E 1 sf) 65 hv), cEr n 62 2400 (va_up (va_up E 1 sf) 65 hv), cEr n 63 512 (va_up (va_up E 1 sf) 65 hv), cEr n 64 961 (va_up (va_up E 1 sf) 65 hv), cEr n 65 961 (va_up (va_up E 1 sf) 65 hv)] := hF
      refine ar_iload 17 d_170_15 rfl rfl ?_
      refine ar_sipush 20 (v := 280) d_170_17 rfl (by decide) ?_
      refine ar_icmp_ge 131 23 d_170_20 (by decide) rfl (fun _ => ?_) (fun c => absurd (Int32.le_refl _) c)
      refine ar_iload_n 132 d_170_131 rfl rfl ?_
      exact ar_iret d_170_132 rfl rfl (⟨_, sf, hv, rfl, hSk, hsI⟩)
    | succ k ih =>
      intro i wv h sf hv hi hS hsI
      have hic : i < 280 := by omega
      have hSk := hS
      obtain ⟨hF, hA, hN, hf, hn, hs, hp0⟩ := hS
      replace hF : ax_hs h [cSt s0 n (va_up (va_up E 1 sf) 65 hv), cRk n nn gg C, cOr n nn gg f, cAs n (va_up (va_up E 1 sf) 65 hv), cEr n 5 512 (va_up (va_up E 1 sf) 65 hv), cEr n 6 100 (va_up (va_up E 1 sf) 65 hv), cEr n 7 2 (va_up (va_up E 1 sf) 65 hv), cAk n, cEr n 9 512 (va_up (va_up E 1 sf) 65 hv), cNa n nn, cEr n 0 48 (va_up (va_up E 1 sf) 65 hv), cEr n 1 961 (va_up (va_up E 1 sf) 65 hv), cTs n gg (va_up (va_up E 1 sf) 65 hv) TK, cEr n 59 48 (va_up (va_up E 1 sf) 65 hv), cEr n 60 48 (va_up (va_up E 1 sf) 65 hv), cEr n 61 48 (va_up (va_up E 1 sf) 65 hv), cEr n 62 2400 (va_up (va_up E 1 sf) 65 hv), cEr n 63 512 (va_up (va_up E 1 sf) 65 hv), cEr n 64 961 (va_up (va_up E 1 sf) 65 hv), cEr n 65 961 (va_up (va_up E 1 sf) 65 hv)] := hF
      refine ar_iload 17 d_170_15 rfl rfl ?_
      refine ar_sipush 20 (v := 280) d_170_17 rfl (by decide) ?_
      refine ar_icmp_ge 131 23 d_170_20 (by decide) rfl (fun c => absurd c (nI_ge hic (by decide))) (fun _ => ?_)
      refine ar_aload_n 24 d_170_23 rfl rfl ?_
      refine ar_iload 26 d_170_24 rfl rfl ?_
      by_cases hwi : whB (D j 2) i
      · refine ar_call (r := []) (na := 0) (kd := 0) (cm := 20) (fr2 := fr - 1) (lo2 := lo - 23) 29 d_170_26 (ar_hoV (as := [.int (nI i)]) rfl rfl rfl (hf.g ((hG0 j hj).1.at 1 rfl) (by unfold ASA NTA; omega))) rfl (by omega) (show lo - 23 + (19 + 4) = lo by omega) (Nat.le_of_ble_eq_true rfl) (Nat.le_of_ble_eq_true rfl) (c_20T hic hwi (((hG0 j hj).1.fr hf (NWf (fun x hx z => by unfold ASA NTA at z; omega))).sub (F' := [cDk (n + 329 + 22 * j) (D j), cAr (n + 329 + 22 * j) 2 35840 (D j)]) [1, 2] rfl rfl)) ?_
        intro v hh hq
        obtain ⟨rfl, ehh⟩ := hq
        rw [ehh]
        clear ehh
        refine ar_if_eq 125 32 d_170_29 (by decide) rfl (fun c => absurd c (by decide)) (fun _ => ?_)
        refine ar_aload_n 33 d_170_32 rfl rfl ?_
        refine ar_getf 36 d_170_33 rfl (ci := 0) (k := 4) rfl (hF.at 0 rfl) rfl ?_
        refine ar_aload_n 37 d_170_36 rfl rfl ?_
        refine ar_iload 39 d_170_37 rfl rfl ?_
        refine ar_call (r := [.ref (n + 320)]) (na := 0) (kd := 0) (cm := 21) (fr2 := fr - 1) (lo2 := lo - 21) 42 d_170_39 (ar_hoV (as := [.int (nI i)]) rfl rfl rfl (hf.g ((hG0 j hj).1.at 1 rfl) (by unfold ASA NTA; omega))) rfl (by omega) (show lo - 21 + (19 + 2) = lo by omega) (Nat.le_of_ble_eq_true rfl) (Nat.le_of_ble_eq_true rfl) (c_21 hic (((hG0 j hj).1.fr hf (NWf (fun x hx z => by unfold ASA NTA at z; omega))).sub (F' := [cDk (n + 329 + 22 * j) (D j), cAr (n + 329 + 22 * j) 2 35840 (D j)]) [1, 2] rfl rfl)) ?_
        intro v hh hq
        obtain ⟨rfl, ehh⟩ := hq
        rw [ehh]
        clear ehh
        refine ar_call (r := []) (na := 0) (kd := 0) (cm := 77) (fr2 := fr - 1) (lo2 := lo - 23) 45 d_170_42 (ar_hoV (as := [.int (D j 2 (i * 128 + 1))]) rfl rfl rfl (hF.at 12 rfl)) rfl (by omega) (show lo - 23 + (19 + 4) = lo by omega) (Nat.le_of_ble_eq_true rfl) (Nat.le_of_ble_eq_true rfl) (c_77S (x := D j 2 (i * 128 + 1)) hK (hF.at 12 rfl) (hF.at 17 rfl) (hF.at 18 rfl)) ?_
        intro v hh hq
        obtain ⟨y1, rfl, hy1, ehh⟩ := hq
        rw [ehh]
        clear ehh
        rcases hy1 with rfl | ⟨t1, a1, ht1, hx1, ha1, rfl, hfd1⟩
        · refine ar_istore 47 [(0, .ref s0), (1, .int (nI j)), (2, .ref (n + 329 + 22 * j + 1)), (3, .int wv), (4, .int (nI i)), (5, .int (-1))] d_170_45 rfl (by decide) rfl ?_
          refine ar_iload 49 d_170_47 rfl rfl ?_
          refine ar_if_lt 99 52 d_170_49 (by decide) rfl (fun _ => ?_) (fun c => absurd (by decide) c)
          refine ar_iinc 102 [(0, .ref s0), (1, .int (nI j)), (2, .ref (n + 329 + 22 * j + 1)), (3, .int (wv + 1)), (4, .int (nI i)), (5, .int (-1))] d_170_99 rfl rfl (rfl) (by decide) rfl ?_
          refine ar_goto 125 d_170_102 (by decide) ?_
          refine ar_iinc 128 [(0, .ref s0), (1, .int (nI j)), (2, .ref (n + 329 + 22 * j + 1)), (3, .int (wv + 1)), (4, .int (nI (i + 1))), (5, .int (-1))] d_170_125 rfl rfl (nI_1 i) (by decide) rfl ?_
          refine ar_goto 15 d_170_128 (by decide) ?_
          refine ar_wk [0, 1, 2, 3, 4] rfl (by simp) ?_
          exact ih (i + 1) _ h sf hv (by omega) hSk hsI
        · refine ar_istore 47 [(0, .ref s0), (1, .int (nI j)), (2, .ref (n + 329 + 22 * j + 1)), (3, .int wv), (4, .int (nI i)), (5, .int (nI a1))] d_170_45 rfl (by decide) rfl ?_
          refine ar_iload 49 d_170_47 rfl rfl ?_
          refine ar_if_lt 99 52 d_170_49 (by decide) rfl (fun c => absurd c (nI_pos (by omega))) (fun _ => ?_)
          refine ar_aload_n 53 d_170_52 rfl rfl ?_
          refine ar_getf 56 d_170_53 rfl (ci := 0) (k := 0) rfl (hF.at 0 rfl) rfl ?_
          refine ar_aload_n 57 d_170_56 rfl rfl ?_
          refine ar_getf 60 d_170_57 rfl (ci := 0) (k := 4) rfl (hF.at 0 rfl) rfl ?_
          refine ar_iload 62 d_170_60 rfl rfl ?_
          refine ar_call (r := [.ref (n + 264)]) (na := 0) (kd := 0) (cm := 75) (fr2 := fr - 1) (lo2 := lo - 22) 65 d_170_62 (ar_hoV (as := [.int (nI a1)]) rfl rfl rfl (hF.at 12 rfl)) rfl (by omega) (show lo - 22 + (19 + 3) = lo by omega) (Nat.le_of_ble_eq_true rfl) (Nat.le_of_ble_eq_true rfl) (c_75 ha1 (by omega) hgg (hK.grp ha1 hfd1.id) (hF.at 12 rfl) (hF.at 13 rfl)) ?_
          intro v hh hq
          obtain ⟨rfl, ehh⟩ := hq
          rw [ehh]
          clear ehh
          refine ar_aload_n 66 d_170_65 rfl rfl ?_
          refine ar_getf 69 d_170_66 rfl (ci := 0) (k := 2) rfl (hF.at 0 rfl) rfl ?_
          refine ar_getf 72 d_170_69 rfl (ci := 4) (k := 14) rfl (hF.at 3 rfl) rfl ?_
          refine ar_call (r := []) (na := 0) (kd := 0) (cm := 34) (fr2 := fr - 1) (lo2 := lo - 26) 75 d_170_72 (ar_hoV (as := [.int (nI (grp (E 59) gg a1)), .int ((va_up (va_up E 1 sf) 65 hv) 4 14)]) rfl rfl rfl (hF.at 1 rfl)) rfl (by omega) (show lo - 26 + (19 + 7) = lo by omega) (Nat.le_of_ble_eq_true rfl) (Nat.le_of_ble_eq_true rfl) (c_34 hgg hnn (g := grp (E 59) gg a1) (grp_lt (E 59) (show 0 < gg by omega) _) (hF.sub (F' := [cRk n nn gg C, cOr n nn gg f]) [1, 2] rfl rfl)) ?_
          intro v hh hq
          obtain ⟨rfl, ehh⟩ := hq
          rw [ehh]
          clear ehh
          refine ar_iload_n 76 d_170_75 rfl rfl ?_
          refine ar_ishr 77 d_170_76 rfl ?_
          refine ar_iconst 78 (v := 1) d_170_77 rfl (by decide) ?_
          refine ar_iand 79 d_170_78 rfl ?_
          refine ar_if_eq 99 82 d_170_79 (by decide) rfl (fun c2 => ?_) (fun c2 => ?_)
          · refine ar_iinc 102 [(0, .ref s0), (1, .int (nI j)), (2, .ref (n + 329 + 22 * j + 1)), (3, .int (wv + 1)), (4, .int (nI i)), (5, .int (nI a1))] d_170_99 rfl rfl (rfl) (by decide) rfl ?_
            refine ar_goto 125 d_170_102 (by decide) ?_
            refine ar_iinc 128 [(0, .ref s0), (1, .int (nI j)), (2, .ref (n + 329 + 22 * j + 1)), (3, .int (wv + 1)), (4, .int (nI (i + 1))), (5, .int (nI a1))] d_170_125 rfl rfl (nI_1 i) (by decide) rfl ?_
            refine ar_goto 15 d_170_128 (by decide) ?_
            refine ar_wk [0, 1, 2, 3, 4] rfl (by simp) ?_
            exact ih (i + 1) _ h sf hv (by omega) hSk hsI
          · refine ar_aload_n 83 d_170_82 rfl rfl ?_
            refine ar_getf 86 d_170_83 rfl (ci := 0) (k := 4) rfl (hF.at 0 rfl) rfl ?_
            refine ar_getf 89 d_170_86 rfl (ci := 6) (k := 7) rfl (hF.at 12 rfl) rfl ?_
            refine ar_iload 91 d_170_89 rfl rfl ?_
            refine ar_iald 92 d_170_91 rfl (hF.at 19 rfl) (vin ha1 (by decide)) ?_
            refine ar_iload_n 93 d_170_92 rfl rfl ?_
            refine ar_ishr 94 d_170_93 rfl ?_
            refine ar_iconst 95 (v := 1) d_170_94 rfl (by decide) ?_
            refine ar_iand 96 d_170_95 rfl ?_
            refine ar_if_eq 105 99 d_170_96 (by decide) rfl (fun c3 => ?_) (fun c3 => ?_)
            · refine ar_aload_n 106 d_170_105 rfl rfl ?_
              refine ar_iload 108 d_170_106 rfl rfl ?_
              refine ar_iload_n 109 d_170_108 rfl rfl ?_
              refine ar_sipush 112 (v := 280) d_170_109 rfl (by decide) ?_
              refine ar_imul 113 d_170_112 rfl ?_
              refine ar_top (x' := nI (j * 280)) (pk_mul j 280) ?_
              refine ar_iload 115 d_170_113 rfl rfl ?_
              refine ar_iadd 116 d_170_115 rfl ?_
              refine ar_top (x' := nI (j * 280 + i)) (nI_add _ _) ?_
              refine ar_call (r := []) (na := 0) (kd := 0) (cm := 171) (fr2 := fr - 1) (lo2 := lo - 27) 119 d_170_116 (ar_hoV (as := [.int (nI a1), .int (nI (j * 280 + i))]) rfl rfl rfl (hF.at 0 rfl)) rfl (by omega) (show lo - 27 + (19 + 8) = lo by omega) (Nat.le_of_ble_eq_true rfl) (Nat.le_of_ble_eq_true rfl) (gx_171 (by omega) (by omega) hC0 hG0 hSk ha1 (show j * 280 + i < nn * 280 by omega) hsI) ?_
              intro v hp_1 hq
              obtain ⟨y2, sf2, hv2, rfl, hS2, hs2⟩ := hq
              rw [va2] at hS2 hs2
              refine ar_if_ne 125 122 d_170_119 (by decide) rfl (fun c4 => ?_) (fun c4 => ?_)
              · refine ar_iinc 128 [(0, .ref s0), (1, .int (nI j)), (2, .ref (n + 329 + 22 * j + 1)), (3, .int wv), (4, .int (nI (i + 1))), (5, .int (nI a1))] d_170_125 rfl rfl (nI_1 i) (by decide) rfl ?_
                refine ar_goto 15 d_170_128 (by decide) ?_
                refine ar_wk [0, 1, 2, 3, 4] rfl (by simp) ?_
                exact ih (i + 1) _ hp_1 sf2 hv2 (by omega) hS2 hs2
              · refine ar_iinc 125 [(0, .ref s0), (1, .int (nI j)), (2, .ref (n + 329 + 22 * j + 1)), (3, .int (wv + 1)), (4, .int (nI i)), (5, .int (nI a1))] d_170_122 rfl rfl (rfl) (by decide) rfl ?_
                refine ar_iinc 128 [(0, .ref s0), (1, .int (nI j)), (2, .ref (n + 329 + 22 * j + 1)), (3, .int (wv + 1)), (4, .int (nI (i + 1))), (5, .int (nI a1))] d_170_125 rfl rfl (nI_1 i) (by decide) rfl ?_
                refine ar_goto 15 d_170_128 (by decide) ?_
                refine ar_wk [0, 1, 2, 3, 4] rfl (by simp) ?_
                exact ih (i + 1) _ hp_1 sf2 hv2 (by omega) hS2 hs2
            · refine ar_iinc 102 [(0, .ref s0), (1, .int (nI j)), (2, .ref (n + 329 + 22 * j + 1)), (3, .int (wv + 1)), (4, .int (nI i)), (5, .int (nI a1))] d_170_99 rfl rfl (rfl) (by decide) rfl ?_
              refine ar_goto 125 d_170_102 (by decide) ?_
              refine ar_iinc 128 [(0, .ref s0), (1, .int (nI j)), (2, .ref (n + 329 + 22 * j + 1)), (3, .int (wv + 1)), (4, .int (nI (i + 1))), (5, .int (nI a1))] d_170_125 rfl rfl (nI_1 i) (by decide) rfl ?_
              refine ar_goto 15 d_170_128 (by decide) ?_
              refine ar_wk [0, 1, 2, 3, 4] rfl (by simp) ?_
              exact ih (i + 1) _ h sf hv (by omega) hSk hsI
      · refine ar_call (r := []) (na := 0) (kd := 0) (cm := 20) (fr2 := fr - 1) (lo2 := lo - 23) 29 d_170_26 (ar_hoV (as := [.int (nI i)]) rfl rfl rfl (hf.g ((hG0 j hj).1.at 1 rfl) (by unfold ASA NTA; omega))) rfl (by omega) (show lo - 23 + (19 + 4) = lo by omega) (Nat.le_of_ble_eq_true rfl) (Nat.le_of_ble_eq_true rfl) (c_20F hic hwi (((hG0 j hj).1.fr hf (NWf (fun x hx z => by unfold ASA NTA at z; omega))).sub (F' := [cDk (n + 329 + 22 * j) (D j), cAr (n + 329 + 22 * j) 2 35840 (D j)]) [1, 2] rfl rfl)) ?_
        intro v hh hq
        obtain ⟨rfl, ehh⟩ := hq
        rw [ehh]
        clear ehh
        refine ar_if_eq 125 32 d_170_29 (by decide) rfl (fun _ => ?_) (fun c => absurd (by decide) c)
        refine ar_iinc 128 [(0, .ref s0), (1, .int (nI j)), (2, .ref (n + 329 + 22 * j + 1)), (3, .int wv), (4, .int (nI (i + 1)))] d_170_125 rfl rfl (nI_1 i) (by decide) rfl ?_
        refine ar_goto 15 d_170_128 (by decide) ?_
        exact ih (i + 1) _ h sf hv (by omega) hSk hsI
  show ax_A (ax_step L xs) ((170, 0, fr, lo), [(0, .ref s0), (1, .int (nI j))], [], h) _
  have hSk := hS
  obtain ⟨hF, hA, hN, hf, hn, hs, hp0⟩ := hS
  replace hF : ax_hs h [cSt s0 n E, cRk n nn gg C, cOr n nn gg f, cAs n E, cEr n 5 512 E, cEr n 6 100 E, cEr n 7 2 E, cAk n, cEr n 9 512 E, cNa n nn, cEr n 0 48 E, cEr n 1 961 E, cTs n gg E TK, cEr n 59 48 E, cEr n 60 48 E, cEr n 61 48 E, cEr n 62 2400 E, cEr n 63 512 E, cEr n 64 961 E, cEr n 65 961 E] := hF
  refine ar_aload_n 1 d_170_0 rfl rfl ?_
  refine ar_getf 4 d_170_1 rfl (ci := 0) (k := 3) rfl (hF.at 0 rfl) rfl ?_
  refine ar_iload_n 5 d_170_4 rfl rfl ?_
  refine ar_aald 6 d_170_5 rfl (hF.at 9 rfl) rfl (vin hj (by omega)) ?_
  refine ar_tv (v' := .ref (n + 329 + 22 * j)) (ndr hnn hj) ?_
  refine ar_getf 9 d_170_6 rfl (ci := 7) (k := 3) rfl (hf.g ((hG0 j hj).1.at 0 rfl) (by unfold ASA NTA; omega)) rfl ?_
  refine ar_astore_n 10 [(0, .ref s0), (1, .int (nI j)), (2, .ref (n + 329 + 22 * j + 1))] d_170_9 rfl (by decide) rfl ?_
  refine ar_iconst 11 (v := 0) d_170_10 rfl (by decide) ?_
  refine ar_istore_n 12 [(0, .ref s0), (1, .int (nI j)), (2, .ref (n + 329 + 22 * j + 1)), (3, .int 0)] d_170_11 rfl (by decide) rfl ?_
  refine ar_iconst 13 (v := 0) d_170_12 rfl (by decide) ?_
  refine ar_istore 15 [(0, .ref s0), (1, .int (nI j)), (2, .ref (n + 329 + 22 * j + 1)), (3, .int 0), (4, .int 0)] d_170_13 rfl (by decide) rfl ?_
  have eid : va_up (va_up E 1 (E 1)) 65 (E 65) = E := by rw [show va_up E 1 (E 1) = E from va_up_sf, show va_up E 65 (E 65) = E from va_up_sf]
  exact key 280 0 _ h (E 1) (E 65) (by omega) (by rw [eid]; exact hSk) (by rw [eid]; exact hsI)
set_option maxRecDepth 100000 in
theorem g_169 {L : Nat} {xs : Nat → Int32} {fr lo : Nat} {s0 n nn gg : Nat} {C : Int32} {f : Nat → Int32} {q : Nat} {u b : Nat → Int32} {h0 h : ax_H} {Z : ZT} {D : Nat → Nat → Nat → Int32} {K A : Nat → Int64} {E : Nat → Nat → Int32} {TK : Int64} {Q : Nat → Mg} {ms : List Mg}  (hfr : 3 ≤ fr) (hlo : 130 ≤ lo) (hC : CG s0 n nn gg f) (hG : GS Z s0 n nn gg C f q u b h0 h E TK Q ms D K A) : ax_M L xs 169 fr lo [.ref s0] h (fun r h' => ∃ (y : Int32) (sf hv : Nat → Int32), r = some (.int y) ∧ GS Z s0 n nn gg C f q u b h0 h' (va_up (va_up E 1 sf) 65 hv) TK Q ms D K A) := by
  have hC0 := hC
  obtain ⟨hs0, hsn, hnn3, hnn, hgg1, hgg, hRg⟩ := hC
  obtain ⟨hS, hG0, hM, hE, hK, hz⟩ := hG
  generalize ehb : h = hb at hS hG0 hz ⊢
  have key : ∀ (k i : Nat) (wv : Int32) (h : ax_H) (sf hv : Nat → Int32), i + k = 961 → AS s0 n nn gg C f q u b hb h (va_up (va_up E 1 sf) 65 hv) TK Q ms → ax_A (ax_step L xs) ((169, 50, fr, lo), [(0, .ref s0), (1, .int wv), (2, .int (nI i))], [], h) (fun r h' => ∃ (y : Int32) (sf hv : Nat → Int32), r = some (.int y) ∧ GS Z s0 n nn gg C f q u b h0 h' (va_up (va_up E 1 sf) 65 hv) TK Q ms D K A) := by
    intro k
    induction k with
    | zero =>
      intro i wv h sf hv hi hS
      have e0 : 961 = i := by omega
      subst e0
      have hSk := hS
      obtain ⟨hF, hA, hN, hf, hn, hs, hp0⟩ := hS
      replace hF : ax_hs h [cSt s0 n (va_up (va_up E 1 sf) 65 hv), cRk n nn gg C, cOr n nn gg f, cAs n (va_up (va_up E 1 sf) 65 hv), cEr n 5 512 (va_up (va_up E 1 sf) 65 hv), cEr n 6 100 (va_up (va_up E 1 sf) 65 hv), cEr n 7 2 (va_up (va_up E 1 sf) 65 hv), cAk n, cEr n 9 512 (va_up (va_up E 1 sf) 65 hv), cNa n nn, cEr n 0 48 (va_up (va_up E 1 sf) 65 hv), cEr n 1 961 (va_up (va_up E 1 sf) 65 hv), cTs n gg (va_up (va_up E 1 sf) 65 hv) TK, cEr n 59 48 (va_up (va_up E 1 sf) 65 hv), cEr n 60 48 (va_up (va_up E 1 sf) 65 hv), cEr n 61 48 (va_up (va_up E 1 sf) 65 hv), cEr n 62 2400 (va_up (va_up E 1 sf) 65 hv), cEr n 63 512 (va_up (va_up E 1 sf) 65 hv), cEr n 64 961 (va_up (va_up E 1 sf) 65 hv), cEr n 65 961 (va_up (va_up E 1 sf) 65 hv)] := hF
      refine ar_iload_n 51 d_169_50 rfl rfl ?_
      refine ar_sipush 54 (v := 961) d_169_51 rfl (by decide) ?_
      refine ar_icmp_ge 98 57 d_169_54 (by decide) rfl (fun _ => ?_) (fun c => absurd (Int32.le_refl _) c)
      refine ar_iload_n 99 d_169_98 rfl rfl ?_
      exact ar_iret d_169_99 rfl rfl (⟨_, sf, hv, rfl, GS.as hsn hz hG0 hSk hM (hE.f4 rfl rfl rfl rfl hE.lens.1 hE.lens.2) hK⟩)
    | succ k ih =>
      intro i wv h sf hv hi hS
      have hic : i < 961 := by omega
      have hSk := hS
      obtain ⟨hF, hA, hN, hf, hn, hs, hp0⟩ := hS
      replace hF : ax_hs h [cSt s0 n (va_up (va_up E 1 sf) 65 hv), cRk n nn gg C, cOr n nn gg f, cAs n (va_up (va_up E 1 sf) 65 hv), cEr n 5 512 (va_up (va_up E 1 sf) 65 hv), cEr n 6 100 (va_up (va_up E 1 sf) 65 hv), cEr n 7 2 (va_up (va_up E 1 sf) 65 hv), cAk n, cEr n 9 512 (va_up (va_up E 1 sf) 65 hv), cNa n nn, cEr n 0 48 (va_up (va_up E 1 sf) 65 hv), cEr n 1 961 (va_up (va_up E 1 sf) 65 hv), cTs n gg (va_up (va_up E 1 sf) 65 hv) TK, cEr n 59 48 (va_up (va_up E 1 sf) 65 hv), cEr n 60 48 (va_up (va_up E 1 sf) 65 hv), cEr n 61 48 (va_up (va_up E 1 sf) 65 hv), cEr n 62 2400 (va_up (va_up E 1 sf) 65 hv), cEr n 63 512 (va_up (va_up E 1 sf) 65 hv), cEr n 64 961 (va_up (va_up E 1 sf) 65 hv), cEr n 65 961 (va_up (va_up E 1 sf) 65 hv)] := hF
      refine ar_iload_n 51 d_169_50 rfl rfl ?_
      refine ar_sipush 54 (v := 961) d_169_51 rfl (by decide) ?_
      refine ar_icmp_ge 98 57 d_169_54 (by decide) rfl (fun c => absurd c (nI_ge hic (by decide))) (fun _ => ?_)
      refine ar_aload_n 58 d_169_57 rfl rfl ?_
      refine ar_getf 61 d_169_58 rfl (ci := 0) (k := 4) rfl (hF.at 0 rfl) rfl ?_
      refine ar_getf 64 d_169_61 rfl (ci := 6) (k := 6) rfl (hF.at 12 rfl) rfl ?_
      refine ar_iload_n 65 d_169_64 rfl rfl ?_
      refine ar_iald 66 d_169_65 rfl (hF.at 18 rfl) (vin (by omega) (by omega)) ?_
      refine ar_if_lt 92 69 d_169_66 (by decide) rfl (fun c1 => ?_) (fun c1 => ?_)
      · refine ar_iinc 95 [(0, .ref s0), (1, .int wv), (2, .int (nI (i + 1)))] d_169_92 rfl rfl (nI_1 i) (by decide) rfl ?_
        refine ar_goto 50 d_169_95 (by decide) ?_
        exact ih (i + 1) _ h sf hv (by omega) hSk
      · refine ar_iload_n 70 d_169_69 rfl rfl ?_
        refine ar_aload_n 71 d_169_70 rfl rfl ?_
        refine ar_getf 74 d_169_71 rfl (ci := 0) (k := 0) rfl (hF.at 0 rfl) rfl ?_
        refine ar_getf 77 d_169_74 rfl (ci := 3) (k := 1) rfl (hF.at 1 rfl) rfl ?_
        refine ar_aload_n 78 d_169_77 rfl rfl ?_
        refine ar_getf 81 d_169_78 rfl (ci := 0) (k := 4) rfl (hF.at 0 rfl) rfl ?_
        refine ar_getf 84 d_169_81 rfl (ci := 6) (k := 7) rfl (hF.at 12 rfl) rfl ?_
        refine ar_iload_n 85 d_169_84 rfl rfl ?_
        refine ar_iald 86 d_169_85 rfl (hF.at 19 rfl) (vin (by omega) (by omega)) ?_
        refine ar_call (r := [.int C, .int wv]) (na := 0) (kd := 0) (cm := 140) (fr2 := fr - 1) (lo2 := lo - 20) 89 d_169_86 (ar_hoS (as := [.int (((va_up (va_up E 1 sf) 65 hv) 65) (nI i).toNatClampNeg)]) rfl rfl rfl) rfl (by omega) (show lo - 20 + (19 + 1) = lo by omega) (Nat.le_of_ble_eq_true rfl) (Nat.le_of_ble_eq_true rfl) (c_140S) ?_
        intro v hh hq
        obtain ⟨y1, rfl, ehh⟩ := hq
        rw [ehh]
        clear ehh
        refine ar_isub 90 d_169_89 rfl ?_
        refine ar_iadd 91 d_169_90 rfl ?_
        refine ar_istore_n 92 [(0, .ref s0), (1, .int (wv + (C - y1))), (2, .int (nI i))] d_169_91 rfl (by decide) rfl ?_
        refine ar_iinc 95 [(0, .ref s0), (1, .int (wv + (C - y1))), (2, .int (nI (i + 1)))] d_169_92 rfl rfl (nI_1 i) (by decide) rfl ?_
        refine ar_goto 50 d_169_95 (by decide) ?_
        exact ih (i + 1) _ h sf hv (by omega) hSk
  have key2 : ∀ (k i : Nat) (wv : Int32) (h : ax_H) (sf hv : Nat → Int32), i + k = nn → AS s0 n nn gg C f q u b hb h (va_up (va_up E 1 sf) 65 hv) TK Q ms → seenI nn (va_up (va_up E 1 sf) 65 hv) → ax_A (ax_step L xs) ((169, 25, fr, lo), [(0, .ref s0), (1, .int wv), (2, .int (nI i))], [], h) (fun r h' => ∃ (y : Int32) (sf hv : Nat → Int32), r = some (.int y) ∧ GS Z s0 n nn gg C f q u b h0 h' (va_up (va_up E 1 sf) 65 hv) TK Q ms D K A) := by
    intro k
    induction k with
    | zero =>
      intro i wv h sf hv hi hS hsI
      have e0 : nn = i := by omega
      subst e0
      have hSk := hS
      obtain ⟨hF, hA, hN, hf, hn, hs, hp0⟩ := hS
      replace hF : ax_hs h [cSt s0 n (va_up (va_up E 1 sf) 65 hv), cRk n nn gg C, cOr n nn gg f, cAs n (va_up (va_up E 1 sf) 65 hv), cEr n 5 512 (va_up (va_up E 1 sf) 65 hv), cEr n 6 100 (va_up (va_up E 1 sf) 65 hv), cEr n 7 2 (va_up (va_up E 1 sf) 65 hv), cAk n, cEr n 9 512 (va_up (va_up E 1 sf) 65 hv), cNa n nn, cEr n 0 48 (va_up (va_up E 1 sf) 65 hv), cEr n 1 961 (va_up (va_up E 1 sf) 65 hv), cTs n gg (va_up (va_up E 1 sf) 65 hv) TK, cEr n 59 48 (va_up (va_up E 1 sf) 65 hv), cEr n 60 48 (va_up (va_up E 1 sf) 65 hv), cEr n 61 48 (va_up (va_up E 1 sf) 65 hv), cEr n 62 2400 (va_up (va_up E 1 sf) 65 hv), cEr n 63 512 (va_up (va_up E 1 sf) 65 hv), cEr n 64 961 (va_up (va_up E 1 sf) 65 hv), cEr n 65 961 (va_up (va_up E 1 sf) 65 hv)] := hF
      refine ar_iload_n 26 d_169_25 rfl rfl ?_
      refine ar_aload_n 27 d_169_26 rfl rfl ?_
      refine ar_getf 30 d_169_27 rfl (ci := 0) (k := 3) rfl (hF.at 0 rfl) rfl ?_
      refine ar_alen 31 d_169_30 rfl (hF.at 9 rfl) (by decide) ?_
      refine ar_icmp_ge 48 34 d_169_31 (by decide) rfl (fun _ => ?_) (fun c => absurd (Int32.le_refl _) c)
      refine ar_iconst 49 (v := 0) d_169_48 rfl (by decide) ?_
      refine ar_istore_n 50 [(0, .ref s0), (1, .int wv), (2, .int 0)] d_169_49 rfl (by decide) rfl ?_
      exact key 961 0 _ h sf hv (by omega) hSk
    | succ k ih =>
      intro i wv h sf hv hi hS hsI
      have hic : i < nn := by omega
      have hSk := hS
      obtain ⟨hF, hA, hN, hf, hn, hs, hp0⟩ := hS
      replace hF : ax_hs h [cSt s0 n (va_up (va_up E 1 sf) 65 hv), cRk n nn gg C, cOr n nn gg f, cAs n (va_up (va_up E 1 sf) 65 hv), cEr n 5 512 (va_up (va_up E 1 sf) 65 hv), cEr n 6 100 (va_up (va_up E 1 sf) 65 hv), cEr n 7 2 (va_up (va_up E 1 sf) 65 hv), cAk n, cEr n 9 512 (va_up (va_up E 1 sf) 65 hv), cNa n nn, cEr n 0 48 (va_up (va_up E 1 sf) 65 hv), cEr n 1 961 (va_up (va_up E 1 sf) 65 hv), cTs n gg (va_up (va_up E 1 sf) 65 hv) TK, cEr n 59 48 (va_up (va_up E 1 sf) 65 hv), cEr n 60 48 (va_up (va_up E 1 sf) 65 hv), cEr n 61 48 (va_up (va_up E 1 sf) 65 hv), cEr n 62 2400 (va_up (va_up E 1 sf) 65 hv), cEr n 63 512 (va_up (va_up E 1 sf) 65 hv), cEr n 64 961 (va_up (va_up E 1 sf) 65 hv), cEr n 65 961 (va_up (va_up E 1 sf) 65 hv)] := hF
      refine ar_iload_n 26 d_169_25 rfl rfl ?_
      refine ar_aload_n 27 d_169_26 rfl rfl ?_
      refine ar_getf 30 d_169_27 rfl (ci := 0) (k := 3) rfl (hF.at 0 rfl) rfl ?_
      refine ar_alen 31 d_169_30 rfl (hF.at 9 rfl) (by decide) ?_
      refine ar_icmp_ge 48 34 d_169_31 (by decide) rfl (fun c => absurd c (nI_ge hic (by omega))) (fun _ => ?_)
      refine ar_iload_n 35 d_169_34 rfl rfl ?_
      refine ar_aload_n 36 d_169_35 rfl rfl ?_
      refine ar_iload_n 37 d_169_36 rfl rfl ?_
      refine ar_call (r := [.int wv]) (na := 0) (kd := 0) (cm := 170) (fr2 := fr - 1) (lo2 := lo - 25) 40 d_169_37 (ar_hoV (as := [.int (nI i)]) rfl rfl rfl (hF.at 0 rfl)) rfl (by omega) (show lo - 25 + (19 + 6) = lo by omega) (Nat.le_of_ble_eq_true rfl) (Nat.le_of_ble_eq_true rfl) (gx_170 (by omega) (by omega) hC0 hG0 hSk hic hsI hK.1) ?_
      intro v hp_1 hq
      obtain ⟨y2, sf2, hv2, rfl, hS2, hs2⟩ := hq
      rw [va2] at hS2 hs2
      refine ar_iadd 41 d_169_40 rfl ?_
      refine ar_istore_n 42 [(0, .ref s0), (1, .int (wv + y2)), (2, .int (nI i))] d_169_41 rfl (by decide) rfl ?_
      refine ar_iinc 45 [(0, .ref s0), (1, .int (wv + y2)), (2, .int (nI (i + 1)))] d_169_42 rfl rfl (nI_1 i) (by decide) rfl ?_
      refine ar_goto 25 d_169_45 (by decide) ?_
      exact ih (i + 1) _ hp_1 sf2 hv2 (by omega) hS2 hs2
  show ax_A (ax_step L xs) ((169, 0, fr, lo), [(0, .ref s0)], [], hb) _
  have hSk := hS
  obtain ⟨hF, hA, hN, hf, hn, hs, hp0⟩ := hS
  replace hF : ax_hs hb [cSt s0 n E, cRk n nn gg C, cOr n nn gg f, cAs n E, cEr n 5 512 E, cEr n 6 100 E, cEr n 7 2 E, cAk n, cEr n 9 512 E, cNa n nn, cEr n 0 48 E, cEr n 1 961 E, cTs n gg E TK, cEr n 59 48 E, cEr n 60 48 E, cEr n 61 48 E, cEr n 62 2400 E, cEr n 63 512 E, cEr n 64 961 E, cEr n 65 961 E] := hF
  refine ar_aload_n 1 d_169_0 rfl rfl ?_
  refine ar_getf 4 d_169_1 rfl (ci := 0) (k := 10) rfl (hF.at 0 rfl) rfl ?_
  refine ar_if_ne 10 7 d_169_4 (by decide) rfl (fun c1 => ?_) (fun c1 => ?_)
  · refine ar_aload_n 11 d_169_10 rfl rfl ?_
    refine ar_getf 14 d_169_11 rfl (ci := 0) (k := 4) rfl (hF.at 0 rfl) rfl ?_
    refine ar_getf 17 d_169_14 rfl (ci := 6) (k := 7) rfl (hF.at 12 rfl) rfl ?_
    refine ar_iconst 18 (v := 0) d_169_17 rfl (by decide) ?_
    refine ar_call (r := []) (na := 0) (kd := 0) (cm := 13) (fr2 := fr - 1) (lo2 := lo - 23) 21 d_169_18 (ar_hoS (as := [.ref (n + 327), .int 0]) rfl rfl rfl) rfl (by omega) (show lo - 23 + (19 + 4) = lo by omega) (Nat.le_of_ble_eq_true rfl) (Nat.le_of_ble_eq_true rfl) (c_13 (hF.at 19 rfl) (by decide)) ?_
    intro v hh hq
    obtain ⟨rfl, rfl⟩ := hq
    replace hF : ax_hs (ax_put hb (n + 327) (.inl (0, 961, .inl (ax_fill (E 65) 0 961 0)))) [cSt s0 n E, cRk n nn gg C, cOr n nn gg f, cAs n E, cEr n 5 512 E, cEr n 6 100 E, cEr n 7 2 E, cAk n, cEr n 9 512 E, cNa n nn, cEr n 0 48 E, cEr n 1 961 E, cTs n gg E TK, cEr n 59 48 E, cEr n 60 48 E, cEr n 61 48 E, cEr n 62 2400 E, cEr n 63 512 E, cEr n 64 961 E, (n + 327, .inl (0, 961, .inl (ax_fill (E 65) 0 961 0)))] := hF.put 19 _ rfl rfl
    replace hf := hf.put (a := n + 327) (c := .inl (0, 961, .inl (ax_fill (E 65) 0 961 0))) (Or.inr (by omega))
    replace hN := hN.put (a := n + 327) (c := .inl (0, 961, .inl (ax_fill (E 65) 0 961 0))) (by omega)
    replace hA := hA.put (a := n + 327) (c := .inl (0, 961, .inl (ax_fill (E 65) 0 961 0))) (by omega)
    replace hn : (ax_put hb (n + 327) (.inl (0, 961, .inl (ax_fill (E 65) 0 961 0)))).1 = hb.1 := hn
    replace hs : (ax_put hb (n + 327) (.inl (0, 961, .inl (ax_fill (E 65) 0 961 0)))).2.1 = hb.2.1 := hs
    generalize ax_put hb (n + 327) (.inl (0, 961, .inl (ax_fill (E 65) 0 961 0))) = hp_1 at hF hf hA hN hn hs ⊢
    refine ar_iconst 22 (v := 0) d_169_21 rfl (by decide) ?_
    refine ar_istore_n 23 [(0, .ref s0), (1, .int 0)] d_169_22 rfl (by decide) rfl ?_
    refine ar_iconst 24 (v := 0) d_169_23 rfl (by decide) ?_
    refine ar_istore_n 25 [(0, .ref s0), (1, .int 0), (2, .int 0)] d_169_24 rfl (by decide) rfl ?_
    have hS1 : AS s0 n nn gg C f q u b hb hp_1 (va_up E 65 (ax_fill (E 65) 0 961 0)) TK Q ms := ⟨hF, hA, hN, hf, hn, hs, hp0⟩
    have hS2 : AS s0 n nn gg C f q u b hb hp_1 (va_up (va_up E 1 (E 1)) 65 (ax_fill (E 65) 0 961 0)) TK Q ms := by
      rw [show va_up E 1 (E 1) = E from va_up_sf]
      exact hS1
    exact key2 nn 0 _ hp_1 (E 1) _ (by omega) hS2 (fun x hx z => absurd (show ax_fill (E 65) 0 961 0 x = 0 from if_pos ⟨by omega, hx⟩) z)
  · refine ar_bipush 9 (v := -6) d_169_7 rfl (by decide) ?_
    have eid : va_up (va_up E 1 (E 1)) 65 (E 65) = E := by rw [show va_up E 1 (E 1) = E from va_up_sf, show va_up E 65 (E 65) = E from va_up_sf]
    exact ar_iret d_169_9 rfl rfl (⟨_, E 1, E 65, rfl, by rw [eid]; exact GS.as hsn hz hG0 hSk hM hE hK⟩)

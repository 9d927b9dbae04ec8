/-! stir, tick, crash, restart, map, replace, settle for every state -/

/-- some state of the store, the MESSAGE looked at left aside -/
def GX (Z : ZT) (s0 n nn gg : Nat) (C : Int32) (f : Nat → Int32) (h0 h : ax_H) (e : Nat → Int32) (TK : Int64) (D : Nat → Nat → Nat → Int32) (Rl : SS → Prop) : Prop := ∃ (q : Nat) (u b : Nat → Int32) (E' : Nat → Nat → Int32) (Q' : Nat → Mg) (ms' : List Mg) (D' : Nat → Nat → Nat → Int32) (K' A' : Nat → Int64), GS Z s0 n nn gg C f q u b h0 h E' TK Q' ms' D' K' A' ∧ GR nn D D' ∧ E' 100 = e ∧ Rl (E', Q', ms', D', K', A')
def itR (R : SS → SS → Prop) : Nat → SS → SS → Prop
  | 0, S, S' => S' = S
  | k + 1, S, S' => ∃ S1 : SS, itR R k S S1 ∧ R S1 S'
/-- one move of stir: a MESSAGE is lost, or handed over, or handed over and stays under way -/
def mvR (nn gg : Nat) (C : Int32) (f : Nat → Int32) (S S' : SS) : Prop := (∃ (x : Mg) (S1 : SS), tkM x S S1 ∧ (S' = S1 ∨ hoR nn gg C f x S1 S')) ∨ ∃ x : Mg, x ∈ S.2.2.1 ∧ hoR nn gg C f x S S'
theorem GR.rf {nn : Nat} {D : Nat → Nat → Nat → Int32} : GR nn D D := fun _ _ => rfl
theorem GR.tr {nn : Nat} {D D1 D2 : Nat → Nat → Nat → Int32} (h1 : GR nn D D1) (h2 : GR nn D1 D2) : GR nn D D2 := fun j hj => (h2 j hj).trans (h1 j hj)
theorem itR.snoc {R : SS → SS → Prop} {S0 S S' : SS} (h : ∃ k, itR R k S0 S) (hr : R S S') : ∃ k, itR R k S0 S' := by
  obtain ⟨k, hk⟩ := h
  exact ⟨k + 1, S, hk, hr⟩
set_option maxRecDepth 100000 in
theorem glp_131 {L : Nat} {xs : Nat → Int32} {fr lo : Nat} {s0 n nn gg N : Nat} {C sd : Int32} {f ec : Nat → Int32} {h0 : ax_H} {Z : ZT} {TK : Int64} {D : Nat → Nat → Nat → Int32} {S0 : SS} (hfr : 10 ≤ fr) (hlo : 350 ≤ lo) (hC : CG s0 n nn gg f) (hN5 : N ≤ 500) : ∀ (k i : Nat) (h : ax_H) (q : Nat) (u b : Nat → Int32) (E1 : Nat → Nat → Int32) (Q1 : Nat → Mg) (ms1 : List Mg) (D1 : Nat → Nat → Nat → Int32) (K1 A1 : Nat → Int64) (y : Int32), i + k = N → GS Z s0 n nn gg C f q u b h0 h E1 TK Q1 ms1 D1 K1 A1 → GR nn D D1 → E1 100 = ec → (∃ k9, itR (mvR nn gg C f) k9 S0 (E1, Q1, ms1, D1, K1, A1)) → ax_A (ax_step L xs) ((131, 24, fr, lo), [(0, .ref s0), (1, .int (nI N)), (2, .int sd), (3, .int y), (4, .int (nI i))], [], h) (fun r h' => r = some (.int (nI N)) ∧ GX Z s0 n nn gg C f h0 h' ec TK D (fun S9 => ∃ k9, itR (mvR nn gg C f) k9 S0 S9)) := by
    have hC0 := hC
    obtain ⟨hs0, hsn, hnn3, hnn, hgg1, hgg, hRg⟩ := hC
    intro k
    induction k with
    | zero =>
      intro i h q u b E1 Q1 ms1 D1 K1 A1 y hi hG hR hec hit
      have e0 : N = i := by omega
      subst e0
      have hGk := hG
      have hGG := hG
      obtain ⟨hS, hG0, hM, hE, hK, hz⟩ := hG
      have hM0 := hM
      obtain ⟨hF, hA, hN, hf, hn, hs, hp0⟩ := hS
      replace hF : ax_hs h [cSt s0 n E1, cRk n nn gg C, cOr n nn gg f, cAs n E1, cEr n 5 512 E1, cEr n 6 100 E1, cEr n 7 2 E1, cAk n, cEr n 9 512 E1, cNa n nn, cEr n 0 48 E1, cEr n 1 961 E1, cTs n gg E1 TK, cEr n 59 48 E1, cEr n 60 48 E1, cEr n 61 48 E1, cEr n 62 2400 E1, cEr n 63 512 E1, cEr n 64 961 E1, cEr n 65 961 E1] := hF
      refine ar_iload 26 d_131_24 rfl rfl ?_
      refine ar_iload_n 27 d_131_26 rfl rfl ?_
      refine ar_icmp_ge 120 30 d_131_27 (by decide) rfl (fun _ => ?_) (fun c => absurd (Int32.le_refl _) c)
      refine ar_iload_n 121 d_131_120 rfl rfl ?_
      exact ar_iret d_131_121 rfl rfl (⟨rfl, _, _, _, _, _, _, _, _, _, hGk, hR, hec, hit⟩)
    | succ k ih =>
      intro i h q u b E1 Q1 ms1 D1 K1 A1 y hi hG hR hec hit
      have hGk := hG
      have hGG := hG
      obtain ⟨hS, hG0, hM, hE, hK, hz⟩ := hG
      have hM0 := hM
      obtain ⟨hF, hA, hN, hf, hn, hs, hp0⟩ := hS
      replace hF : ax_hs h [cSt s0 n E1, cRk n nn gg C, cOr n nn gg f, cAs n E1, cEr n 5 512 E1, cEr n 6 100 E1, cEr n 7 2 E1, cAk n, cEr n 9 512 E1, cNa n nn, cEr n 0 48 E1, cEr n 1 961 E1, cTs n gg E1 TK, cEr n 59 48 E1, cEr n 60 48 E1, cEr n 61 48 E1, cEr n 62 2400 E1, cEr n 63 512 E1, cEr n 64 961 E1, cEr n 65 961 E1] := hF
      refine ar_iload 26 d_131_24 rfl rfl ?_
      refine ar_iload_n 27 d_131_26 rfl rfl ?_
      refine ar_icmp_ge 120 30 d_131_27 (by decide) rfl (fun c => absurd c (nI_ge (by omega) (by omega))) (fun _ => ?_)
      refine ar_aload_n 31 d_131_30 rfl rfl ?_
      refine ar_getf 34 d_131_31 rfl (ci := 0) (k := 1) rfl (hF.at 0 rfl) rfl ?_
      obtain ⟨hl128, za, zc, hnet⟩ := hN.netc
      refine ar_getf 37 d_131_34 rfl (ci := 1) (k := 1) rfl hnet rfl ?_
      refine ar_if_le 120 40 d_131_37 (by decide) rfl (fun c9 => ?_) (fun c9 => ?_)
      · refine ar_iload_n 121 d_131_120 rfl rfl ?_
        exact ar_iret d_131_121 rfl rfl (⟨rfl, _, _, _, _, _, _, _, _, _, hGk, hR, hec, hit⟩)
      · have hlen : 0 < ms1.length := Nat.pos_of_ne_zero (fun z => c9 (by rw [z]; exact Int32.le_refl _))
        refine ar_iload_n 41 d_131_40 rfl rfl ?_
        refine ar_ldc 43 d_131_41 rfl (v := 1103515245) rfl ?_
        refine ar_imul 44 d_131_43 rfl ?_
        refine ar_sipush 47 (v := 12345) d_131_44 rfl (by decide) ?_
        refine ar_iadd 48 d_131_47 rfl ?_
        generalize (y * 1103515245) + 12345 = y2
        obtain ⟨k2, hk2, ek⟩ := rem_nn9 (x := (y2.toUInt32 >>> ((8 : Int32).toUInt32 &&& Int32.toUInt32 31)).toInt32) (c := ms1.length) hlen (by omega) (ushr_nn y2)
        refine ar_istore_n 49 [(0, .ref s0), (1, .int (nI N)), (2, .int sd), (3, .int y2), (4, .int (nI i))] d_131_48 rfl (by decide) rfl ?_
        refine ar_iload_n 50 d_131_49 rfl rfl ?_
        refine ar_bipush 52 (v := 8) d_131_50 rfl (by decide) ?_
        refine ar_iushr 53 d_131_52 rfl ?_
        refine ar_aload_n 54 d_131_53 rfl rfl ?_
        refine ar_getf 57 d_131_54 rfl (ci := 0) (k := 1) rfl (hF.at 0 rfl) rfl ?_
        refine ar_getf 60 d_131_57 rfl (ci := 1) (k := 1) rfl hnet rfl ?_
        refine ar_irem 61 d_131_60 rfl (nI_nz9 hlen (by omega)) ?_
        refine ar_top (x' := nI k2) (ek) ?_
        refine ar_istore 63 [(0, .ref s0), (1, .int (nI N)), (2, .int sd), (3, .int y2), (4, .int (nI i)), (5, .int (nI k2))] d_131_61 rfl (by decide) rfl ?_
        refine ar_iload_n 64 d_131_63 rfl rfl ?_
        refine ar_bipush 66 (v := 28) d_131_64 rfl (by decide) ?_
        refine ar_iushr 67 d_131_66 rfl ?_
        refine ar_istore 69 [(0, .ref s0), (1, .int (nI N)), (2, .int sd), (3, .int y2), (4, .int (nI i)), (5, .int (nI k2)), (6, .int ((y2.toUInt32 >>> ((28 : Int32).toUInt32 &&& Int32.toUInt32 31)).toInt32))] d_131_67 rfl (by decide) rfl ?_
        refine ar_iload 71 d_131_69 rfl rfl ?_
        refine ar_if_ne 91 74 d_131_71 (by decide) rfl (fun c8 => ?_) (fun c8 => ?_)
        · refine ar_aload_n 92 d_131_91 rfl rfl ?_
          refine ar_getf 95 d_131_92 rfl (ci := 0) (k := 1) rfl (hF.at 0 rfl) rfl ?_
          refine ar_iload 97 d_131_95 rfl rfl ?_
          have hS1 : AS s0 n nn gg C f q u b h h E1 TK Q1 ms1 := ⟨hF, hA, hN, hf, hn, hs, hp0⟩
          refine ar_call (r := []) (na := 0) (kd := 0) (cm := 51) (fr2 := fr - 1) (lo2 := lo - 22) 100 d_131_97 (ar_hoV (as := [.int (nI k2)]) rfl rfl rfl hnet) rfl (by omega) (show lo - 22 + (19 + 3) = lo by omega) (Nat.le_of_ble_eq_true rfl) (Nat.le_of_ble_eq_true rfl) (hN.take hk2) ?_
          intro v hp_1 hq
          obtain ⟨q2, x2, ms2, rfl, hxk, hpm, hN2, hf2, hz1, hz2⟩ := hq
          have hG1 : GS Z s0 n nn gg C f q2 x2.1 x2.2 h0 hp_1 E1 TK Q1 ms2 D1 K1 A1 := GS.as hsn hz hG0 (hS1.take hsn hN2 hf2 hz1 hz2) (perm_mem hpm hM).2 hE hK
          replace hF : ax_hs hp_1 [cSt s0 n E1, cRk n nn gg C, cOr n nn gg f, cAs n E1, cEr n 5 512 E1, cEr n 6 100 E1, cEr n 7 2 E1, cAk n, cEr n 9 512 E1, cNa n nn, cEr n 0 48 E1, cEr n 1 961 E1, cTs n gg E1 TK, cEr n 59 48 E1, cEr n 60 48 E1, cEr n 61 48 E1, cEr n 62 2400 E1, cEr n 63 512 E1, cEr n 64 961 E1, cEr n 65 961 E1] := hG1.1.1
          refine ar_astore 102 [(0, .ref s0), (1, .int (nI N)), (2, .int sd), (3, .int y2), (4, .int (nI i)), (5, .int (nI k2)), (6, .int ((y2.toUInt32 >>> ((28 : Int32).toUInt32 &&& Int32.toUInt32 31)).toInt32)), (7, .ref (n + 1 + 1 + 2 * q2))] d_131_100 rfl (by decide) rfl ?_
          refine ar_iload 104 d_131_102 rfl rfl ?_
          refine ar_iconst 105 (v := 2) d_131_104 rfl (by decide) ?_
          refine ar_icmp_le 114 108 d_131_105 (by decide) rfl (fun c7 => ?_) (fun c7 => ?_)
          · refine ar_iinc 117 [(0, .ref s0), (1, .int (nI N)), (2, .int sd), (3, .int y2), (4, .int (nI (i + 1))), (5, .int (nI k2)), (6, .int ((y2.toUInt32 >>> ((28 : Int32).toUInt32 &&& Int32.toUInt32 31)).toInt32)), (7, .ref (n + 1 + 1 + 2 * q2))] d_131_114 rfl rfl (nI_1 i) (by decide) rfl ?_
            refine ar_goto 24 d_131_117 (by decide) ?_
            refine ar_wk [0, 1, 2, 3, 4] rfl (by simp) ?_
            exact ih (i + 1) hp_1 _ _ _ _ _ _ _ _ _ _ (by omega) hG1 hR hec (itR.snoc hit (Or.inl ⟨x2, _, ⟨ms2, hpm, rfl⟩, Or.inl rfl⟩))
          · refine ar_aload_n 109 d_131_108 rfl rfl ?_
            refine ar_aload 111 d_131_109 rfl rfl ?_
            refine ar_call (r := []) (na := 0) (kd := 0) (cm := 52) (fr2 := fr - 1) (lo2 := lo - 21) 114 d_131_111 (ar_hoV (as := [.ref (n + 1 + 1 + 2 * q2)]) rfl rfl rfl (hF.at 0 rfl)) rfl (by omega) (show lo - 21 + (19 + 2) = lo by omega) (Nat.le_of_ble_eq_true rfl) (Nat.le_of_ble_eq_true rfl) (g_52 (by omega) (by omega) hC0 hG1 (perm_mem hpm hM).1) ?_
            intro v hp_2 hq
            obtain ⟨rfl, E3, Q3, ms3, D3, K3, A3, hG3, hR3, he3, hr3⟩ := hq
            refine ar_iinc 117 [(0, .ref s0), (1, .int (nI N)), (2, .int sd), (3, .int y2), (4, .int (nI (i + 1))), (5, .int (nI k2)), (6, .int ((y2.toUInt32 >>> ((28 : Int32).toUInt32 &&& Int32.toUInt32 31)).toInt32)), (7, .ref (n + 1 + 1 + 2 * q2))] d_131_114 rfl rfl (nI_1 i) (by decide) rfl ?_
            refine ar_goto 24 d_131_117 (by decide) ?_
            refine ar_wk [0, 1, 2, 3, 4] rfl (by simp) ?_
            exact ih (i + 1) hp_2 _ _ _ _ _ _ _ _ _ _ (by omega) hG3 (hR.tr hR3) (he3.trans hec) (itR.snoc hit (Or.inl ⟨x2, _, ⟨ms2, hpm, rfl⟩, Or.inr hr3⟩))
        · obtain ⟨wf, hw, hway⟩ := hN.way
          obtain ⟨q2, x2, hf2, hx2, hN2⟩ := hway k2 hk2
          refine ar_aload_n 75 d_131_74 rfl rfl ?_
          refine ar_aload_n 76 d_131_75 rfl rfl ?_
          refine ar_getf 79 d_131_76 rfl (ci := 0) (k := 1) rfl (hF.at 0 rfl) rfl ?_
          refine ar_getf 82 d_131_79 rfl (ci := 1) (k := 0) rfl hnet rfl ?_
          refine ar_iload 84 d_131_82 rfl rfl ?_
          refine ar_aald 85 d_131_84 rfl hw rfl (nI_in (by omega) (by omega)) ?_
          refine ar_tv (v' := .ref (n + 1 + 1 + 2 * q2)) (by rw [nI_clamp (by omega), hf2]; rfl) ?_
          have hG1 : GS Z s0 n nn gg C f q2 x2.1 x2.2 h0 h E1 TK Q1 ms1 D1 K1 A1 := GS.as hsn hz hG0 ⟨hF, hA, hN2, hf, hn, hs, hp0⟩ hM hE hK
          refine ar_call (r := []) (na := 0) (kd := 0) (cm := 52) (fr2 := fr - 1) (lo2 := lo - 21) 88 d_131_85 (ar_hoV (as := [.ref (n + 1 + 1 + 2 * q2)]) rfl rfl rfl (hF.at 0 rfl)) rfl (by omega) (show lo - 21 + (19 + 2) = lo by omega) (Nat.le_of_ble_eq_true rfl) (Nat.le_of_ble_eq_true rfl) (g_52 (by omega) (by omega) hC0 hG1 (hM x2 (List.mem_of_getElem? hx2))) ?_
          intro v hp_3 hq
          obtain ⟨rfl, E3, Q3, ms3, D3, K3, A3, hG3, hR3, he3, hr3⟩ := hq
          refine ar_goto 114 d_131_88 (by decide) ?_
          refine ar_iinc 117 [(0, .ref s0), (1, .int (nI N)), (2, .int sd), (3, .int y2), (4, .int (nI (i + 1))), (5, .int (nI k2)), (6, .int ((y2.toUInt32 >>> ((28 : Int32).toUInt32 &&& Int32.toUInt32 31)).toInt32))] d_131_114 rfl rfl (nI_1 i) (by decide) rfl ?_
          refine ar_goto 24 d_131_117 (by decide) ?_
          refine ar_wk [0, 1, 2, 3, 4] rfl (by simp) ?_
          exact ih (i + 1) hp_3 _ _ _ _ _ _ _ _ _ _ (by omega) hG3 (hR.tr hR3) (he3.trans hec) (itR.snoc hit (Or.inr ⟨x2, List.mem_of_getElem? hx2, hr3⟩))
set_option maxRecDepth 100000 in
theorem g_131 {L : Nat} {xs : Nat → Int32} {fr lo : Nat} {s0 n nn gg : Nat} {C : Int32} {f : Nat → Int32} {q : Nat} {u b : Nat → Int32} {h0 h : ax_H} {Z : ZT} {D : Nat → Nat → Nat → Int32} {K A : Nat → Int64} {E : Nat → Nat → Int32} {TK : Int64} {Q : Nat → Mg} {ms : List Mg} {x y : Int32} (hfr : 10 ≤ fr) (hlo : 350 ≤ lo) (hC : CG s0 n nn gg f) (hG : GS Z s0 n nn gg C f q u b h0 h E TK Q ms D K A) : ax_M L xs 131 fr lo [.ref s0, .int x, .int y] h (fun r h' => ((x < 1 ∨ ¬ x ≤ 500) ∧ r = some (.int (-1)) ∧ GX Z s0 n nn gg C f h0 h' (E 100) TK D (fun S9 => S9 = (E, Q, ms, D, K, A))) ∨ (¬ x < 1 ∧ x ≤ 500 ∧ r = some (.int x) ∧ GX Z s0 n nn gg C f h0 h' (upd (E 100) 10 0) TK D (fun S9 => ∃ k9, itR (mvR nn gg C f) k9 (ncm (E, Q, ms, D, K, A)) S9))) := by
  have hC0 := hC
  have hGk := hG
  show ax_A (ax_step L xs) ((131, 0, fr, lo), [(0, .ref s0), (1, .int x), (2, .int y)], [], h) _
  obtain ⟨hs0, hsn, hnn3, hnn, hgg1, hgg, hRg⟩ := hC
  have hGG := hG
  obtain ⟨hS, hG0, hM, hE, hK, hz⟩ := hG
  have hM0 := hM
  obtain ⟨hF, hA, hN, hf, hn, hs, hp0⟩ := hS
  replace hF : ax_hs h [cSt s0 n E, cRk n nn gg C, cOr n nn gg f, cAs n E, cEr n 5 512 E, cEr n 6 100 E, cEr n 7 2 E, cAk n, cEr n 9 512 E, cNa n nn, cEr n 0 48 E, cEr n 1 961 E, cTs n gg E TK, cEr n 59 48 E, cEr n 60 48 E, cEr n 61 48 E, cEr n 62 2400 E, cEr n 63 512 E, cEr n 64 961 E, cEr n 65 961 E] := hF
  refine ar_iload_n 1 d_131_0 rfl rfl ?_
  refine ar_iconst 2 (v := 1) d_131_1 rfl (by decide) ?_
  refine ar_icmp_lt 12 5 d_131_2 (by decide) rfl (fun c1 => ?_) (fun c1 => ?_)
  · refine ar_iconst 13 (v := -1) d_131_12 rfl (by decide) ?_
    exact ar_iret d_131_13 rfl rfl (Or.inl ⟨Or.inl c1, rfl, _, _, _, _, _, _, _, _, _, hGk, GR.rf, rfl, rfl⟩)
  · refine ar_iload_n 6 d_131_5 rfl rfl ?_
    refine ar_sipush 9 (v := 500) d_131_6 rfl (by decide) ?_
    refine ar_icmp_le 14 12 d_131_9 (by decide) rfl (fun c2 => ?_) (fun c2 => ?_)
    · obtain ⟨N, hN0, rfl⟩ := nI_of (x := x) (fun z => c1 (Int32.lt_trans z (by decide)))
      have hN5 : N ≤ 500 := (nI_leI (b := 500) hN0 (by omega)).mp c2
      refine ar_aload_n 15 d_131_14 rfl rfl ?_
      refine ar_iconst 16 (v := 0) d_131_15 rfl (by decide) ?_
      refine ar_putf 19 [.ref (n + 264), .ref n, .ref (n + 266), .ref (n + 328), .ref (n + 320), .ref (n + 262), .ref (n + 263), .int (E 100 7), .int (E 100 8), .int (E 100 9), .int 0] d_131_16 rfl (ci := 0) (k := 10) rfl rfl (hF.at 0 rfl) (Nat.le_of_ble_eq_true rfl) rfl rfl rfl ?_
      replace hF : ax_hs (ax_put h s0 (.inr (0, [.ref (n + 264), .ref n, .ref (n + 266), .ref (n + 328), .ref (n + 320), .ref (n + 262), .ref (n + 263), .int (E 100 7), .int (E 100 8), .int (E 100 9), .int 0]))) [(s0, .inr (0, [.ref (n + 264), .ref n, .ref (n + 266), .ref (n + 328), .ref (n + 320), .ref (n + 262), .ref (n + 263), .int (E 100 7), .int (E 100 8), .int (E 100 9), .int 0])), cRk n nn gg C, cOr n nn gg f, cAs n E, cEr n 5 512 E, cEr n 6 100 E, cEr n 7 2 E, cAk n, cEr n 9 512 E, cNa n nn, cEr n 0 48 E, cEr n 1 961 E, cTs n gg E TK, cEr n 59 48 E, cEr n 60 48 E, cEr n 61 48 E, cEr n 62 2400 E, cEr n 63 512 E, cEr n 64 961 E, cEr n 65 961 E] := hF.put 0 _ rfl rfl
      replace hf := hf.put (a := s0) (c := .inr (0, [.ref (n + 264), .ref n, .ref (n + 266), .ref (n + 328), .ref (n + 320), .ref (n + 262), .ref (n + 263), .int (E 100 7), .int (E 100 8), .int (E 100 9), .int 0])) (Or.inr (by omega))
      replace hN := hN.put (a := s0) (c := .inr (0, [.ref (n + 264), .ref n, .ref (n + 266), .ref (n + 328), .ref (n + 320), .ref (n + 262), .ref (n + 263), .int (E 100 7), .int (E 100 8), .int (E 100 9), .int 0])) (by omega)
      replace hA := hA.put (a := s0) (c := .inr (0, [.ref (n + 264), .ref n, .ref (n + 266), .ref (n + 328), .ref (n + 320), .ref (n + 262), .ref (n + 263), .int (E 100 7), .int (E 100 8), .int (E 100 9), .int 0])) (by omega)
      replace hn : (ax_put h s0 (.inr (0, [.ref (n + 264), .ref n, .ref (n + 266), .ref (n + 328), .ref (n + 320), .ref (n + 262), .ref (n + 263), .int (E 100 7), .int (E 100 8), .int (E 100 9), .int 0]))).1 = h.1 := hn
      replace hs : (ax_put h s0 (.inr (0, [.ref (n + 264), .ref n, .ref (n + 266), .ref (n + 328), .ref (n + 320), .ref (n + 262), .ref (n + 263), .int (E 100 7), .int (E 100 8), .int (E 100 9), .int 0]))).2.1 = h.2.1 := hs
      generalize ax_put h s0 (.inr (0, [.ref (n + 264), .ref n, .ref (n + 266), .ref (n + 328), .ref (n + 320), .ref (n + 262), .ref (n + 263), .int (E 100 7), .int (E 100 8), .int (E 100 9), .int 0])) = hp_1 at hF hf hA hN hn hs ⊢
      refine ar_iload_n 20 d_131_19 rfl rfl ?_
      refine ar_istore_n 21 [(0, .ref s0), (1, .int (nI N)), (2, .int y), (3, .int y)] d_131_20 rfl (by decide) rfl ?_
      refine ar_iconst 22 (v := 0) d_131_21 rfl (by decide) ?_
      refine ar_istore 24 [(0, .ref s0), (1, .int (nI N)), (2, .int y), (3, .int y), (4, .int 0)] d_131_22 rfl (by decide) rfl ?_
      have hS1 : AS s0 n nn gg C f q u b h hp_1 (va_up E 100 (upd (E 100) 10 0)) TK Q ms := ⟨hF, hA, hN, hf, hn, hs, hp0⟩
      have hG9 : GS Z s0 n nn gg C f q u b h0 hp_1 (va_up E 100 (upd (E 100) 10 0)) TK Q ms D K A := GS.as hsn hz hG0 hS1 hM hE ⟨hK.1, hK.2.1, Or.inl rfl⟩
      refine ax_A.post (glp_131 hfr hlo hC0 hN5 N 0 hp_1 _ _ _ _ _ _ _ _ _ _ (by omega) hG9 GR.rf rfl ⟨0, rfl⟩) (fun r h' hq => Or.inr ⟨c1, c2, hq.1, hq.2⟩)
    · refine ar_iconst 13 (v := -1) d_131_12 rfl (by decide) ?_
      exact ar_iret d_131_13 rfl rfl (Or.inl ⟨Or.inr c2, rfl, _, _, _, _, _, _, _, _, _, hGk, GR.rf, rfl, rfl⟩)
set_option maxRecDepth 100000 in
theorem glp_132 {L : Nat} {xs : Nat → Int32} {fr lo : Nat} {s0 n nn gg N : Nat} {C : Int32} {f ec : Nat → Int32} {h0 : ax_H} {Z : ZT} {TK : Int64} {D : Nat → Nat → Nat → Int32} {S0 : SS} (hfr : 10 ≤ fr) (hlo : 350 ≤ lo) (hC : CG s0 n nn gg f) (hN5 : N ≤ 500) : ∀ (k i : Nat) (h : ax_H) (q : Nat) (u b : Nat → Int32) (E1 : Nat → Nat → Int32) (Q1 : Nat → Mg) (ms1 : List Mg) (D1 : Nat → Nat → Nat → Int32) (K1 A1 : Nat → Int64), i + k = N → GS Z s0 n nn gg C f q u b h0 h E1 TK Q1 ms1 D1 K1 A1 → GR nn D D1 → E1 100 = ec → (∃ k9, itR (tkR nn gg C f) k9 S0 (E1, Q1, ms1, D1, K1, A1)) → ax_A (ax_step L xs) ((132, 20, fr, lo), [(0, .ref s0), (1, .int (nI N)), (2, .int (nI i))], [], h) (fun r h' => r = some (.int (nI N)) ∧ GX Z s0 n nn gg C f h0 h' ec TK D (fun S9 => ∃ k9, itR (tkR nn gg C f) k9 S0 S9)) := by
    have hC0 := hC
    obtain ⟨hs0, hsn, hnn3, hnn, hgg1, hgg, hRg⟩ := hC
    intro k
    induction k with
    | zero =>
      intro i h q u b E1 Q1 ms1 D1 K1 A1 hi hG hR hec hit
      have e0 : N = i := by omega
      subst e0
      have hGk := hG
      have hGG := hG
      obtain ⟨hS, hG0, hM, hE, hK, hz⟩ := hG
      have hM0 := hM
      obtain ⟨hF, hA, hN, hf, hn, hs, hp0⟩ := hS
      replace hF : ax_hs h [cSt s0 n E1, cRk n nn gg C, cOr n nn gg f, cAs n E1, cEr n 5 512 E1, cEr n 6 100 E1, cEr n 7 2 E1, cAk n, cEr n 9 512 E1, cNa n nn, cEr n 0 48 E1, cEr n 1 961 E1, cTs n gg E1 TK, cEr n 59 48 E1, cEr n 60 48 E1, cEr n 61 48 E1, cEr n 62 2400 E1, cEr n 63 512 E1, cEr n 64 961 E1, cEr n 65 961 E1] := hF
      refine ar_iload_n 21 d_132_20 rfl rfl ?_
      refine ar_iload_n 22 d_132_21 rfl rfl ?_
      refine ar_icmp_ge 35 25 d_132_22 (by decide) rfl (fun _ => ?_) (fun c => absurd (Int32.le_refl _) c)
      refine ar_iload_n 36 d_132_35 rfl rfl ?_
      exact ar_iret d_132_36 rfl rfl (⟨rfl, _, _, _, _, _, _, _, _, _, hGk, hR, hec, hit⟩)
    | succ k ih =>
      intro i h q u b E1 Q1 ms1 D1 K1 A1 hi hG hR hec hit
      have hGk := hG
      have hGG := hG
      obtain ⟨hS, hG0, hM, hE, hK, hz⟩ := hG
      have hM0 := hM
      obtain ⟨hF, hA, hN, hf, hn, hs, hp0⟩ := hS
      replace hF : ax_hs h [cSt s0 n E1, cRk n nn gg C, cOr n nn gg f, cAs n E1, cEr n 5 512 E1, cEr n 6 100 E1, cEr n 7 2 E1, cAk n, cEr n 9 512 E1, cNa n nn, cEr n 0 48 E1, cEr n 1 961 E1, cTs n gg E1 TK, cEr n 59 48 E1, cEr n 60 48 E1, cEr n 61 48 E1, cEr n 62 2400 E1, cEr n 63 512 E1, cEr n 64 961 E1, cEr n 65 961 E1] := hF
      refine ar_iload_n 21 d_132_20 rfl rfl ?_
      refine ar_iload_n 22 d_132_21 rfl rfl ?_
      refine ar_icmp_ge 35 25 d_132_22 (by decide) rfl (fun c => absurd c (nI_ge (by omega) (by omega))) (fun _ => ?_)
      refine ar_aload_n 26 d_132_25 rfl rfl ?_
      refine ar_call (r := []) (na := 0) (kd := 0) (cm := 133) (fr2 := fr - 1) (lo2 := lo - 21) 29 d_132_26 (ar_hoV (as := []) rfl rfl rfl (hF.at 0 rfl)) rfl (by omega) (show lo - 21 + (19 + 2) = lo by omega) (Nat.le_of_ble_eq_true rfl) (Nat.le_of_ble_eq_true rfl) (g_133 (by omega) (by omega) hC0 hGk) ?_
      intro v hp_1 hq
      obtain ⟨rfl, E3, Q3, ms3, D3, K3, A3, hG3, hR3, he3, hr3⟩ := hq
      refine ar_iinc 32 [(0, .ref s0), (1, .int (nI N)), (2, .int (nI (i + 1)))] d_132_29 rfl rfl (nI_1 i) (by decide) rfl ?_
      refine ar_goto 20 d_132_32 (by decide) ?_
      exact ih (i + 1) hp_1 _ _ _ _ _ _ _ _ _ (by omega) hG3 (hR.tr hR3) (he3.trans hec) (itR.snoc hit hr3)
set_option maxRecDepth 100000 in
theorem g_132 {L : Nat} {xs : Nat → Int32} {fr lo : Nat} {s0 n nn gg : Nat} {C : Int32} {f : Nat → Int32} {q : Nat} {u b : Nat → Int32} {h0 h : ax_H} {Z : ZT} {D : Nat → Nat → Nat → Int32} {K A : Nat → Int64} {E : Nat → Nat → Int32} {TK : Int64} {Q : Nat → Mg} {ms : List Mg} {x : Int32} (hfr : 10 ≤ fr) (hlo : 350 ≤ lo) (hC : CG s0 n nn gg f) (hG : GS Z s0 n nn gg C f q u b h0 h E TK Q ms D K A) : ax_M L xs 132 fr lo [.ref s0, .int x] h (fun r h' => ((x < 1 ∨ ¬ x ≤ 50) ∧ r = some (.int (-1)) ∧ GX Z s0 n nn gg C f h0 h' (E 100) TK D (fun S9 => S9 = (E, Q, ms, D, K, A))) ∨ (¬ x < 1 ∧ x ≤ 50 ∧ r = some (.int x) ∧ GX Z s0 n nn gg C f h0 h' (upd (E 100) 10 0) TK D (fun S9 => ∃ k9, itR (tkR nn gg C f) k9 (ncm (E, Q, ms, D, K, A)) S9))) := by
  have hC0 := hC
  have hGk := hG
  show ax_A (ax_step L xs) ((132, 0, fr, lo), [(0, .ref s0), (1, .int x)], [], h) _
  obtain ⟨hs0, hsn, hnn3, hnn, hgg1, hgg, hRg⟩ := hC
  have hGG := hG
  obtain ⟨hS, hG0, hM, hE, hK, hz⟩ := hG
  have hM0 := hM
  obtain ⟨hF, hA, hN, hf, hn, hs, hp0⟩ := hS
  replace hF : ax_hs h [cSt s0 n E, cRk n nn gg C, cOr n nn gg f, cAs n E, cEr n 5 512 E, cEr n 6 100 E, cEr n 7 2 E, cAk n, cEr n 9 512 E, cNa n nn, cEr n 0 48 E, cEr n 1 961 E, cTs n gg E TK, cEr n 59 48 E, cEr n 60 48 E, cEr n 61 48 E, cEr n 62 2400 E, cEr n 63 512 E, cEr n 64 961 E, cEr n 65 961 E] := hF
  refine ar_iload_n 1 d_132_0 rfl rfl ?_
  refine ar_iconst 2 (v := 1) d_132_1 rfl (by decide) ?_
  refine ar_icmp_lt 11 5 d_132_2 (by decide) rfl (fun c1 => ?_) (fun c1 => ?_)
  · refine ar_iconst 12 (v := -1) d_132_11 rfl (by decide) ?_
    exact ar_iret d_132_12 rfl rfl (Or.inl ⟨Or.inl c1, rfl, _, _, _, _, _, _, _, _, _, hGk, GR.rf, rfl, rfl⟩)
  · refine ar_iload_n 6 d_132_5 rfl rfl ?_
    refine ar_bipush 8 (v := 50) d_132_6 rfl (by decide) ?_
    refine ar_icmp_le 13 11 d_132_8 (by decide) rfl (fun c2 => ?_) (fun c2 => ?_)
    · obtain ⟨N, hN0, rfl⟩ := nI_of (x := x) (fun z => c1 (Int32.lt_trans z (by decide)))
      have hN5 : N ≤ 500 := Nat.le_trans ((nI_leI (b := 50) hN0 (by omega)).mp c2) (by omega)
      refine ar_aload_n 14 d_132_13 rfl rfl ?_
      refine ar_iconst 15 (v := 0) d_132_14 rfl (by decide) ?_
      refine ar_putf 18 [.ref (n + 264), .ref n, .ref (n + 266), .ref (n + 328), .ref (n + 320), .ref (n + 262), .ref (n + 263), .int (E 100 7), .int (E 100 8), .int (E 100 9), .int 0] d_132_15 rfl (ci := 0) (k := 10) rfl rfl (hF.at 0 rfl) (Nat.le_of_ble_eq_true rfl) rfl rfl rfl ?_
      replace hF : ax_hs (ax_put h s0 (.inr (0, [.ref (n + 264), .ref n, .ref (n + 266), .ref (n + 328), .ref (n + 320), .ref (n + 262), .ref (n + 263), .int (E 100 7), .int (E 100 8), .int (E 100 9), .int 0]))) [(s0, .inr (0, [.ref (n + 264), .ref n, .ref (n + 266), .ref (n + 328), .ref (n + 320), .ref (n + 262), .ref (n + 263), .int (E 100 7), .int (E 100 8), .int (E 100 9), .int 0])), cRk n nn gg C, cOr n nn gg f, cAs n E, cEr n 5 512 E, cEr n 6 100 E, cEr n 7 2 E, cAk n, cEr n 9 512 E, cNa n nn, cEr n 0 48 E, cEr n 1 961 E, cTs n gg E TK, cEr n 59 48 E, cEr n 60 48 E, cEr n 61 48 E, cEr n 62 2400 E, cEr n 63 512 E, cEr n 64 961 E, cEr n 65 961 E] := hF.put 0 _ rfl rfl
      replace hf := hf.put (a := s0) (c := .inr (0, [.ref (n + 264), .ref n, .ref (n + 266), .ref (n + 328), .ref (n + 320), .ref (n + 262), .ref (n + 263), .int (E 100 7), .int (E 100 8), .int (E 100 9), .int 0])) (Or.inr (by omega))
      replace hN := hN.put (a := s0) (c := .inr (0, [.ref (n + 264), .ref n, .ref (n + 266), .ref (n + 328), .ref (n + 320), .ref (n + 262), .ref (n + 263), .int (E 100 7), .int (E 100 8), .int (E 100 9), .int 0])) (by omega)
      replace hA := hA.put (a := s0) (c := .inr (0, [.ref (n + 264), .ref n, .ref (n + 266), .ref (n + 328), .ref (n + 320), .ref (n + 262), .ref (n + 263), .int (E 100 7), .int (E 100 8), .int (E 100 9), .int 0])) (by omega)
      replace hn : (ax_put h s0 (.inr (0, [.ref (n + 264), .ref n, .ref (n + 266), .ref (n + 328), .ref (n + 320), .ref (n + 262), .ref (n + 263), .int (E 100 7), .int (E 100 8), .int (E 100 9), .int 0]))).1 = h.1 := hn
      replace hs : (ax_put h s0 (.inr (0, [.ref (n + 264), .ref n, .ref (n + 266), .ref (n + 328), .ref (n + 320), .ref (n + 262), .ref (n + 263), .int (E 100 7), .int (E 100 8), .int (E 100 9), .int 0]))).2.1 = h.2.1 := hs
      generalize ax_put h s0 (.inr (0, [.ref (n + 264), .ref n, .ref (n + 266), .ref (n + 328), .ref (n + 320), .ref (n + 262), .ref (n + 263), .int (E 100 7), .int (E 100 8), .int (E 100 9), .int 0])) = hp_1 at hF hf hA hN hn hs ⊢
      refine ar_iconst 19 (v := 0) d_132_18 rfl (by decide) ?_
      refine ar_istore_n 20 [(0, .ref s0), (1, .int (nI N)), (2, .int 0)] d_132_19 rfl (by decide) rfl ?_
      have hS1 : AS s0 n nn gg C f q u b h hp_1 (va_up E 100 (upd (E 100) 10 0)) TK Q ms := ⟨hF, hA, hN, hf, hn, hs, hp0⟩
      have hG9 : GS Z s0 n nn gg C f q u b h0 hp_1 (va_up E 100 (upd (E 100) 10 0)) TK Q ms D K A := GS.as hsn hz hG0 hS1 hM hE ⟨hK.1, hK.2.1, Or.inl rfl⟩
      refine ax_A.post (glp_132 hfr hlo hC0 hN5 N 0 hp_1 _ _ _ _ _ _ _ _ _ (by omega) hG9 GR.rf rfl ⟨0, rfl⟩) (fun r h' hq => Or.inr ⟨c1, c2, hq.1, hq.2⟩)
    · refine ar_iconst 12 (v := -1) d_132_11 rfl (by decide) ?_
      exact ar_iret d_132_12 rfl rfl (Or.inl ⟨Or.inr c2, rfl, _, _, _, _, _, _, _, _, _, hGk, GR.rf, rfl, rfl⟩)
theorem GS.calm {Z : ZT} {E : Nat → Nat → Int32} (hK : CI Z E) : CI Z (va_up E 100 (upd (E 100) 10 0)) := ⟨hK.1, hK.2.1, Or.inl rfl⟩
set_option maxRecDepth 100000 in
theorem g_141 {L : Nat} {xs : Nat → Int32} {fr lo : Nat} {s0 n nn gg : Nat} {C : Int32} {f : Nat → Int32} {q : Nat} {u b : Nat → Int32} {h0 h : ax_H} {Z : ZT} {D : Nat → Nat → Nat → Int32} {K A : Nat → Int64} {E : Nat → Nat → Int32} {TK : Int64} {Q : Nat → Mg} {ms : List Mg} {x y z : Int32} (hfr : 7 ≤ fr) (hlo : 220 ≤ lo) (hC : CG s0 n nn gg f) (hG : GS Z s0 n nn gg C f q u b h0 h E TK Q ms D K A) : ax_M L xs 141 fr lo [.ref s0, .int x, .int y, .int z] h (fun r h' => ((x < 0 ∨ nI nn ≤ x ∨ ∃ j : Nat, j < nn ∧ x = nI j ∧ D j 0 6 = 0) ∧ r = some (.int 0) ∧ GS Z s0 n nn gg C f q u b h0 h' E TK Q ms D K A) ∨ (∃ j : Nat, j < nn ∧ x = nI j ∧ ¬ D j 0 6 = 0 ∧ r = some (.int 1) ∧ ∃ (ms' : List Mg) (D' : Nat → Nat → Int32) (K' A' : Int64), GS Z s0 n nn gg C f q u b h0 h' (va_up E 100 (upd (E 100) 10 0)) TK Q ms' (va_up D j D') (va_up K j K') (va_up A j A') ∧ D' 0 6 = 0 ∧ nodR (F_142 nn gg C (nI j) f u b (D j) (K j) (A j) ms y z) j (ncm (E, Q, ms, D, K, A)) ((va_up E 100 (upd (E 100) 10 0)), Q, ms', va_up D j D', va_up K j K', va_up A j A'))) := by
  have hC0 := hC
  have hGk := hG
  show ax_A (ax_step L xs) ((141, 0, fr, lo), [(0, .ref s0), (1, .int x), (2, .int y), (3, .int z)], [], h) _
  obtain ⟨hs0, hsn, hnn3, hnn, hgg1, hgg, hRg⟩ := hC
  have hGG := hG
  obtain ⟨hS, hG0, hM, hE, hK, hz⟩ := hG
  have hM0 := hM
  obtain ⟨hF, hA, hN, hf, hn, hs, hp0⟩ := hS
  replace hF : ax_hs h [cSt s0 n E, cRk n nn gg C, cOr n nn gg f, cAs n E, cEr n 5 512 E, cEr n 6 100 E, cEr n 7 2 E, cAk n, cEr n 9 512 E, cNa n nn, cEr n 0 48 E, cEr n 1 961 E, cTs n gg E TK, cEr n 59 48 E, cEr n 60 48 E, cEr n 61 48 E, cEr n 62 2400 E, cEr n 63 512 E, cEr n 64 961 E, cEr n 65 961 E] := hF
  refine ar_iload_n 1 d_141_0 rfl rfl ?_
  refine ar_if_lt 25 4 d_141_1 (by decide) rfl (fun c1 => ?_) (fun c1 => ?_)
  · refine ar_iconst 26 (v := 0) d_141_25 rfl (by decide) ?_
    exact ar_iret d_141_26 rfl rfl (Or.inl ⟨Or.inl c1, rfl, hGk⟩)
  · refine ar_iload_n 5 d_141_4 rfl rfl ?_
    refine ar_aload_n 6 d_141_5 rfl rfl ?_
    refine ar_getf 9 d_141_6 rfl (ci := 0) (k := 3) rfl (hF.at 0 rfl) rfl ?_
    refine ar_alen 10 d_141_9 rfl (hF.at 9 rfl) (by decide) ?_
    refine ar_icmp_ge 25 13 d_141_10 (by decide) rfl (fun c2 => ?_) (fun c2 => ?_)
    · refine ar_iconst 26 (v := 0) d_141_25 rfl (by decide) ?_
      exact ar_iret d_141_26 rfl rfl (Or.inl ⟨Or.inr (Or.inl c2), rfl, hGk⟩)
    · obtain ⟨j, hj, rfl⟩ := natLt c1 (by omega) (show x < nI nn from Int32.not_le.mp c2)
      refine ar_aload_n 14 d_141_13 rfl rfl ?_
      refine ar_getf 17 d_141_14 rfl (ci := 0) (k := 3) rfl (hF.at 0 rfl) rfl ?_
      refine ar_iload_n 18 d_141_17 rfl rfl ?_
      refine ar_aald 19 d_141_18 rfl (hF.at 9 rfl) rfl (vin hj (by omega)) ?_
      refine ar_tv (v' := .ref (n + 329 + 22 * j)) (ndr hnn hj) ?_
      refine ar_getf 22 d_141_19 rfl (ci := 7) (k := 6) rfl (hf.g ((hG0 j hj).1.at 0 rfl) (by unfold ASA NTA; omega)) rfl ?_
      refine ar_if_ne 27 25 d_141_22 (by decide) rfl (fun c3 => ?_) (fun c3 => ?_)
      · refine ar_aload_n 28 d_141_27 rfl rfl ?_
        refine ar_iconst 29 (v := 0) d_141_28 rfl (by decide) ?_
        refine ar_putf 32 [.ref (n + 264), .ref n, .ref (n + 266), .ref (n + 328), .ref (n + 320), .ref (n + 262), .ref (n + 263), .int (E 100 7), .int (E 100 8), .int (E 100 9), .int 0] d_141_29 rfl (ci := 0) (k := 10) rfl rfl (hF.at 0 rfl) (Nat.le_of_ble_eq_true rfl) rfl rfl rfl ?_
        replace hF : ax_hs (ax_put h s0 (.inr (0, [.ref (n + 264), .ref n, .ref (n + 266), .ref (n + 328), .ref (n + 320), .ref (n + 262), .ref (n + 263), .int (E 100 7), .int (E 100 8), .int (E 100 9), .int 0]))) [(s0, .inr (0, [.ref (n + 264), .ref n, .ref (n + 266), .ref (n + 328), .ref (n + 320), .ref (n + 262), .ref (n + 263), .int (E 100 7), .int (E 100 8), .int (E 100 9), .int 0])), cRk n nn gg C, cOr n nn gg f, cAs n E, cEr n 5 512 E, cEr n 6 100 E, cEr n 7 2 E, cAk n, cEr n 9 512 E, cNa n nn, cEr n 0 48 E, cEr n 1 961 E, cTs n gg E TK, cEr n 59 48 E, cEr n 60 48 E, cEr n 61 48 E, cEr n 62 2400 E, cEr n 63 512 E, cEr n 64 961 E, cEr n 65 961 E] := hF.put 0 _ rfl rfl
        replace hf := hf.put (a := s0) (c := .inr (0, [.ref (n + 264), .ref n, .ref (n + 266), .ref (n + 328), .ref (n + 320), .ref (n + 262), .ref (n + 263), .int (E 100 7), .int (E 100 8), .int (E 100 9), .int 0])) (Or.inr (by omega))
        replace hN := hN.put (a := s0) (c := .inr (0, [.ref (n + 264), .ref n, .ref (n + 266), .ref (n + 328), .ref (n + 320), .ref (n + 262), .ref (n + 263), .int (E 100 7), .int (E 100 8), .int (E 100 9), .int 0])) (by omega)
        replace hA := hA.put (a := s0) (c := .inr (0, [.ref (n + 264), .ref n, .ref (n + 266), .ref (n + 328), .ref (n + 320), .ref (n + 262), .ref (n + 263), .int (E 100 7), .int (E 100 8), .int (E 100 9), .int 0])) (by omega)
        replace hn : (ax_put h s0 (.inr (0, [.ref (n + 264), .ref n, .ref (n + 266), .ref (n + 328), .ref (n + 320), .ref (n + 262), .ref (n + 263), .int (E 100 7), .int (E 100 8), .int (E 100 9), .int 0]))).1 = h.1 := hn
        replace hs : (ax_put h s0 (.inr (0, [.ref (n + 264), .ref n, .ref (n + 266), .ref (n + 328), .ref (n + 320), .ref (n + 262), .ref (n + 263), .int (E 100 7), .int (E 100 8), .int (E 100 9), .int 0]))).2.1 = h.2.1 := hs
        generalize ax_put h s0 (.inr (0, [.ref (n + 264), .ref n, .ref (n + 266), .ref (n + 328), .ref (n + 320), .ref (n + 262), .ref (n + 263), .int (E 100 7), .int (E 100 8), .int (E 100 9), .int 0])) = hp_1 at hF hf hA hN hn hs ⊢
        refine ar_aload_n 33 d_141_32 rfl rfl ?_
        refine ar_getf 36 d_141_33 rfl (ci := 0) (k := 3) rfl (hF.at 0 rfl) rfl ?_
        refine ar_iload_n 37 d_141_36 rfl rfl ?_
        refine ar_aald 38 d_141_37 rfl (hF.at 9 rfl) rfl (vin hj (by omega)) ?_
        refine ar_tv (v' := .ref (n + 329 + 22 * j)) (ndr hnn hj) ?_
        refine ar_iload_n 39 d_141_38 rfl rfl ?_
        refine ar_iload_n 40 d_141_39 rfl rfl ?_
        have hS1 : AS s0 n nn gg C f q u b h hp_1 (va_up E 100 (upd (E 100) 10 0)) TK Q ms := ⟨hF, hA, hN, hf, hn, hs, hp0⟩
        have hG1 : GS Z s0 n nn gg C f q u b h0 hp_1 (va_up E 100 (upd (E 100) 10 0)) TK Q ms D K A := GS.as hsn hz hG0 hS1 hM hE (GS.calm hK)
        refine ar_call (r := []) (na := 0) (kd := 0) (cm := 142) (fr2 := fr - 1) (lo2 := lo - 22) 43 d_141_40 (ar_hoV (as := [.int y, .int z]) rfl rfl rfl (hf.g ((hG0 j hj).1.at 0 rfl) (by unfold ASA NTA; omega))) rfl (by omega) (show lo - 22 + (19 + 3) = lo by omega) (Nat.le_of_ble_eq_true rfl) (Nat.le_of_ble_eq_true rfl) (s_142 (by omega) (by omega) hC0.cs (hG1.ns hj) (hG1.2.1 j hj).2.1) ?_
        intro v hp_2 hq
        obtain ⟨rfl, Dx2, Kx2, Ax2, Yx2, hSx, hIx, hEx, -⟩ := hq
        obtain ⟨ms2, hsm, hG2⟩ := GS.nd hsn hG1 hj hSx hIx (Or.inl rfl)
        have hGb := hG2
        clear hG1
        clear hF hA hN hf hn hs hp0 hG0 hM hE hK hz
        obtain ⟨hS, hG0, hM, hE, hK, hz⟩ := hGb
        obtain ⟨hF, hA, hN, hf, hn, hs, hp0⟩ := hS
        replace hF : ax_hs hp_2 [cSt s0 n (va_up E 100 (upd (E 100) 10 0)), cRk n nn gg C, cOr n nn gg f, cAs n (va_up E 100 (upd (E 100) 10 0)), cEr n 5 512 (va_up E 100 (upd (E 100) 10 0)), cEr n 6 100 (va_up E 100 (upd (E 100) 10 0)), cEr n 7 2 (va_up E 100 (upd (E 100) 10 0)), cAk n, cEr n 9 512 (va_up E 100 (upd (E 100) 10 0)), cNa n nn, cEr n 0 48 (va_up E 100 (upd (E 100) 10 0)), cEr n 1 961 (va_up E 100 (upd (E 100) 10 0)), cTs n gg (va_up E 100 (upd (E 100) 10 0)) TK, cEr n 59 48 (va_up E 100 (upd (E 100) 10 0)), cEr n 60 48 (va_up E 100 (upd (E 100) 10 0)), cEr n 61 48 (va_up E 100 (upd (E 100) 10 0)), cEr n 62 2400 (va_up E 100 (upd (E 100) 10 0)), cEr n 63 512 (va_up E 100 (upd (E 100) 10 0)), cEr n 64 961 (va_up E 100 (upd (E 100) 10 0)), cEr n 65 961 (va_up E 100 (upd (E 100) 10 0))] := hF
        refine ar_iconst 44 (v := 1) d_141_43 rfl (by decide) ?_
        have hS1 : AS s0 n nn gg C f q u b hp_2 hp_2 (va_up E 100 (upd (E 100) 10 0)) TK Q ms2 := ⟨hF, hA, hN, hf, hn, hs, hp0⟩
        have hG9 : GS Z s0 n nn gg C f q u b h0 hp_2 (va_up E 100 (upd (E 100) 10 0)) TK Q ms2 (va_up D j Dx2) (va_up K j Kx2) (va_up A j Ax2) := GS.as hsn hz hG0 hS1 hM hE hK
        exact ar_iret d_141_44 rfl rfl (Or.inr ⟨j, hj, rfl, c3, rfl, ms2, _, _, _, hG9, hSx.2.2.2.2.2.2, nodR_mk hEx hsm⟩)
      · refine ar_iconst 26 (v := 0) d_141_25 rfl (by decide) ?_
        exact ar_iret d_141_26 rfl rfl (Or.inl ⟨Or.inr (Or.inr ⟨j, hj, rfl, Decidable.not_not.mp c3⟩), rfl, hGk⟩)
set_option maxRecDepth 100000 in
theorem g_144 {L : Nat} {xs : Nat → Int32} {fr lo : Nat} {s0 n nn gg : Nat} {C : Int32} {f : Nat → Int32} {q : Nat} {u b : Nat → Int32} {h0 h : ax_H} {Z : ZT} {D : Nat → Nat → Nat → Int32} {K A : Nat → Int64} {E : Nat → Nat → Int32} {TK : Int64} {Q : Nat → Mg} {ms : List Mg} {x : Int32} (hfr : 7 ≤ fr) (hlo : 220 ≤ lo) (hC : CG s0 n nn gg f) (hG : GS Z s0 n nn gg C f q u b h0 h E TK Q ms D K A) : ax_M L xs 144 fr lo [.ref s0, .int x] h (fun r h' => ((x < 0 ∨ nI nn ≤ x ∨ ∃ j : Nat, j < nn ∧ x = nI j ∧ ¬ D j 0 6 = 0) ∧ r = some (.int 0) ∧ GS Z s0 n nn gg C f q u b h0 h' E TK Q ms D K A) ∨ (∃ j : Nat, j < nn ∧ x = nI j ∧ D j 0 6 = 0 ∧ r = some (.int 1) ∧ ∃ (ms' : List Mg) (D' : Nat → Nat → Int32) (K' A' : Int64), GS Z s0 n nn gg C f q u b h0 h' (va_up E 100 (upd (E 100) 10 0)) TK Q ms' (va_up D j D') (va_up K j K') (va_up A j A') ∧ D' 0 6 = 1 ∧ nodR (F_18 nn gg C (nI j) f u b (D j) (K j) (A j) ms (E 4 13) (E 4 14)) j (ncm (E, Q, ms, D, K, A)) ((va_up E 100 (upd (E 100) 10 0)), Q, ms', va_up D j D', va_up K j K', va_up A j A'))) := by
  have hC0 := hC
  have hGk := hG
  show ax_A (ax_step L xs) ((144, 0, fr, lo), [(0, .ref s0), (1, .int x)], [], h) _
  obtain ⟨hs0, hsn, hnn3, hnn, hgg1, hgg, hRg⟩ := hC
  have hGG := hG
  obtain ⟨hS, hG0, hM, hE, hK, hz⟩ := hG
  have hM0 := hM
  obtain ⟨hF, hA, hN, hf, hn, hs, hp0⟩ := hS
  replace hF : ax_hs h [cSt s0 n E, cRk n nn gg C, cOr n nn gg f, cAs n E, cEr n 5 512 E, cEr n 6 100 E, cEr n 7 2 E, cAk n, cEr n 9 512 E, cNa n nn, cEr n 0 48 E, cEr n 1 961 E, cTs n gg E TK, cEr n 59 48 E, cEr n 60 48 E, cEr n 61 48 E, cEr n 62 2400 E, cEr n 63 512 E, cEr n 64 961 E, cEr n 65 961 E] := hF
  refine ar_iload_n 1 d_144_0 rfl rfl ?_
  refine ar_if_lt 25 4 d_144_1 (by decide) rfl (fun c1 => ?_) (fun c1 => ?_)
  · refine ar_iconst 26 (v := 0) d_144_25 rfl (by decide) ?_
    exact ar_iret d_144_26 rfl rfl (Or.inl ⟨Or.inl c1, rfl, hGk⟩)
  · refine ar_iload_n 5 d_144_4 rfl rfl ?_
    refine ar_aload_n 6 d_144_5 rfl rfl ?_
    refine ar_getf 9 d_144_6 rfl (ci := 0) (k := 3) rfl (hF.at 0 rfl) rfl ?_
    refine ar_alen 10 d_144_9 rfl (hF.at 9 rfl) (by decide) ?_
    refine ar_icmp_ge 25 13 d_144_10 (by decide) rfl (fun c2 => ?_) (fun c2 => ?_)
    · refine ar_iconst 26 (v := 0) d_144_25 rfl (by decide) ?_
      exact ar_iret d_144_26 rfl rfl (Or.inl ⟨Or.inr (Or.inl c2), rfl, hGk⟩)
    · obtain ⟨j, hj, rfl⟩ := natLt c1 (by omega) (show x < nI nn from Int32.not_le.mp c2)
      refine ar_aload_n 14 d_144_13 rfl rfl ?_
      refine ar_getf 17 d_144_14 rfl (ci := 0) (k := 3) rfl (hF.at 0 rfl) rfl ?_
      refine ar_iload_n 18 d_144_17 rfl rfl ?_
      refine ar_aald 19 d_144_18 rfl (hF.at 9 rfl) rfl (vin hj (by omega)) ?_
      refine ar_tv (v' := .ref (n + 329 + 22 * j)) (ndr hnn hj) ?_
      refine ar_getf 22 d_144_19 rfl (ci := 7) (k := 6) rfl (hf.g ((hG0 j hj).1.at 0 rfl) (by unfold ASA NTA; omega)) rfl ?_
      refine ar_if_eq 27 25 d_144_22 (by decide) rfl (fun c3 => ?_) (fun c3 => ?_)
      · refine ar_aload_n 28 d_144_27 rfl rfl ?_
        refine ar_iconst 29 (v := 0) d_144_28 rfl (by decide) ?_
        refine ar_putf 32 [.ref (n + 264), .ref n, .ref (n + 266), .ref (n + 328), .ref (n + 320), .ref (n + 262), .ref (n + 263), .int (E 100 7), .int (E 100 8), .int (E 100 9), .int 0] d_144_29 rfl (ci := 0) (k := 10) rfl rfl (hF.at 0 rfl) (Nat.le_of_ble_eq_true rfl) rfl rfl rfl ?_
        replace hF : ax_hs (ax_put h s0 (.inr (0, [.ref (n + 264), .ref n, .ref (n + 266), .ref (n + 328), .ref (n + 320), .ref (n + 262), .ref (n + 263), .int (E 100 7), .int (E 100 8), .int (E 100 9), .int 0]))) [(s0, .inr (0, [.ref (n + 264), .ref n, .ref (n + 266), .ref (n + 328), .ref (n + 320), .ref (n + 262), .ref (n + 263), .int (E 100 7), .int (E 100 8), .int (E 100 9), .int 0])), cRk n nn gg C, cOr n nn gg f, cAs n E, cEr n 5 512 E, cEr n 6 100 E, cEr n 7 2 E, cAk n, cEr n 9 512 E, cNa n nn, cEr n 0 48 E, cEr n 1 961 E, cTs n gg E TK, cEr n 59 48 E, cEr n 60 48 E, cEr n 61 48 E, cEr n 62 2400 E, cEr n 63 512 E, cEr n 64 961 E, cEr n 65 961 E] := hF.put 0 _ rfl rfl
        replace hf := hf.put (a := s0) (c := .inr (0, [.ref (n + 264), .ref n, .ref (n + 266), .ref (n + 328), .ref (n + 320), .ref (n + 262), .ref (n + 263), .int (E 100 7), .int (E 100 8), .int (E 100 9), .int 0])) (Or.inr (by omega))
        replace hN := hN.put (a := s0) (c := .inr (0, [.ref (n + 264), .ref n, .ref (n + 266), .ref (n + 328), .ref (n + 320), .ref (n + 262), .ref (n + 263), .int (E 100 7), .int (E 100 8), .int (E 100 9), .int 0])) (by omega)
        replace hA := hA.put (a := s0) (c := .inr (0, [.ref (n + 264), .ref n, .ref (n + 266), .ref (n + 328), .ref (n + 320), .ref (n + 262), .ref (n + 263), .int (E 100 7), .int (E 100 8), .int (E 100 9), .int 0])) (by omega)
        replace hn : (ax_put h s0 (.inr (0, [.ref (n + 264), .ref n, .ref (n + 266), .ref (n + 328), .ref (n + 320), .ref (n + 262), .ref (n + 263), .int (E 100 7), .int (E 100 8), .int (E 100 9), .int 0]))).1 = h.1 := hn
        replace hs : (ax_put h s0 (.inr (0, [.ref (n + 264), .ref n, .ref (n + 266), .ref (n + 328), .ref (n + 320), .ref (n + 262), .ref (n + 263), .int (E 100 7), .int (E 100 8), .int (E 100 9), .int 0]))).2.1 = h.2.1 := hs
        generalize ax_put h s0 (.inr (0, [.ref (n + 264), .ref n, .ref (n + 266), .ref (n + 328), .ref (n + 320), .ref (n + 262), .ref (n + 263), .int (E 100 7), .int (E 100 8), .int (E 100 9), .int 0])) = hp_1 at hF hf hA hN hn hs ⊢
        refine ar_aload_n 33 d_144_32 rfl rfl ?_
        refine ar_getf 36 d_144_33 rfl (ci := 0) (k := 3) rfl (hF.at 0 rfl) rfl ?_
        refine ar_iload_n 37 d_144_36 rfl rfl ?_
        refine ar_aald 38 d_144_37 rfl (hF.at 9 rfl) rfl (vin hj (by omega)) ?_
        refine ar_tv (v' := .ref (n + 329 + 22 * j)) (ndr hnn hj) ?_
        refine ar_aload_n 39 d_144_38 rfl rfl ?_
        refine ar_getf 42 d_144_39 rfl (ci := 0) (k := 2) rfl (hF.at 0 rfl) rfl ?_
        refine ar_getf 45 d_144_42 rfl (ci := 4) (k := 13) rfl (hF.at 3 rfl) rfl ?_
        refine ar_aload_n 46 d_144_45 rfl rfl ?_
        refine ar_getf 49 d_144_46 rfl (ci := 0) (k := 2) rfl (hF.at 0 rfl) rfl ?_
        refine ar_getf 52 d_144_49 rfl (ci := 4) (k := 14) rfl (hF.at 3 rfl) rfl ?_
        have hS1 : AS s0 n nn gg C f q u b h hp_1 (va_up E 100 (upd (E 100) 10 0)) TK Q ms := ⟨hF, hA, hN, hf, hn, hs, hp0⟩
        have hG1 : GS Z s0 n nn gg C f q u b h0 hp_1 (va_up E 100 (upd (E 100) 10 0)) TK Q ms D K A := GS.as hsn hz hG0 hS1 hM hE (GS.calm hK)
        have hNS := hG1.ns hj
        rw [c3] at hNS
        refine ar_call (r := []) (na := 0) (kd := 0) (cm := 18) (fr2 := fr - 1) (lo2 := lo - 22) 55 d_144_52 (ar_hoV (as := [.int (E 4 13), .int (E 4 14)]) rfl rfl rfl (hf.g ((hG0 j hj).1.at 0 rfl) (by unfold ASA NTA; omega))) rfl (by omega) (show lo - 22 + (19 + 3) = lo by omega) (Nat.le_of_ble_eq_true rfl) (Nat.le_of_ble_eq_true rfl) (s_18 (by omega) (by omega) hC0.cs hNS (hG1.2.1 j hj).2.1) ?_
        intro v hp_2 hq
        obtain ⟨rfl, Dx2, Kx2, Ax2, Yx2, hSx, hIx, hEx, -⟩ := hq
        obtain ⟨ms2, hsm, hG2⟩ := GS.nd hsn hG1 hj hSx hIx (Or.inr rfl)
        have hGb := hG2
        clear hG1
        clear hF hA hN hf hn hs hp0 hG0 hM hE hK hz
        obtain ⟨hS, hG0, hM, hE, hK, hz⟩ := hGb
        obtain ⟨hF, hA, hN, hf, hn, hs, hp0⟩ := hS
        replace hF : ax_hs hp_2 [cSt s0 n (va_up E 100 (upd (E 100) 10 0)), cRk n nn gg C, cOr n nn gg f, cAs n (va_up E 100 (upd (E 100) 10 0)), cEr n 5 512 (va_up E 100 (upd (E 100) 10 0)), cEr n 6 100 (va_up E 100 (upd (E 100) 10 0)), cEr n 7 2 (va_up E 100 (upd (E 100) 10 0)), cAk n, cEr n 9 512 (va_up E 100 (upd (E 100) 10 0)), cNa n nn, cEr n 0 48 (va_up E 100 (upd (E 100) 10 0)), cEr n 1 961 (va_up E 100 (upd (E 100) 10 0)), cTs n gg (va_up E 100 (upd (E 100) 10 0)) TK, cEr n 59 48 (va_up E 100 (upd (E 100) 10 0)), cEr n 60 48 (va_up E 100 (upd (E 100) 10 0)), cEr n 61 48 (va_up E 100 (upd (E 100) 10 0)), cEr n 62 2400 (va_up E 100 (upd (E 100) 10 0)), cEr n 63 512 (va_up E 100 (upd (E 100) 10 0)), cEr n 64 961 (va_up E 100 (upd (E 100) 10 0)), cEr n 65 961 (va_up E 100 (upd (E 100) 10 0))] := hF
        refine ar_iconst 56 (v := 1) d_144_55 rfl (by decide) ?_
        have hS1 : AS s0 n nn gg C f q u b hp_2 hp_2 (va_up E 100 (upd (E 100) 10 0)) TK Q ms2 := ⟨hF, hA, hN, hf, hn, hs, hp0⟩
        have hG9 : GS Z s0 n nn gg C f q u b h0 hp_2 (va_up E 100 (upd (E 100) 10 0)) TK Q ms2 (va_up D j Dx2) (va_up K j Kx2) (va_up A j Ax2) := GS.as hsn hz hG0 hS1 hM hE hK
        exact ar_iret d_144_56 rfl rfl (Or.inr ⟨j, hj, rfl, c3, rfl, ms2, _, _, _, hG9, hSx.2.2.2.2.2.2, nodR_mk hEx hsm⟩)
      · refine ar_iconst 26 (v := 0) d_144_25 rfl (by decide) ?_
        exact ar_iret d_144_26 rfl rfl (Or.inl ⟨Or.inr (Or.inr ⟨j, hj, rfl, c3⟩), rfl, hGk⟩)
theorem EI.dr {Z : ZT} {E : Nat → Nat → Int32} {Q : Nat → Mg} {s2 : Int32} (h : EI Z E Q) : EI Z (drE E s2) Q := h.f4 rfl rfl rfl rfl h.lens.1 h.lens.2
set_option maxRecDepth 100000 in
theorem g_145 {L : Nat} {xs : Nat → Int32} {fr lo : Nat} {s0 n nn gg : Nat} {C : Int32} {f : Nat → Int32} {q : Nat} {u b : Nat → Int32} {h0 h : ax_H} {Z : ZT} {D : Nat → Nat → Nat → Int32} {K A : Nat → Int64} {E : Nat → Nat → Int32} {TK : Int64} {Q : Nat → Mg} {ms : List Mg} {x : Int32} (hfr : 4 ≤ fr) (hlo : 120 ≤ lo) (hC : CG s0 n nn gg f) (hG : GS Z s0 n nn gg C f q u b h0 h E TK Q ms D K A) : ax_M L xs 145 fr lo [.ref s0, .int x] h (fun r h' => r = some (.int (E 4 13 + 1)) ∧ ∃ ms' : List Mg, GS Z s0 n nn gg C f q u b h0 h' (drE (va_up E 100 (upd (E 100) 10 0)) (x &&& allN nn)) TK Q ms' D K A ∧ tmR nn 0 (E 4 13 + 1) (x &&& allN nn) nn 0 ms ms') := by
  have hC0 := hC
  show ax_A (ax_step L xs) ((145, 0, fr, lo), [(0, .ref s0), (1, .int x)], [], h) _
  obtain ⟨hs0, hsn, hnn3, hnn, hgg1, hgg, hRg⟩ := hC
  have hGG := hG
  obtain ⟨hS, hG0, hM, hE, hK, hz⟩ := hG
  have hM0 := hM
  obtain ⟨hF, hA, hN, hf, hn, hs, hp0⟩ := hS
  replace hF : ax_hs h [cSt s0 n E, cRk n nn gg C, cOr n nn gg f, cAs n E, cEr n 5 512 E, cEr n 6 100 E, cEr n 7 2 E, cAk n, cEr n 9 512 E, cNa n nn, cEr n 0 48 E, cEr n 1 961 E, cTs n gg E TK, cEr n 59 48 E, cEr n 60 48 E, cEr n 61 48 E, cEr n 62 2400 E, cEr n 63 512 E, cEr n 64 961 E, cEr n 65 961 E] := hF
  refine ar_aload_n 1 d_145_0 rfl rfl ?_
  refine ar_iconst 2 (v := 0) d_145_1 rfl (by decide) ?_
  refine ar_putf 5 [.ref (n + 264), .ref n, .ref (n + 266), .ref (n + 328), .ref (n + 320), .ref (n + 262), .ref (n + 263), .int (E 100 7), .int (E 100 8), .int (E 100 9), .int 0] d_145_2 rfl (ci := 0) (k := 10) rfl rfl (hF.at 0 rfl) (Nat.le_of_ble_eq_true rfl) rfl rfl rfl ?_
  replace hF : ax_hs (ax_put h s0 (.inr (0, [.ref (n + 264), .ref n, .ref (n + 266), .ref (n + 328), .ref (n + 320), .ref (n + 262), .ref (n + 263), .int (E 100 7), .int (E 100 8), .int (E 100 9), .int 0]))) [(s0, .inr (0, [.ref (n + 264), .ref n, .ref (n + 266), .ref (n + 328), .ref (n + 320), .ref (n + 262), .ref (n + 263), .int (E 100 7), .int (E 100 8), .int (E 100 9), .int 0])), cRk n nn gg C, cOr n nn gg f, cAs n E, cEr n 5 512 E, cEr n 6 100 E, cEr n 7 2 E, cAk n, cEr n 9 512 E, cNa n nn, cEr n 0 48 E, cEr n 1 961 E, cTs n gg E TK, cEr n 59 48 E, cEr n 60 48 E, cEr n 61 48 E, cEr n 62 2400 E, cEr n 63 512 E, cEr n 64 961 E, cEr n 65 961 E] := hF.put 0 _ rfl rfl
  replace hf := hf.put (a := s0) (c := .inr (0, [.ref (n + 264), .ref n, .ref (n + 266), .ref (n + 328), .ref (n + 320), .ref (n + 262), .ref (n + 263), .int (E 100 7), .int (E 100 8), .int (E 100 9), .int 0])) (Or.inr (by omega))
  replace hN := hN.put (a := s0) (c := .inr (0, [.ref (n + 264), .ref n, .ref (n + 266), .ref (n + 328), .ref (n + 320), .ref (n + 262), .ref (n + 263), .int (E 100 7), .int (E 100 8), .int (E 100 9), .int 0])) (by omega)
  replace hA := hA.put (a := s0) (c := .inr (0, [.ref (n + 264), .ref n, .ref (n + 266), .ref (n + 328), .ref (n + 320), .ref (n + 262), .ref (n + 263), .int (E 100 7), .int (E 100 8), .int (E 100 9), .int 0])) (by omega)
  replace hn : (ax_put h s0 (.inr (0, [.ref (n + 264), .ref n, .ref (n + 266), .ref (n + 328), .ref (n + 320), .ref (n + 262), .ref (n + 263), .int (E 100 7), .int (E 100 8), .int (E 100 9), .int 0]))).1 = h.1 := hn
  replace hs : (ax_put h s0 (.inr (0, [.ref (n + 264), .ref n, .ref (n + 266), .ref (n + 328), .ref (n + 320), .ref (n + 262), .ref (n + 263), .int (E 100 7), .int (E 100 8), .int (E 100 9), .int 0]))).2.1 = h.2.1 := hs
  generalize ax_put h s0 (.inr (0, [.ref (n + 264), .ref n, .ref (n + 266), .ref (n + 328), .ref (n + 320), .ref (n + 262), .ref (n + 263), .int (E 100 7), .int (E 100 8), .int (E 100 9), .int 0])) = hp_1 at hF hf hA hN hn hs ⊢
  refine ar_aload_n 6 d_145_5 rfl rfl ?_
  refine ar_getf 9 d_145_6 rfl (ci := 0) (k := 2) rfl (hF.at 0 rfl) rfl ?_
  refine ar_iload_n 10 d_145_9 rfl rfl ?_
  refine ar_aload_n 11 d_145_10 rfl rfl ?_
  refine ar_call (r := [.int x, .ref (n + 266)]) (na := 0) (kd := 0) (cm := 146) (fr2 := fr - 1) (lo2 := lo - 20) 14 d_145_11 (ar_hoV (as := []) rfl rfl rfl (hF.at 0 rfl)) rfl (by omega) (show lo - 20 + (19 + 1) = lo by omega) (Nat.le_of_ble_eq_true rfl) (Nat.le_of_ble_eq_true rfl) (c_146 (hF.sub (F' := [(s0, .inr (0, [.ref (n + 264), .ref n, .ref (n + 266), .ref (n + 328), .ref (n + 320), .ref (n + 262), .ref (n + 263), .int (E 100 7), .int (E 100 8), .int (E 100 9), .int 0])), cRk n nn gg C]) [0, 1] rfl rfl)) ?_
  intro v hh hq
  obtain ⟨rfl, ehh⟩ := hq
  rw [ehh]
  clear ehh
  refine ar_iand 15 d_145_14 rfl ?_
  have hS1 : AS s0 n nn gg C f q u b h hp_1 (va_up E 100 (upd (E 100) 10 0)) TK Q ms := ⟨hF, hA, hN, hf, hn, hs, hp0⟩
  refine ar_call (r := []) (na := 0) (kd := 0) (cm := 147) (fr2 := fr - 1) (lo2 := lo - 21) 18 d_145_15 (ar_hoV (as := [.int (x &&& (allN nn))]) rfl rfl rfl (hF.at 3 rfl)) rfl (by omega) (show lo - 21 + (19 + 2) = lo by omega) (Nat.le_of_ble_eq_true rfl) (Nat.le_of_ble_eq_true rfl) (ek_147 (by omega) (by omega) hC0 hS1) ?_
  intro v hp_2 hq
  obtain ⟨rfl, ms2, hS2, hr2⟩ := hq
  have hG2 := GS.as hsn hz hG0 hS2 (hr2.mi hM) (EI.dr hE) ⟨hK.1, hK.2.1, Or.inl rfl⟩
  replace hF : ax_hs hp_2 [(s0, .inr (0, [.ref (n + 264), .ref n, .ref (n + 266), .ref (n + 328), .ref (n + 320), .ref (n + 262), .ref (n + 263), .int ((drE (va_up E 100 (upd (E 100) 10 0)) (x &&& (allN nn))) 100 7), .int ((drE (va_up E 100 (upd (E 100) 10 0)) (x &&& (allN nn))) 100 8), .int ((drE (va_up E 100 (upd (E 100) 10 0)) (x &&& (allN nn))) 100 9), .int ((drE (va_up E 100 (upd (E 100) 10 0)) (x &&& (allN nn))) 100 10)])), cRk n nn gg C, cOr n nn gg f, (n + 266, .inr (4, [.ref (n + 264), .ref n, .ref (n + 267), .int ((drE (va_up E 100 (upd (E 100) 10 0)) (x &&& (allN nn))) 4 3), .ref (n + 268), .ref (n + 269), .ref (n + 270), .ref (n + 271), .int ((drE (va_up E 100 (upd (E 100) 10 0)) (x &&& (allN nn))) 4 8), .int ((drE (va_up E 100 (upd (E 100) 10 0)) (x &&& (allN nn))) 4 9), .int ((drE (va_up E 100 (upd (E 100) 10 0)) (x &&& (allN nn))) 4 10), .int ((drE (va_up E 100 (upd (E 100) 10 0)) (x &&& (allN nn))) 4 11), .int ((drE (va_up E 100 (upd (E 100) 10 0)) (x &&& (allN nn))) 4 12), .int ((drE (va_up E 100 (upd (E 100) 10 0)) (x &&& (allN nn))) 4 13), .int ((drE (va_up E 100 (upd (E 100) 10 0)) (x &&& (allN nn))) 4 14), .int ((drE (va_up E 100 (upd (E 100) 10 0)) (x &&& (allN nn))) 4 15)])), (n + 267, .inl (0, 512, .inl ((drE (va_up E 100 (upd (E 100) 10 0)) (x &&& (allN nn))) 5))), (n + 268, .inl (0, 100, .inl ((drE (va_up E 100 (upd (E 100) 10 0)) (x &&& (allN nn))) 6))), (n + 269, .inl (0, 2, .inl ((drE (va_up E 100 (upd (E 100) 10 0)) (x &&& (allN nn))) 7))), cAk n, (n + 271, .inl (0, 512, .inl ((drE (va_up E 100 (upd (E 100) 10 0)) (x &&& (allN nn))) 9))), cNa n nn, (n + 262, .inl (0, 48, .inl ((drE (va_up E 100 (upd (E 100) 10 0)) (x &&& (allN nn))) 0))), (n + 263, .inl (0, 961, .inl ((drE (va_up E 100 (upd (E 100) 10 0)) (x &&& (allN nn))) 1))), (n + 320, .inr (6, [.int (nI gg), .ref (n + 321), .ref (n + 322), .ref (n + 323), .ref (n + 324), .ref (n + 325), .ref (n + 326), .ref (n + 327), .long TK, .int ((drE (va_up E 100 (upd (E 100) 10 0)) (x &&& (allN nn))) 58 9), .int ((drE (va_up E 100 (upd (E 100) 10 0)) (x &&& (allN nn))) 58 10)])), (n + 321, .inl (0, 48, .inl ((drE (va_up E 100 (upd (E 100) 10 0)) (x &&& (allN nn))) 59))), (n + 322, .inl (0, 48, .inl ((drE (va_up E 100 (upd (E 100) 10 0)) (x &&& (allN nn))) 60))), (n + 323, .inl (0, 48, .inl ((drE (va_up E 100 (upd (E 100) 10 0)) (x &&& (allN nn))) 61))), (n + 324, .inl (0, 2400, .inl ((drE (va_up E 100 (upd (E 100) 10 0)) (x &&& (allN nn))) 62))), (n + 325, .inl (0, 512, .inl ((drE (va_up E 100 (upd (E 100) 10 0)) (x &&& (allN nn))) 63))), (n + 326, .inl (0, 961, .inl ((drE (va_up E 100 (upd (E 100) 10 0)) (x &&& (allN nn))) 64))), (n + 327, .inl (0, 961, .inl ((drE (va_up E 100 (upd (E 100) 10 0)) (x &&& (allN nn))) 65)))] := hG2.1.1
  refine ar_aload_n 19 d_145_18 rfl rfl ?_
  refine ar_getf 22 d_145_19 rfl (ci := 0) (k := 2) rfl (hF.at 0 rfl) rfl ?_
  refine ar_getf 25 d_145_22 rfl (ci := 4) (k := 13) rfl (hF.at 3 rfl) rfl ?_
  exact ar_iret d_145_25 rfl rfl (⟨rfl, ms2, hG2, hr2⟩)
theorem DI.wipe {Z : ZT} {up dc : Int32} {ff rf sw ow tf : Nat → Int32} (hu : up = 0) (h : DI Z up dc ff rf sw ow tf) : DI Z up dc (ax_fill ff 0 35840 0) rf sw ow tf := by
  obtain ⟨⟨c, c1, c2, c3, c4⟩, h2, h3, h4⟩ := h
  obtain ⟨d1, d2⟩ := h4 hu
  have c0 : c = 0 := nI_inj (by omega) (by decide) (c2.symm.trans d1)
  subst c0
  have hz : ∀ x, x < 35840 → ax_fill ff 0 35840 0 x = 0 := fun x hx => if_pos ⟨by omega, hx⟩
  refine ⟨⟨0, c1, c2, fun j hj => absurd hj (by omega), c4⟩, fun s hs w => ?_, fun s hs _ w => absurd (d2 s hs) w, h4⟩
  exact absurd (by rw [hz _ (by omega)]; decide) w.1
theorem GS.wipe {Z : ZT} {s0 n nn gg j : Nat} {C : Int32} {f : Nat → Int32} {q : Nat} {u b : Nat → Int32} {h0 h : ax_H} {E : Nat → Nat → Int32} {TK : Int64} {Q : Nat → Mg} {ms : List Mg} {D : Nat → Nat → Nat → Int32} {K A : Nat → Int64} (hC : CG s0 n nn gg f) (hG : GS Z s0 n nn gg C f q u b h0 h E TK Q ms D K A) (hj : j < nn) (hu : D j 0 6 = 0) : GS Z s0 n nn gg C f q u b h0 (ax_put h (n + 329 + 22 * j + 2) (.inl (0, 35840, .inl (ax_fill (D j 2) 0 35840 0)))) E TK Q ms (va_up D j (va_up (D j) 2 (ax_fill (D j 2) 0 35840 0))) K A := by
  obtain ⟨hs0, hsn, hnn3, hnn, hgg1, hgg, hRg⟩ := hC
  obtain ⟨⟨k1, k2, k3, k4, k5, k6, k7⟩, g2, g3, g4, g5, g6⟩ := hG
  have hf : ax_fr (fun x => x = n + 329 + 22 * j + 2) h (ax_put h (n + 329 + 22 * j + 2) (.inl (0, 35840, .inl (ax_fill (D j 2) 0 35840 0)))) := ax_fr.rf.put rfl
  have hN := g2.upd (j := j) (D' := va_up (D j) 2 (ax_fill (D j 2) 0 35840 0)) (K' := K j) (A' := A j) (hf.mono (fun x hx => Or.inr (by omega))) ((g2 j hj).1.put 2 _ rfl rfl) ⟨(g2 j hj).2.1.1.wipe hu, (g2 j hj).2.1.2⟩ (Or.inl hu)
  rw [va_up_sf, va_up_sf] at hN
  refine ⟨⟨k1.fr hf (fun p hp z => ?_), k2.fr hf (fun x hx z => by omega), k3.fr hf (fun x hx z => by unfold NTA at hx; omega), ax_fr.rf, rfl, rfl, k7⟩, hN, g3, g4, g5, g6.tr ⟨rfl, rfl, hf.mono (fun x hx => by omega)⟩⟩
  have := farL (F := EW s0 n nn gg C f E TK) (s0 := s0) rfl hsn p hp
  omega
set_option maxRecDepth 100000 in
theorem g_148 {L : Nat} {xs : Nat → Int32} {fr lo : Nat} {s0 n nn gg : Nat} {C : Int32} {f : Nat → Int32} {q : Nat} {u b : Nat → Int32} {h0 h : ax_H} {Z : ZT} {D : Nat → Nat → Nat → Int32} {K A : Nat → Int64} {E : Nat → Nat → Int32} {TK : Int64} {Q : Nat → Mg} {ms : List Mg} {x : Int32} (hfr : 4 ≤ fr) (hlo : 120 ≤ lo) (hC : CG s0 n nn gg f) (hG : GS Z s0 n nn gg C f q u b h0 h E TK Q ms D K A) : ax_M L xs 148 fr lo [.ref s0, .int x] h (fun r h' => ((x < 0 ∨ nI nn ≤ x ∨ (∃ j : Nat, j < nn ∧ x = nI j ∧ ¬ D j 0 6 = 0) ∨ C - 1 ≤ E 100 9) ∧ r = some (.int 0) ∧ GS Z s0 n nn gg C f q u b h0 h' E TK Q ms D K A) ∨ (∃ j : Nat, j < nn ∧ x = nI j ∧ D j 0 6 = 0 ∧ E 100 9 < C - 1 ∧ r = some (.int 1) ∧ ∃ (ms' : List Mg), GS Z s0 n nn gg C f q u b h0 h' (drE (va_up E 100 (upd (upd (E 100) 9 (E 100 9 + 1)) 10 0)) (E 4 14)) TK Q ms' (va_up D j (va_up (D j) 2 (ax_fill (D j 2) 0 35840 0))) K A ∧ tmR nn 0 (E 4 13 + 1) (E 4 14) nn 0 ms ms')) := by
  have hC0 := hC
  have hGk := hG
  show ax_A (ax_step L xs) ((148, 0, fr, lo), [(0, .ref s0), (1, .int x)], [], h) _
  obtain ⟨hs0, hsn, hnn3, hnn, hgg1, hgg, hRg⟩ := hC
  have hGG := hG
  obtain ⟨hS, hG0, hM, hE, hK, hz⟩ := hG
  have hM0 := hM
  obtain ⟨hF, hA, hN, hf, hn, hs, hp0⟩ := hS
  replace hF : ax_hs h [cSt s0 n E, cRk n nn gg C, cOr n nn gg f, cAs n E, cEr n 5 512 E, cEr n 6 100 E, cEr n 7 2 E, cAk n, cEr n 9 512 E, cNa n nn, cEr n 0 48 E, cEr n 1 961 E, cTs n gg E TK, cEr n 59 48 E, cEr n 60 48 E, cEr n 61 48 E, cEr n 62 2400 E, cEr n 63 512 E, cEr n 64 961 E, cEr n 65 961 E] := hF
  refine ar_iload_n 1 d_148_0 rfl rfl ?_
  refine ar_if_lt 41 4 d_148_1 (by decide) rfl (fun c1 => ?_) (fun c1 => ?_)
  · refine ar_iconst 42 (v := 0) d_148_41 rfl (by decide) ?_
    exact ar_iret d_148_42 rfl rfl (Or.inl ⟨Or.inl c1, rfl, hGk⟩)
  · refine ar_iload_n 5 d_148_4 rfl rfl ?_
    refine ar_aload_n 6 d_148_5 rfl rfl ?_
    refine ar_getf 9 d_148_6 rfl (ci := 0) (k := 3) rfl (hF.at 0 rfl) rfl ?_
    refine ar_alen 10 d_148_9 rfl (hF.at 9 rfl) (by decide) ?_
    refine ar_icmp_ge 41 13 d_148_10 (by decide) rfl (fun c2 => ?_) (fun c2 => ?_)
    · refine ar_iconst 42 (v := 0) d_148_41 rfl (by decide) ?_
      exact ar_iret d_148_42 rfl rfl (Or.inl ⟨Or.inr (Or.inl c2), rfl, hGk⟩)
    · obtain ⟨j, hj, rfl⟩ := natLt c1 (by omega) (show x < nI nn from Int32.not_le.mp c2)
      refine ar_aload_n 14 d_148_13 rfl rfl ?_
      refine ar_getf 17 d_148_14 rfl (ci := 0) (k := 3) rfl (hF.at 0 rfl) rfl ?_
      refine ar_iload_n 18 d_148_17 rfl rfl ?_
      refine ar_aald 19 d_148_18 rfl (hF.at 9 rfl) rfl (vin hj (by omega)) ?_
      refine ar_tv (v' := .ref (n + 329 + 22 * j)) (ndr hnn hj) ?_
      refine ar_getf 22 d_148_19 rfl (ci := 7) (k := 6) rfl (hf.g ((hG0 j hj).1.at 0 rfl) (by unfold ASA NTA; omega)) rfl ?_
      refine ar_if_ne 41 25 d_148_22 (by decide) rfl (fun c3 => ?_) (fun c3 => ?_)
      · refine ar_iconst 42 (v := 0) d_148_41 rfl (by decide) ?_
        exact ar_iret d_148_42 rfl rfl (Or.inl ⟨Or.inr (Or.inr (Or.inl ⟨j, hj, rfl, c3⟩)), rfl, hGk⟩)
      · refine ar_aload_n 26 d_148_25 rfl rfl ?_
        refine ar_getf 29 d_148_26 rfl (ci := 0) (k := 9) rfl (hF.at 0 rfl) rfl ?_
        refine ar_aload_n 30 d_148_29 rfl rfl ?_
        refine ar_getf 33 d_148_30 rfl (ci := 0) (k := 0) rfl (hF.at 0 rfl) rfl ?_
        refine ar_getf 36 d_148_33 rfl (ci := 3) (k := 1) rfl (hF.at 1 rfl) rfl ?_
        refine ar_iconst 37 (v := 1) d_148_36 rfl (by decide) ?_
        refine ar_isub 38 d_148_37 rfl ?_
        refine ar_icmp_lt 43 41 d_148_38 (by decide) rfl (fun c4 => ?_) (fun c4 => ?_)
        · refine ar_aload_n 44 d_148_43 rfl rfl ?_
          refine ar_iconst 45 (v := 0) d_148_44 rfl (by decide) ?_
          refine ar_putf 48 [.ref (n + 264), .ref n, .ref (n + 266), .ref (n + 328), .ref (n + 320), .ref (n + 262), .ref (n + 263), .int (E 100 7), .int (E 100 8), .int (E 100 9), .int 0] d_148_45 rfl (ci := 0) (k := 10) rfl rfl (hF.at 0 rfl) (Nat.le_of_ble_eq_true rfl) rfl rfl rfl ?_
          replace hF : ax_hs (ax_put h s0 (.inr (0, [.ref (n + 264), .ref n, .ref (n + 266), .ref (n + 328), .ref (n + 320), .ref (n + 262), .ref (n + 263), .int (E 100 7), .int (E 100 8), .int (E 100 9), .int 0]))) [(s0, .inr (0, [.ref (n + 264), .ref n, .ref (n + 266), .ref (n + 328), .ref (n + 320), .ref (n + 262), .ref (n + 263), .int (E 100 7), .int (E 100 8), .int (E 100 9), .int 0])), cRk n nn gg C, cOr n nn gg f, cAs n E, cEr n 5 512 E, cEr n 6 100 E, cEr n 7 2 E, cAk n, cEr n 9 512 E, cNa n nn, cEr n 0 48 E, cEr n 1 961 E, cTs n gg E TK, cEr n 59 48 E, cEr n 60 48 E, cEr n 61 48 E, cEr n 62 2400 E, cEr n 63 512 E, cEr n 64 961 E, cEr n 65 961 E] := hF.put 0 _ rfl rfl
          replace hf := hf.put (a := s0) (c := .inr (0, [.ref (n + 264), .ref n, .ref (n + 266), .ref (n + 328), .ref (n + 320), .ref (n + 262), .ref (n + 263), .int (E 100 7), .int (E 100 8), .int (E 100 9), .int 0])) (Or.inr (by omega))
          replace hN := hN.put (a := s0) (c := .inr (0, [.ref (n + 264), .ref n, .ref (n + 266), .ref (n + 328), .ref (n + 320), .ref (n + 262), .ref (n + 263), .int (E 100 7), .int (E 100 8), .int (E 100 9), .int 0])) (by omega)
          replace hA := hA.put (a := s0) (c := .inr (0, [.ref (n + 264), .ref n, .ref (n + 266), .ref (n + 328), .ref (n + 320), .ref (n + 262), .ref (n + 263), .int (E 100 7), .int (E 100 8), .int (E 100 9), .int 0])) (by omega)
          replace hn : (ax_put h s0 (.inr (0, [.ref (n + 264), .ref n, .ref (n + 266), .ref (n + 328), .ref (n + 320), .ref (n + 262), .ref (n + 263), .int (E 100 7), .int (E 100 8), .int (E 100 9), .int 0]))).1 = h.1 := hn
          replace hs : (ax_put h s0 (.inr (0, [.ref (n + 264), .ref n, .ref (n + 266), .ref (n + 328), .ref (n + 320), .ref (n + 262), .ref (n + 263), .int (E 100 7), .int (E 100 8), .int (E 100 9), .int 0]))).2.1 = h.2.1 := hs
          generalize ax_put h s0 (.inr (0, [.ref (n + 264), .ref n, .ref (n + 266), .ref (n + 328), .ref (n + 320), .ref (n + 262), .ref (n + 263), .int (E 100 7), .int (E 100 8), .int (E 100 9), .int 0])) = hp_1 at hF hf hA hN hn hs ⊢
          refine ar_aload_n 49 d_148_48 rfl rfl ?_
          refine ar_dup 50 d_148_49 rfl rfl ?_
          refine ar_getf 53 d_148_50 rfl (ci := 0) (k := 9) rfl (hF.at 0 rfl) rfl ?_
          refine ar_iconst 54 (v := 1) d_148_53 rfl (by decide) ?_
          refine ar_iadd 55 d_148_54 rfl ?_
          refine ar_putf 58 [.ref (n + 264), .ref n, .ref (n + 266), .ref (n + 328), .ref (n + 320), .ref (n + 262), .ref (n + 263), .int (E 100 7), .int (E 100 8), .int ((E 100 9) + 1), .int 0] d_148_55 rfl (ci := 0) (k := 9) rfl rfl (hF.at 0 rfl) (Nat.le_of_ble_eq_true rfl) rfl rfl rfl ?_
          replace hF : ax_hs (ax_put hp_1 s0 (.inr (0, [.ref (n + 264), .ref n, .ref (n + 266), .ref (n + 328), .ref (n + 320), .ref (n + 262), .ref (n + 263), .int (E 100 7), .int (E 100 8), .int ((E 100 9) + 1), .int 0]))) [(s0, .inr (0, [.ref (n + 264), .ref n, .ref (n + 266), .ref (n + 328), .ref (n + 320), .ref (n + 262), .ref (n + 263), .int (E 100 7), .int (E 100 8), .int ((E 100 9) + 1), .int 0])), cRk n nn gg C, cOr n nn gg f, cAs n E, cEr n 5 512 E, cEr n 6 100 E, cEr n 7 2 E, cAk n, cEr n 9 512 E, cNa n nn, cEr n 0 48 E, cEr n 1 961 E, cTs n gg E TK, cEr n 59 48 E, cEr n 60 48 E, cEr n 61 48 E, cEr n 62 2400 E, cEr n 63 512 E, cEr n 64 961 E, cEr n 65 961 E] := hF.put 0 _ rfl rfl
          replace hf := hf.put (a := s0) (c := .inr (0, [.ref (n + 264), .ref n, .ref (n + 266), .ref (n + 328), .ref (n + 320), .ref (n + 262), .ref (n + 263), .int (E 100 7), .int (E 100 8), .int ((E 100 9) + 1), .int 0])) (Or.inr (by omega))
          replace hN := hN.put (a := s0) (c := .inr (0, [.ref (n + 264), .ref n, .ref (n + 266), .ref (n + 328), .ref (n + 320), .ref (n + 262), .ref (n + 263), .int (E 100 7), .int (E 100 8), .int ((E 100 9) + 1), .int 0])) (by omega)
          replace hA := hA.put (a := s0) (c := .inr (0, [.ref (n + 264), .ref n, .ref (n + 266), .ref (n + 328), .ref (n + 320), .ref (n + 262), .ref (n + 263), .int (E 100 7), .int (E 100 8), .int ((E 100 9) + 1), .int 0])) (by omega)
          replace hn : (ax_put hp_1 s0 (.inr (0, [.ref (n + 264), .ref n, .ref (n + 266), .ref (n + 328), .ref (n + 320), .ref (n + 262), .ref (n + 263), .int (E 100 7), .int (E 100 8), .int ((E 100 9) + 1), .int 0]))).1 = h.1 := hn
          replace hs : (ax_put hp_1 s0 (.inr (0, [.ref (n + 264), .ref n, .ref (n + 266), .ref (n + 328), .ref (n + 320), .ref (n + 262), .ref (n + 263), .int (E 100 7), .int (E 100 8), .int ((E 100 9) + 1), .int 0]))).2.1 = h.2.1 := hs
          generalize ax_put hp_1 s0 (.inr (0, [.ref (n + 264), .ref n, .ref (n + 266), .ref (n + 328), .ref (n + 320), .ref (n + 262), .ref (n + 263), .int (E 100 7), .int (E 100 8), .int ((E 100 9) + 1), .int 0])) = hp_2 at hF hf hA hN hn hs ⊢
          refine ar_aload_n 59 d_148_58 rfl rfl ?_
          refine ar_getf 62 d_148_59 rfl (ci := 0) (k := 3) rfl (hF.at 0 rfl) rfl ?_
          refine ar_iload_n 63 d_148_62 rfl rfl ?_
          refine ar_aald 64 d_148_63 rfl (hF.at 9 rfl) rfl (vin hj (by omega)) ?_
          refine ar_tv (v' := .ref (n + 329 + 22 * j)) (ndr hnn hj) ?_
          refine ar_getf 67 d_148_64 rfl (ci := 7) (k := 3) rfl (hf.g ((hG0 j hj).1.at 0 rfl) (by unfold ASA NTA; omega)) rfl ?_
          have hS1 : AS s0 n nn gg C f q u b h hp_2 (va_up E 100 (upd (upd (E 100) 9 ((E 100 9) + 1)) 10 0)) TK Q ms := ⟨hF, hA, hN, hf, hn, hs, hp0⟩
          have hG1 : GS Z s0 n nn gg C f q u b h0 hp_2 (va_up E 100 (upd (upd (E 100) 9 ((E 100 9) + 1)) 10 0)) TK Q ms D K A := GS.as hsn hz hG0 hS1 hM hE ⟨hK.1, hK.2.1, Or.inl rfl⟩
          have hW2 := GS.wipe hC0 hG1 hj (Decidable.not_not.mp c3)
          refine ar_call (r := []) (na := 0) (kd := 0) (cm := 149) (fr2 := fr - 1) (lo2 := lo - 20) 70 d_148_67 (ar_hoV (as := []) rfl rfl rfl (hf.g ((hG0 j hj).1.at 1 rfl) (by unfold ASA NTA; omega))) rfl (by omega) (show lo - 20 + (19 + 1) = lo by omega) (Nat.le_of_ble_eq_true rfl) (Nat.le_of_ble_eq_true rfl) (c_149 (by omega) (by omega) ((hG1.2.1 j hj).1.sub (F' := [cDk (n + 329 + 22 * j) (D j), cAr (n + 329 + 22 * j) 2 35840 (D j)]) [1, 2] rfl rfl)) ?_
          intro v hp_3 hq
          obtain ⟨rfl, rfl⟩ := hq
          have hGb := hW2
          skip
          clear hF hA hN hf hn hs hp0 hG0 hM hE hK hz
          obtain ⟨hS, hG0, hM, hE, hK, hz⟩ := hGb
          obtain ⟨hF, hA, hN, hf, hn, hs, hp0⟩ := hS
          replace hF : ax_hs (ax_put hp_2 (n + 329 + 22 * j + 2) (.inl (0, 35840, .inl (ax_fill (D j 2) 0 35840 0)))) [cSt s0 n (va_up E 100 (upd (upd (E 100) 9 ((E 100 9) + 1)) 10 0)), cRk n nn gg C, cOr n nn gg f, cAs n (va_up E 100 (upd (upd (E 100) 9 ((E 100 9) + 1)) 10 0)), cEr n 5 512 (va_up E 100 (upd (upd (E 100) 9 ((E 100 9) + 1)) 10 0)), cEr n 6 100 (va_up E 100 (upd (upd (E 100) 9 ((E 100 9) + 1)) 10 0)), cEr n 7 2 (va_up E 100 (upd (upd (E 100) 9 ((E 100 9) + 1)) 10 0)), cAk n, cEr n 9 512 (va_up E 100 (upd (upd (E 100) 9 ((E 100 9) + 1)) 10 0)), cNa n nn, cEr n 0 48 (va_up E 100 (upd (upd (E 100) 9 ((E 100 9) + 1)) 10 0)), cEr n 1 961 (va_up E 100 (upd (upd (E 100) 9 ((E 100 9) + 1)) 10 0)), cTs n gg (va_up E 100 (upd (upd (E 100) 9 ((E 100 9) + 1)) 10 0)) TK, cEr n 59 48 (va_up E 100 (upd (upd (E 100) 9 ((E 100 9) + 1)) 10 0)), cEr n 60 48 (va_up E 100 (upd (upd (E 100) 9 ((E 100 9) + 1)) 10 0)), cEr n 61 48 (va_up E 100 (upd (upd (E 100) 9 ((E 100 9) + 1)) 10 0)), cEr n 62 2400 (va_up E 100 (upd (upd (E 100) 9 ((E 100 9) + 1)) 10 0)), cEr n 63 512 (va_up E 100 (upd (upd (E 100) 9 ((E 100 9) + 1)) 10 0)), cEr n 64 961 (va_up E 100 (upd (upd (E 100) 9 ((E 100 9) + 1)) 10 0)), cEr n 65 961 (va_up E 100 (upd (upd (E 100) 9 ((E 100 9) + 1)) 10 0))] := hF
          refine ar_aload_n 71 d_148_70 rfl rfl ?_
          refine ar_getf 74 d_148_71 rfl (ci := 0) (k := 2) rfl (hF.at 0 rfl) rfl ?_
          refine ar_aload_n 75 d_148_74 rfl rfl ?_
          refine ar_getf 78 d_148_75 rfl (ci := 0) (k := 2) rfl (hF.at 0 rfl) rfl ?_
          refine ar_getf 81 d_148_78 rfl (ci := 4) (k := 14) rfl (hF.at 3 rfl) rfl ?_
          have hS2 : AS s0 n nn gg C f q u b (ax_put hp_2 (n + 329 + 22 * j + 2) (.inl (0, 35840, .inl (ax_fill (D j 2) 0 35840 0)))) (ax_put hp_2 (n + 329 + 22 * j + 2) (.inl (0, 35840, .inl (ax_fill (D j 2) 0 35840 0)))) (va_up E 100 (upd (upd (E 100) 9 ((E 100 9) + 1)) 10 0)) TK Q ms := ⟨hF, hA, hN, hf, hn, hs, hp0⟩
          refine ar_call (r := []) (na := 0) (kd := 0) (cm := 147) (fr2 := fr - 1) (lo2 := lo - 21) 84 d_148_81 (ar_hoV (as := [.int ((va_up E 100 (upd (upd (E 100) 9 ((E 100 9) + 1)) 10 0)) 4 14)]) rfl rfl rfl (hF.at 3 rfl)) rfl (by omega) (show lo - 21 + (19 + 2) = lo by omega) (Nat.le_of_ble_eq_true rfl) (Nat.le_of_ble_eq_true rfl) (ek_147 (by omega) (by omega) hC0 hS2) ?_
          intro v hp_4 hq
          obtain ⟨rfl, ms2, hS3, hr2⟩ := hq
          have hG3 := GS.as hsn hz hG0 hS3 (hr2.mi hM) (EI.dr hE) hK
          refine ar_iconst 85 (v := 1) d_148_84 rfl (by decide) ?_
          exact ar_iret d_148_85 rfl rfl (Or.inr ⟨j, hj, rfl, Decidable.not_not.mp c3, c4, rfl, ms2, hG3, hr2⟩)
        · refine ar_iconst 42 (v := 0) d_148_41 rfl (by decide) ?_
          exact ar_iret d_148_42 rfl rfl (Or.inl ⟨Or.inr (Or.inr (Or.inr (Int32.not_lt.mp c4))), rfl, hGk⟩)

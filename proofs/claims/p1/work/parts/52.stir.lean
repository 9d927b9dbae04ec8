/-! the quiet store: deliver, lose, twice, stir -/
theorem q_49 {L : Nat} {xs : Nat → Int32} {fr lo s0 n nn gg cc p q : Nat} {h : ax_H} {f u b : Nat → Int32} {x : Int32} (hfr : 7 ≤ fr) (hlo : 260 ≤ lo) (hQ : QT h s0 n nn gg cc p f q u b) : ax_M L xs 49 fr lo [.ref s0, .int x] h (fun r h' => r = none ∧ SZ (n + 329 + 22 * nn) h h') := by
  show ax_A (ax_step L xs) ((49, 0, fr, lo), [(0, .ref s0), (1, .int x)], [], h) _
  obtain ⟨hb, hp, ⟨c, hW⟩, -, hD⟩ := id hQ
  refine ar_aload_n 1 d_49_0 rfl rfl ?_
  refine ar_iconst 2 (v := 0) d_49_1 rfl (by decide) ?_
  refine ar_putf 5 [.ref (n + 264), .ref n, .ref (n + 266), .ref (n + 328), .ref (n + 320), .ref (n + 262), .ref (n + 263), .int 0, .int 0, .int 0, .int 0] d_49_2 rfl (ci := 0) (k := 10) rfl rfl (hW.at 0 rfl) (Nat.le_of_ble_eq_true rfl) rfl rfl rfl ?_
  obtain ⟨hQ1, hZ1⟩ := hQ.calm (c := 0)
  generalize ax_put h s0 (.inr (0, [.ref (n + 264), .ref n, .ref (n + 266), .ref (n + 328), .ref (n + 320), .ref (n + 262), .ref (n + 263), .int 0, .int 0, .int 0, .int 0])) = h1 at hQ1 hZ1 ⊢
  obtain ⟨hb, hp, ⟨c1, hW⟩, ⟨ids, ms, hN, hP⟩, hD⟩ := id hQ1
  obtain ⟨za, zc, hnet⟩ := hN.net
  refine ar_aload_n 6 d_49_5 rfl rfl ?_
  refine ar_getf 9 d_49_6 rfl (ci := 0) (k := 1) rfl (hW.at 0 rfl) rfl ?_
  refine ar_getf 12 d_49_9 rfl (ci := 1) (k := 1) rfl hnet rfl ?_
  refine ar_if_le 37 15 d_49_12 (by decide) rfl (fun c9 => ?_) (fun c9 => ?_)
  · exact ar_ret d_49_37 rfl (⟨rfl, hZ1⟩)
  · have hlen : 0 < ids.length := Nat.pos_of_ne_zero (fun z => c9 (by rw [z]; exact Int32.le_refl _))
    have hl8 := hN.len.2.1
    refine ar_aload_n 16 d_49_15 rfl rfl ?_
    refine ar_aload_n 17 d_49_16 rfl rfl ?_
    refine ar_getf 20 d_49_17 rfl (ci := 0) (k := 1) rfl (hW.at 0 rfl) rfl ?_
    refine ar_iload_n 21 d_49_20 rfl rfl ?_
    refine ar_aload_n 22 d_49_21 rfl rfl ?_
    refine ar_getf 25 d_49_22 rfl (ci := 0) (k := 1) rfl (hW.at 0 rfl) rfl ?_
    refine ar_getf 28 d_49_25 rfl (ci := 1) (k := 1) rfl hnet rfl ?_
    refine ar_call (r := [.ref n, .ref s0]) (na := 0) (kd := 0) (cm := 50) (fr2 := fr - 1) (lo2 := lo - 22) 31 d_49_28 (ar_hoS (as := [.int x, .int (nI ids.length)]) rfl rfl rfl) rfl (by omega) (show lo - 22 + (19 + 3) = lo by omega) (Nat.le_of_ble_eq_true rfl) (Nat.le_of_ble_eq_true rfl) (c_50 hlen hl8) ?_
    intro v hh hq
    obtain ⟨k, hk, rfl, ehh⟩ := hq
    rw [ehh]
    clear ehh
    refine ar_call (r := [.ref s0]) (na := 0) (kd := 0) (cm := 51) (fr2 := fr - 1) (lo2 := lo - 22) 34 d_49_31 (ar_hoV (as := [.int (nI k)]) rfl rfl rfl hnet) rfl (by omega) (show lo - 22 + (19 + 3) = lo by omega) (Nat.le_of_ble_eq_true rfl) (Nat.le_of_ble_eq_true rfl) (c_51G hN hk) ?_
    intro v h2 hq
    obtain ⟨q2, x2, ids2, ms2, rfl, hx2, hpm, hN2, hf2, hz1, hz2⟩ := hq
    have hP2 : ∀ y ∈ ms2, PQ p nn y.1 := fun y hy => hP y (hpm.subset (List.mem_cons_of_mem _ hy))
    have hQ2 := hQ1.net hf2 hN2 hP2
    obtain ⟨-, -, ⟨c2, hW2⟩, -, -⟩ := id hQ2
    refine ar_call (r := []) (na := 0) (kd := 0) (cm := 52) (fr2 := fr - 1) (lo2 := lo - 21) 37 d_49_34 (ar_hoV (as := [.ref (n + 1 + 1 + 2 * q2)]) rfl rfl rfl (hW2.at 0 rfl)) rfl (by omega) (show lo - 21 + (19 + 2) = lo by omega) (Nat.le_of_ble_eq_true rfl) (Nat.le_of_ble_eq_true rfl) (q_52 (by omega) (by omega) hQ2 (hP x2 (List.mem_of_getElem? hx2))) ?_
    intro v h3 hq
    obtain ⟨rfl, -, hZ2⟩ := hq
    exact ar_ret d_49_37 rfl (⟨rfl, hZ1.tr ((SZ.net hf2 hz1 hz2).tr hZ2)⟩)
theorem q_129 {L : Nat} {xs : Nat → Int32} {fr lo s0 n nn gg cc p q : Nat} {h : ax_H} {f u b : Nat → Int32} {x : Int32} (hfr : 7 ≤ fr) (hlo : 260 ≤ lo) (hQ : QT h s0 n nn gg cc p f q u b) : ax_M L xs 129 fr lo [.ref s0, .int x] h (fun r h' => r = none ∧ SZ (n + 329 + 22 * nn) h h') := by
  show ax_A (ax_step L xs) ((129, 0, fr, lo), [(0, .ref s0), (1, .int x)], [], h) _
  obtain ⟨hb, hp, ⟨c, hW⟩, -, hD⟩ := id hQ
  refine ar_aload_n 1 d_129_0 rfl rfl ?_
  refine ar_iconst 2 (v := 0) d_129_1 rfl (by decide) ?_
  refine ar_putf 5 [.ref (n + 264), .ref n, .ref (n + 266), .ref (n + 328), .ref (n + 320), .ref (n + 262), .ref (n + 263), .int 0, .int 0, .int 0, .int 0] d_129_2 rfl (ci := 0) (k := 10) rfl rfl (hW.at 0 rfl) (Nat.le_of_ble_eq_true rfl) rfl rfl rfl ?_
  obtain ⟨hQ1, hZ1⟩ := hQ.calm (c := 0)
  generalize ax_put h s0 (.inr (0, [.ref (n + 264), .ref n, .ref (n + 266), .ref (n + 328), .ref (n + 320), .ref (n + 262), .ref (n + 263), .int 0, .int 0, .int 0, .int 0])) = h1 at hQ1 hZ1 ⊢
  obtain ⟨hb, hp, ⟨c1, hW⟩, ⟨ids, ms, hN, hP⟩, hD⟩ := id hQ1
  obtain ⟨za, zc, hnet⟩ := hN.net
  refine ar_aload_n 6 d_129_5 rfl rfl ?_
  refine ar_getf 9 d_129_6 rfl (ci := 0) (k := 1) rfl (hW.at 0 rfl) rfl ?_
  refine ar_getf 12 d_129_9 rfl (ci := 1) (k := 1) rfl hnet rfl ?_
  refine ar_if_le 34 15 d_129_12 (by decide) rfl (fun c9 => ?_) (fun c9 => ?_)
  · exact ar_ret d_129_34 rfl (⟨rfl, hZ1⟩)
  · have hlen : 0 < ids.length := Nat.pos_of_ne_zero (fun z => c9 (by rw [z]; exact Int32.le_refl _))
    have hl8 := hN.len.2.1
    refine ar_aload_n 16 d_129_15 rfl rfl ?_
    refine ar_getf 19 d_129_16 rfl (ci := 0) (k := 1) rfl (hW.at 0 rfl) rfl ?_
    refine ar_iload_n 20 d_129_19 rfl rfl ?_
    refine ar_aload_n 21 d_129_20 rfl rfl ?_
    refine ar_getf 24 d_129_21 rfl (ci := 0) (k := 1) rfl (hW.at 0 rfl) rfl ?_
    refine ar_getf 27 d_129_24 rfl (ci := 1) (k := 1) rfl hnet rfl ?_
    refine ar_call (r := [.ref n]) (na := 0) (kd := 0) (cm := 50) (fr2 := fr - 1) (lo2 := lo - 22) 30 d_129_27 (ar_hoS (as := [.int x, .int (nI ids.length)]) rfl rfl rfl) rfl (by omega) (show lo - 22 + (19 + 3) = lo by omega) (Nat.le_of_ble_eq_true rfl) (Nat.le_of_ble_eq_true rfl) (c_50 hlen hl8) ?_
    intro v hh hq
    obtain ⟨k, hk, rfl, ehh⟩ := hq
    rw [ehh]
    clear ehh
    refine ar_call (r := []) (na := 0) (kd := 0) (cm := 51) (fr2 := fr - 1) (lo2 := lo - 22) 33 d_129_30 (ar_hoV (as := [.int (nI k)]) rfl rfl rfl hnet) rfl (by omega) (show lo - 22 + (19 + 3) = lo by omega) (Nat.le_of_ble_eq_true rfl) (Nat.le_of_ble_eq_true rfl) (c_51G hN hk) ?_
    intro v h2 hq
    obtain ⟨q2, x2, ids2, ms2, rfl, hx2, hpm, hN2, hf2, hz1, hz2⟩ := hq
    refine ar_pop 34 d_129_33 rfl rfl ?_
    exact ar_ret d_129_34 rfl (⟨rfl, hZ1.tr (SZ.net hf2 hz1 hz2)⟩)
theorem q_130 {L : Nat} {xs : Nat → Int32} {fr lo s0 n nn gg cc p q : Nat} {h : ax_H} {f u b : Nat → Int32} {x : Int32} (hfr : 7 ≤ fr) (hlo : 260 ≤ lo) (hQ : QT h s0 n nn gg cc p f q u b) : ax_M L xs 130 fr lo [.ref s0, .int x] h (fun r h' => r = none ∧ SZ (n + 329 + 22 * nn) h h') := by
  show ax_A (ax_step L xs) ((130, 0, fr, lo), [(0, .ref s0), (1, .int x)], [], h) _
  obtain ⟨hb, hp, ⟨c, hW⟩, -, hD⟩ := id hQ
  refine ar_aload_n 1 d_130_0 rfl rfl ?_
  refine ar_iconst 2 (v := 0) d_130_1 rfl (by decide) ?_
  refine ar_putf 5 [.ref (n + 264), .ref n, .ref (n + 266), .ref (n + 328), .ref (n + 320), .ref (n + 262), .ref (n + 263), .int 0, .int 0, .int 0, .int 0] d_130_2 rfl (ci := 0) (k := 10) rfl rfl (hW.at 0 rfl) (Nat.le_of_ble_eq_true rfl) rfl rfl rfl ?_
  obtain ⟨hQ1, hZ1⟩ := hQ.calm (c := 0)
  generalize ax_put h s0 (.inr (0, [.ref (n + 264), .ref n, .ref (n + 266), .ref (n + 328), .ref (n + 320), .ref (n + 262), .ref (n + 263), .int 0, .int 0, .int 0, .int 0])) = h1 at hQ1 hZ1 ⊢
  obtain ⟨hb, hp, ⟨c1, hW⟩, ⟨ids, ms, hN, hP⟩, hD⟩ := id hQ1
  obtain ⟨za, zc, hnet⟩ := hN.net
  refine ar_aload_n 6 d_130_5 rfl rfl ?_
  refine ar_getf 9 d_130_6 rfl (ci := 0) (k := 1) rfl (hW.at 0 rfl) rfl ?_
  refine ar_getf 12 d_130_9 rfl (ci := 1) (k := 1) rfl hnet rfl ?_
  refine ar_if_le 38 15 d_130_12 (by decide) rfl (fun c9 => ?_) (fun c9 => ?_)
  · exact ar_ret d_130_38 rfl (⟨rfl, hZ1⟩)
  · have hlen : 0 < ids.length := Nat.pos_of_ne_zero (fun z => c9 (by rw [z]; exact Int32.le_refl _))
    have hl8 := hN.len.2.1
    refine ar_aload_n 16 d_130_15 rfl rfl ?_
    refine ar_aload_n 17 d_130_16 rfl rfl ?_
    refine ar_getf 20 d_130_17 rfl (ci := 0) (k := 1) rfl (hW.at 0 rfl) rfl ?_
    refine ar_getf 23 d_130_20 rfl (ci := 1) (k := 0) rfl hnet rfl ?_
    refine ar_iload_n 24 d_130_23 rfl rfl ?_
    refine ar_aload_n 25 d_130_24 rfl rfl ?_
    refine ar_getf 28 d_130_25 rfl (ci := 0) (k := 1) rfl (hW.at 0 rfl) rfl ?_
    refine ar_getf 31 d_130_28 rfl (ci := 1) (k := 1) rfl hnet rfl ?_
    refine ar_call (r := [.ref (n + 1), .ref s0]) (na := 0) (kd := 0) (cm := 50) (fr2 := fr - 1) (lo2 := lo - 22) 34 d_130_31 (ar_hoS (as := [.int x, .int (nI ids.length)]) rfl rfl rfl) rfl (by omega) (show lo - 22 + (19 + 3) = lo by omega) (Nat.le_of_ble_eq_true rfl) (Nat.le_of_ble_eq_true rfl) (c_50 hlen hl8) ?_
    intro v hh hq
    obtain ⟨k, hk, rfl, ehh⟩ := hq
    rw [ehh]
    clear ehh
    obtain ⟨wf, hw, hway⟩ := hN.way
    obtain ⟨q2, x2, hf2, hx2, hN2⟩ := hway k hk
    refine ar_aald 35 d_130_34 rfl hw rfl (nI_in (by omega) (by omega)) ?_
    refine ar_tv (v' := .ref (n + 1 + 1 + 2 * q2)) (by rw [nI_clamp (by omega), hf2]; rfl) ?_
    have hQ2 := hQ1.net ax_fr.rf hN2 hP
    refine ar_call (r := []) (na := 0) (kd := 0) (cm := 52) (fr2 := fr - 1) (lo2 := lo - 21) 38 d_130_35 (ar_hoV (as := [.ref (n + 1 + 1 + 2 * q2)]) rfl rfl rfl (hW.at 0 rfl)) rfl (by omega) (show lo - 21 + (19 + 2) = lo by omega) (Nat.le_of_ble_eq_true rfl) (Nat.le_of_ble_eq_true rfl) (q_52 (by omega) (by omega) hQ2 (hP x2 (List.mem_of_getElem? hx2))) ?_
    intro v h3 hq
    obtain ⟨rfl, -, hZ2⟩ := hq
    exact ar_ret d_130_38 rfl (⟨rfl, hZ1.tr hZ2⟩)
theorem qlp_131 {L : Nat} {xs : Nat → Int32} {fr lo s0 n nn gg cc p N : Nat} {f : Nat → Int32} {sd : Int32} {post : ax_Po} (hfr : 7 ≤ fr) (hlo : 260 ≤ lo) (hN5 : N ≤ 500) : ∀ (k i : Nat) (h : ax_H) (q : Nat) (u b : Nat → Int32) (y : Int32), i + k = N → QT h s0 n nn gg cc p f q u b → (∀ h', SZ (n + 329 + 22 * nn) h h' → post (some (.int (nI N))) h') → ax_A (ax_step L xs) ((131, 24, fr, lo), [(0, .ref s0), (1, .int (nI N)), (2, .int sd), (3, .int y), (4, .int (nI i))], [], h) post := by
  intro k
  induction k with
  | zero =>
    intro i h q u b y hi hQ1 kk
    have e : i = N := by omega
    subst e
    refine ar_iload 26 d_131_24 rfl rfl ?_
    refine ar_iload_n 27 d_131_26 rfl rfl ?_
    refine ar_icmp_ge 120 30 d_131_27 (by decide) rfl (fun _ => ?_) (fun c => absurd (Int32.le_refl _) c)
    refine ar_iload_n 121 d_131_120 rfl rfl ?_
    exact ar_iret d_131_121 rfl rfl (kk h SZ.rf)
  | succ k ih =>
    intro i h q u b y hi hQ1 kk
    obtain ⟨hb, hp, ⟨c1, hW⟩, ⟨ids, ms, hN, hP⟩, hD⟩ := id hQ1
    obtain ⟨za, zc, hnet⟩ := hN.net
    refine ar_iload 26 d_131_24 rfl rfl ?_
    refine ar_iload_n 27 d_131_26 rfl rfl ?_
    refine ar_icmp_ge 120 30 d_131_27 (by decide) rfl (fun c => absurd c (nI_ge (by omega) (by omega))) (fun _ => ?_)
    refine ar_aload_n 31 d_131_30 rfl rfl ?_
    refine ar_getf 34 d_131_31 rfl (ci := 0) (k := 1) rfl (hW.at 0 rfl) rfl ?_
    refine ar_getf 37 d_131_34 rfl (ci := 1) (k := 1) rfl hnet rfl ?_
    refine ar_if_le 120 40 d_131_37 (by decide) rfl (fun c9 => ?_) (fun c9 => ?_)
    · refine ar_iload_n 121 d_131_120 rfl rfl ?_
      exact ar_iret d_131_121 rfl rfl (kk h SZ.rf)
    · have hlen : 0 < ids.length := Nat.pos_of_ne_zero (fun z => c9 (by rw [z]; exact Int32.le_refl _))
      have hl8 := hN.len.2.1
      refine ar_iload_n 41 d_131_40 rfl rfl ?_
      refine ar_ldc 43 d_131_41 rfl (v := 1103515245) rfl ?_
      refine ar_imul 44 d_131_43 rfl ?_
      refine ar_sipush 47 (v := 12345) d_131_44 rfl (by decide) ?_
      refine ar_iadd 48 d_131_47 rfl ?_
      generalize (y * 1103515245) + 12345 = y2
      obtain ⟨k2, hk2, ek⟩ := rem_nn9 (x := (y2.toUInt32 >>> ((8 : Int32).toUInt32 &&& Int32.toUInt32 31)).toInt32) (c := ids.length) hlen (by omega) (ushr_nn y2)
      refine ar_istore_n 49 [(0, .ref s0), (1, .int (nI N)), (2, .int sd), (3, .int y2), (4, .int (nI i))] d_131_48 rfl (by decide) rfl ?_
      refine ar_iload_n 50 d_131_49 rfl rfl ?_
      refine ar_bipush 52 (v := 8) d_131_50 rfl (by decide) ?_
      refine ar_iushr 53 d_131_52 rfl ?_
      refine ar_aload_n 54 d_131_53 rfl rfl ?_
      refine ar_getf 57 d_131_54 rfl (ci := 0) (k := 1) rfl (hW.at 0 rfl) rfl ?_
      refine ar_getf 60 d_131_57 rfl (ci := 1) (k := 1) rfl hnet rfl ?_
      refine ar_irem 61 d_131_60 rfl (nI_nz9 hlen (by omega)) ?_
      refine ar_top (x' := nI k2) (ek) ?_
      refine ar_istore 63 [(0, .ref s0), (1, .int (nI N)), (2, .int sd), (3, .int y2), (4, .int (nI i)), (5, .int (nI k2))] d_131_61 rfl (by decide) rfl ?_
      refine ar_iload_n 64 d_131_63 rfl rfl ?_
      refine ar_bipush 66 (v := 28) d_131_64 rfl (by decide) ?_
      refine ar_iushr 67 d_131_66 rfl ?_
      refine ar_istore 69 [(0, .ref s0), (1, .int (nI N)), (2, .int sd), (3, .int y2), (4, .int (nI i)), (5, .int (nI k2)), (6, .int ((y2.toUInt32 >>> ((28 : Int32).toUInt32 &&& Int32.toUInt32 31)).toInt32))] d_131_67 rfl (by decide) rfl ?_
      refine ar_iload 71 d_131_69 rfl rfl ?_
      refine ar_if_ne 91 74 d_131_71 (by decide) rfl (fun c8 => ?_) (fun c8 => ?_)
      · refine ar_aload_n 92 d_131_91 rfl rfl ?_
        refine ar_getf 95 d_131_92 rfl (ci := 0) (k := 1) rfl (hW.at 0 rfl) rfl ?_
        refine ar_iload 97 d_131_95 rfl rfl ?_
        refine ar_call (r := []) (na := 0) (kd := 0) (cm := 51) (fr2 := fr - 1) (lo2 := lo - 22) 100 d_131_97 (ar_hoV (as := [.int (nI k2)]) rfl rfl rfl hnet) rfl (by omega) (show lo - 22 + (19 + 3) = lo by omega) (Nat.le_of_ble_eq_true rfl) (Nat.le_of_ble_eq_true rfl) (c_51G hN hk2) ?_
        intro v h2 hq
        obtain ⟨q2, x2, ids2, ms2, rfl, hx2, hpm, hN2, hf2, hz1, hz2⟩ := hq
        have hP2 : ∀ y ∈ ms2, PQ p nn y.1 := fun y hy => hP y (hpm.subset (List.mem_cons_of_mem _ hy))
        have hQ2 := hQ1.net hf2 hN2 hP2
        obtain ⟨-, -, ⟨c2, hW2⟩, -, -⟩ := id hQ2
        refine ar_astore 102 [(0, .ref s0), (1, .int (nI N)), (2, .int sd), (3, .int y2), (4, .int (nI i)), (5, .int (nI k2)), (6, .int ((y2.toUInt32 >>> ((28 : Int32).toUInt32 &&& Int32.toUInt32 31)).toInt32)), (7, .ref (n + 1 + 1 + 2 * q2))] d_131_100 rfl (by decide) rfl ?_
        refine ar_iload 104 d_131_102 rfl rfl ?_
        refine ar_iconst 105 (v := 2) d_131_104 rfl (by decide) ?_
        refine ar_icmp_le 114 108 d_131_105 (by decide) rfl (fun c7 => ?_) (fun c7 => ?_)
        · refine ar_iinc 117 [(0, .ref s0), (1, .int (nI N)), (2, .int sd), (3, .int y2), (4, .int (nI (i + 1))), (5, .int (nI k2)), (6, .int ((y2.toUInt32 >>> ((28 : Int32).toUInt32 &&& Int32.toUInt32 31)).toInt32)), (7, .ref (n + 1 + 1 + 2 * q2))] d_131_114 rfl rfl (nI_1 i) (by decide) rfl ?_
          refine ar_goto 24 d_131_117 (by decide) ?_
          refine ar_wk [0, 1, 2, 3, 4] rfl (by simp) ?_
          exact ih (i + 1) h2 _ _ _ _ (by omega) hQ2 (fun h' j => kk h' ((SZ.net hf2 hz1 hz2).tr j))
        · refine ar_aload_n 109 d_131_108 rfl rfl ?_
          refine ar_aload 111 d_131_109 rfl rfl ?_
          refine ar_call (r := []) (na := 0) (kd := 0) (cm := 52) (fr2 := fr - 1) (lo2 := lo - 21) 114 d_131_111 (ar_hoV (as := [.ref (n + 1 + 1 + 2 * q2)]) rfl rfl rfl (hW2.at 0 rfl)) rfl (by omega) (show lo - 21 + (19 + 2) = lo by omega) (Nat.le_of_ble_eq_true rfl) (Nat.le_of_ble_eq_true rfl) (q_52 (by omega) (by omega) hQ2 (hP x2 (List.mem_of_getElem? hx2))) ?_
          intro v h3 hq
          obtain ⟨rfl, hQ3, hZ2⟩ := hq
          refine ar_iinc 117 [(0, .ref s0), (1, .int (nI N)), (2, .int sd), (3, .int y2), (4, .int (nI (i + 1))), (5, .int (nI k2)), (6, .int ((y2.toUInt32 >>> ((28 : Int32).toUInt32 &&& Int32.toUInt32 31)).toInt32)), (7, .ref (n + 1 + 1 + 2 * q2))] d_131_114 rfl rfl (nI_1 i) (by decide) rfl ?_
          refine ar_goto 24 d_131_117 (by decide) ?_
          refine ar_wk [0, 1, 2, 3, 4] rfl (by simp) ?_
          exact ih (i + 1) h3 _ _ _ _ (by omega) hQ3 (fun h' j => kk h' ((SZ.net hf2 hz1 hz2).tr (hZ2.tr j)))
      · obtain ⟨wf, hw, hway⟩ := hN.way
        obtain ⟨q2, x2, hf2, hx2, hN2⟩ := hway k2 hk2
        refine ar_aload_n 75 d_131_74 rfl rfl ?_
        refine ar_aload_n 76 d_131_75 rfl rfl ?_
        refine ar_getf 79 d_131_76 rfl (ci := 0) (k := 1) rfl (hW.at 0 rfl) rfl ?_
        refine ar_getf 82 d_131_79 rfl (ci := 1) (k := 0) rfl hnet rfl ?_
        refine ar_iload 84 d_131_82 rfl rfl ?_
        refine ar_aald 85 d_131_84 rfl hw rfl (nI_in (by omega) (by omega)) ?_
        refine ar_tv (v' := .ref (n + 1 + 1 + 2 * q2)) (by rw [nI_clamp (by omega), hf2]; rfl) ?_
        have hQ2 := hQ1.net ax_fr.rf hN2 hP
        refine ar_call (r := []) (na := 0) (kd := 0) (cm := 52) (fr2 := fr - 1) (lo2 := lo - 21) 88 d_131_85 (ar_hoV (as := [.ref (n + 1 + 1 + 2 * q2)]) rfl rfl rfl (hW.at 0 rfl)) rfl (by omega) (show lo - 21 + (19 + 2) = lo by omega) (Nat.le_of_ble_eq_true rfl) (Nat.le_of_ble_eq_true rfl) (q_52 (by omega) (by omega) hQ2 (hP x2 (List.mem_of_getElem? hx2))) ?_
        intro v h3 hq
        obtain ⟨rfl, hQ3, hZ2⟩ := hq
        refine ar_goto 114 d_131_88 (by decide) ?_
        refine ar_iinc 117 [(0, .ref s0), (1, .int (nI N)), (2, .int sd), (3, .int y2), (4, .int (nI (i + 1))), (5, .int (nI k2)), (6, .int ((y2.toUInt32 >>> ((28 : Int32).toUInt32 &&& Int32.toUInt32 31)).toInt32))] d_131_114 rfl rfl (nI_1 i) (by decide) rfl ?_
        refine ar_goto 24 d_131_117 (by decide) ?_
        refine ar_wk [0, 1, 2, 3, 4] rfl (by simp) ?_
        exact ih (i + 1) h3 _ _ _ _ (by omega) hQ3 (fun h' j => kk h' (hZ2.tr j))
theorem q_131 {L : Nat} {xs : Nat → Int32} {fr lo s0 n nn gg cc p q : Nat} {h : ax_H} {f u b : Nat → Int32} {x y : Int32} (hfr : 7 ≤ fr) (hlo : 260 ≤ lo) (hQ : QT h s0 n nn gg cc p f q u b) : ax_M L xs 131 fr lo [.ref s0, .int x, .int y] h (fun r h' => ((x < 1 ∨ ¬ x ≤ 500) ∧ r = some (.int (-1)) ∧ SZ (n + 329 + 22 * nn) h h') ∨ (¬ x < 1 ∧ x ≤ 500 ∧ r = some (.int x) ∧ SZ (n + 329 + 22 * nn) h h')) := by
  show ax_A (ax_step L xs) ((131, 0, fr, lo), [(0, .ref s0), (1, .int x), (2, .int y)], [], h) _
  refine ar_iload_n 1 d_131_0 rfl rfl ?_
  refine ar_iconst 2 (v := 1) d_131_1 rfl (by decide) ?_
  refine ar_icmp_lt 12 5 d_131_2 (by decide) rfl (fun c1 => ?_) (fun c1 => ?_)
  · refine ar_iconst 13 (v := -1) d_131_12 rfl (by decide) ?_
    exact ar_iret d_131_13 rfl rfl (Or.inl ⟨Or.inl c1, rfl, SZ.rf⟩)
  · refine ar_iload_n 6 d_131_5 rfl rfl ?_
    refine ar_sipush 9 (v := 500) d_131_6 rfl (by decide) ?_
    refine ar_icmp_le 14 12 d_131_9 (by decide) rfl (fun c2 => ?_) (fun c2 => ?_)
    · obtain ⟨N, hN0, rfl⟩ := nI_of (x := x) (fun z => c1 (Int32.lt_trans z (by decide)))
      have hN : N ≤ 500 := (nI_leI (b := 500) hN0 (by omega)).mp c2
      obtain ⟨hb, hp, ⟨c, hW⟩, -, hD⟩ := id hQ
      refine ar_aload_n 15 d_131_14 rfl rfl ?_
      refine ar_iconst 16 (v := 0) d_131_15 rfl (by decide) ?_
      refine ar_putf 19 [.ref (n + 264), .ref n, .ref (n + 266), .ref (n + 328), .ref (n + 320), .ref (n + 262), .ref (n + 263), .int 0, .int 0, .int 0, .int 0] d_131_16 rfl (ci := 0) (k := 10) rfl rfl (hW.at 0 rfl) (Nat.le_of_ble_eq_true rfl) rfl rfl rfl ?_
      obtain ⟨hQ1, hZ1⟩ := hQ.calm (c := 0)
      generalize ax_put h s0 (.inr (0, [.ref (n + 264), .ref n, .ref (n + 266), .ref (n + 328), .ref (n + 320), .ref (n + 262), .ref (n + 263), .int 0, .int 0, .int 0, .int 0])) = h1 at hQ1 hZ1 ⊢
      refine ar_iload_n 20 d_131_19 rfl rfl ?_
      refine ar_istore_n 21 [(0, .ref s0), (1, .int (nI N)), (2, .int y), (3, .int y)] d_131_20 rfl (by decide) rfl ?_
      refine ar_iconst 22 (v := 0) d_131_21 rfl (by decide) ?_
      refine ar_istore 24 [(0, .ref s0), (1, .int (nI N)), (2, .int y), (3, .int y), (4, .int 0)] d_131_22 rfl (by decide) rfl ?_
      exact qlp_131 hfr hlo hN N 0 h1 _ _ _ _ (by omega) hQ1 (fun h' j2 => Or.inr ⟨c1, c2, rfl, hZ1.tr j2⟩)
    · refine ar_iconst 13 (v := -1) d_131_12 rfl (by decide) ?_
      exact ar_iret d_131_13 rfl rfl (Or.inl ⟨Or.inr c2, rfl, SZ.rf⟩)

/-! isClean, isDone, seekRoot, sortIn, readCatalogue for every state -/
theorem d_158_0 : decode (axt_b 158) 0 = .ok (.iload_n 1, 1) := by decide +kernel
theorem d_158_1 : decode (axt_b 158) 1 = .ok (.istore_n 2, 1) := by decide +kernel
theorem d_158_2 : decode (axt_b 158) 2 = .ok (.iload_n 2, 1) := by decide +kernel
theorem d_158_3 : decode (axt_b 158) 3 = .ok (.ifCond .le 42, 3) := by decide +kernel
theorem d_158_6 : decode (axt_b 158) 6 = .ok (.aload_n 0, 1) := by decide +kernel
theorem d_158_7 : decode (axt_b 158) 7 = .ok (.getfield 54, 3) := by decide +kernel
theorem d_158_10 : decode (axt_b 158) 10 = .ok (.iload_n 1, 1) := by decide +kernel
theorem d_158_11 : decode (axt_b 158) 11 = .ok (.aload_n 0, 1) := by decide +kernel
theorem d_158_12 : decode (axt_b 158) 12 = .ok (.getfield 16, 3) := by decide +kernel
theorem d_158_15 : decode (axt_b 158) 15 = .ok (.iload_n 2, 1) := by decide +kernel
theorem d_158_16 : decode (axt_b 158) 16 = .ok (.iconst 1, 1) := by decide +kernel
theorem d_158_17 : decode (axt_b 158) 17 = .ok (.isub, 1) := by decide +kernel
theorem d_158_18 : decode (axt_b 158) 18 = .ok (.iaload, 1) := by decide +kernel
theorem d_158_19 : decode (axt_b 158) 19 = .ok (.invokevirtual 317, 3) := by decide +kernel
theorem d_158_22 : decode (axt_b 158) 22 = .ok (.ifCond .ge 23, 3) := by decide +kernel
theorem d_158_25 : decode (axt_b 158) 25 = .ok (.aload_n 0, 1) := by decide +kernel
theorem d_158_26 : decode (axt_b 158) 26 = .ok (.getfield 16, 3) := by decide +kernel
theorem d_158_29 : decode (axt_b 158) 29 = .ok (.iload_n 2, 1) := by decide +kernel
theorem d_158_30 : decode (axt_b 158) 30 = .ok (.aload_n 0, 1) := by decide +kernel
theorem d_158_31 : decode (axt_b 158) 31 = .ok (.getfield 16, 3) := by decide +kernel
theorem d_158_34 : decode (axt_b 158) 34 = .ok (.iload_n 2, 1) := by decide +kernel
theorem d_158_35 : decode (axt_b 158) 35 = .ok (.iconst 1, 1) := by decide +kernel
theorem d_158_36 : decode (axt_b 158) 36 = .ok (.isub, 1) := by decide +kernel
theorem d_158_37 : decode (axt_b 158) 37 = .ok (.iaload, 1) := by decide +kernel
theorem d_158_38 : decode (axt_b 158) 38 = .ok (.iastore, 1) := by decide +kernel
theorem d_158_39 : decode (axt_b 158) 39 = .ok (.iinc 2 (-1), 3) := by decide +kernel
theorem d_158_42 : decode (axt_b 158) 42 = .ok (.goto (-40), 3) := by decide +kernel
theorem d_158_45 : decode (axt_b 158) 45 = .ok (.aload_n 0, 1) := by decide +kernel
theorem d_158_46 : decode (axt_b 158) 46 = .ok (.getfield 16, 3) := by decide +kernel
theorem d_158_49 : decode (axt_b 158) 49 = .ok (.iload_n 2, 1) := by decide +kernel
theorem d_158_50 : decode (axt_b 158) 50 = .ok (.iload_n 1, 1) := by decide +kernel
theorem d_158_51 : decode (axt_b 158) 51 = .ok (.iastore, 1) := by decide +kernel
theorem d_158_52 : decode (axt_b 158) 52 = .ok (.return_, 1) := by decide +kernel
set_option maxRecDepth 100000 in
theorem s_152 {L : Nat} {xs : Nat → Int32} {fr lo : Nat} {Z : ZT} {n nd nn gg : Nat} {C me : Int32} {f : Nat → Int32} {q : Nat} {u b : Nat → Int32} {uv : Int32} {h0 h : ax_H} {D : Nat → Nat → Int32} {K A : Int64} (hfr : 2 ≤ fr) (hlo : 80 ≤ lo) (hC : CS n nd nn gg f) (hS : NS Z n nd nn gg C me f q u b uv h0 h D K A) (hI : NI Z nn D) : ax_M L xs 152 fr lo [.ref (nd + 7)] h (fun r h' => ∃ y : Int32, r = some (.int y) ∧ (y = 0 ∨ y = 1) ∧ h' = h) := by
  have hC0 := hC
  obtain ⟨hnd, hn0, hnn3, hnn, hgg1, hgg, hRg⟩ := hC
  have key : ∀ (k i : Nat), i + k = 961 → ax_A (ax_step L xs) ((152, 42, fr, lo), [(0, .ref (nd + 7)), (1, .int (nI i))], [], h) (fun r h' => ∃ y : Int32, r = some (.int y) ∧ (y = 0 ∨ y = 1) ∧ h' = h) := by
    intro k
    induction k with
    | zero =>
      intro i hi
      have e0 : 961 = i := by omega
      subst e0
      obtain ⟨hF, hN, hf, hn, hs, hp0, hu0⟩ := hS
      replace hF : ax_hs h [cNd n nd me D, cDk nd D, cAr nd 2 35840 D, cAr nd 3 4096 D, cAr nd 4 32 D, cAr nd 5 280 D, cAr nd 6 280 D, cLd n nd me D A, cAr nd 8 16 D, cAr nd 9 280 D, cTb nd gg D K, cAr nd 11 48 D, cAr nd 12 48 D, cAr nd 13 48 D, cAr nd 14 2400 D, cAr nd 15 512 D, cAr nd 16 961 D, cAr nd 17 961 D, cWk nd D, cWa nd D, cAr nd 20 612 D, cAr nd 21 1152 D, cRk n nn gg C, cOr n nn gg f] := hF
      refine ar_iload_n 43 d_152_42 rfl rfl ?_
      refine ar_sipush 46 (v := 961) d_152_43 rfl (by decide) ?_
      refine ar_icmp_ge 77 49 d_152_46 (by decide) rfl (fun _ => ?_) (fun c => absurd (Int32.le_refl _) c)
      refine ar_iconst 78 (v := 1) d_152_77 rfl (by decide) ?_
      exact ar_iret d_152_78 rfl rfl (⟨_, rfl, Or.inr rfl, rfl⟩)
    | succ k ih =>
      intro i hi
      have hic : i < 961 := by omega
      obtain ⟨hF, hN, hf, hn, hs, hp0, hu0⟩ := hS
      replace hF : ax_hs h [cNd n nd me D, cDk nd D, cAr nd 2 35840 D, cAr nd 3 4096 D, cAr nd 4 32 D, cAr nd 5 280 D, cAr nd 6 280 D, cLd n nd me D A, cAr nd 8 16 D, cAr nd 9 280 D, cTb nd gg D K, cAr nd 11 48 D, cAr nd 12 48 D, cAr nd 13 48 D, cAr nd 14 2400 D, cAr nd 15 512 D, cAr nd 16 961 D, cAr nd 17 961 D, cWk nd D, cWa nd D, cAr nd 20 612 D, cAr nd 21 1152 D, cRk n nn gg C, cOr n nn gg f] := hF
      refine ar_iload_n 43 d_152_42 rfl rfl ?_
      refine ar_sipush 46 (v := 961) d_152_43 rfl (by decide) ?_
      refine ar_icmp_ge 77 49 d_152_46 (by decide) rfl (fun c => absurd c (nI_ge hic (by decide))) (fun _ => ?_)
      refine ar_aload_n 50 d_152_49 rfl rfl ?_
      refine ar_getf 53 d_152_50 rfl (ci := 9) (k := 3) rfl (hF.at 7 rfl) rfl ?_
      refine ar_getf 56 d_152_53 rfl (ci := 6) (k := 6) rfl (hF.at 10 rfl) rfl ?_
      refine ar_iload_n 57 d_152_56 rfl rfl ?_
      refine ar_iald 58 d_152_57 rfl (hF.at 16 rfl) (vin (by omega) (by omega)) ?_
      refine ar_top (x' := D 16 i) (by rw [nI_clamp (show i < 2 ^ 31 by omega)]) ?_
      refine ar_if_lt 71 61 d_152_58 (by decide) rfl (fun c1 => ?_) (fun c1 => ?_)
      · refine ar_iinc 74 [(0, .ref (nd + 7)), (1, .int (nI (i + 1)))] d_152_71 rfl rfl (nI_1 i) (by decide) rfl ?_
        refine ar_goto 42 d_152_74 (by decide) ?_
        exact ih (i + 1) (by omega)
      · refine ar_aload_n 62 d_152_61 rfl rfl ?_
        refine ar_iload_n 63 d_152_62 rfl rfl ?_
        refine ar_call (r := []) (na := 0) (kd := 0) (cm := 74) (fr2 := fr - 1) (lo2 := lo - 22) 66 d_152_63 (ar_hoV (as := [.int (nI i)]) rfl rfl rfl (hF.at 7 rfl)) rfl (by omega) (show lo - 22 + (19 + 3) = lo by omega) (Nat.le_of_ble_eq_true rfl) (Nat.le_of_ble_eq_true rfl) (c_74S (by omega) (by omega) (by omega) hgg (by omega) hI.2.1 ((by
            by_cases z : i = 960
            · exact Or.inl z
            · exact Or.inr (hI.2.1.2.2.1 i (by omega) c1))) (hF.at 7 rfl) (hF.at 10 rfl) (hF.at 8 rfl) (hF.at 11 rfl) (hF.at 16 rfl) (hF.at 17 rfl)) ?_
        intro v hh hq
        obtain ⟨y1, rfl, hy1, ehh⟩ := hq
        rw [ehh]
        clear ehh
        refine ar_if_ne 71 69 d_152_66 (by decide) rfl (fun c2 => ?_) (fun c2 => ?_)
        · refine ar_iinc 74 [(0, .ref (nd + 7)), (1, .int (nI (i + 1)))] d_152_71 rfl rfl (nI_1 i) (by decide) rfl ?_
          refine ar_goto 42 d_152_74 (by decide) ?_
          exact ih (i + 1) (by omega)
        · refine ar_iconst 70 (v := 0) d_152_69 rfl (by decide) ?_
          exact ar_iret d_152_70 rfl rfl (⟨_, rfl, Or.inl rfl, rfl⟩)
  show ax_A (ax_step L xs) ((152, 0, fr, lo), [(0, .ref (nd + 7))], [], h) _
  have hS0 := hS
  obtain ⟨hF, hN, hf, hn, hs, hp0, hu0⟩ := hS
  replace hF : ax_hs h [cNd n nd me D, cDk nd D, cAr nd 2 35840 D, cAr nd 3 4096 D, cAr nd 4 32 D, cAr nd 5 280 D, cAr nd 6 280 D, cLd n nd me D A, cAr nd 8 16 D, cAr nd 9 280 D, cTb nd gg D K, cAr nd 11 48 D, cAr nd 12 48 D, cAr nd 13 48 D, cAr nd 14 2400 D, cAr nd 15 512 D, cAr nd 16 961 D, cAr nd 17 961 D, cWk nd D, cWa nd D, cAr nd 20 612 D, cAr nd 21 1152 D, cRk n nn gg C, cOr n nn gg f] := hF
  refine ar_aload_n 1 d_152_0 rfl rfl ?_
  refine ar_getf 4 d_152_1 rfl (ci := 9) (k := 4) rfl (hF.at 7 rfl) rfl ?_
  refine ar_call (r := []) (na := 0) (kd := 0) (cm := 71) (fr2 := fr - 1) (lo2 := lo - 20) 7 d_152_4 (ar_hoV (as := []) rfl rfl rfl (hF.at 18 rfl)) rfl (by omega) (show lo - 20 + (19 + 1) = lo by omega) (Nat.le_of_ble_eq_true rfl) (Nat.le_of_ble_eq_true rfl) (c_71S (hF.at 18 rfl)) ?_
  intro v hh hq
  obtain ⟨y1, rfl, hy1, ehh⟩ := hq
  rw [ehh]
  clear ehh
  refine ar_if_ne 38 10 d_152_7 (by decide) rfl (fun cc2 => ?_) (fun cc2 => ?_)
  · refine ar_iconst 39 (v := 0) d_152_38 rfl (by decide) ?_
    exact ar_iret d_152_39 rfl rfl (⟨_, rfl, Or.inl rfl, rfl⟩)
  · refine ar_aload_n 11 d_152_10 rfl rfl ?_
    refine ar_getf 14 d_152_11 rfl (ci := 9) (k := 3) rfl (hF.at 7 rfl) rfl ?_
    refine ar_call (r := []) (na := 0) (kd := 0) (cm := 72) (fr2 := fr - 1) (lo2 := lo - 20) 17 d_152_14 (ar_hoV (as := []) rfl rfl rfl (hF.at 10 rfl)) rfl (by omega) (show lo - 20 + (19 + 1) = lo by omega) (Nat.le_of_ble_eq_true rfl) (Nat.le_of_ble_eq_true rfl) (c_72S (by omega) (by omega) (hF.at 10 rfl)) ?_
    intro v hh hq
    obtain ⟨y3, rfl, hy3, ehh⟩ := hq
    rw [ehh]
    clear ehh
    refine ar_if_eq 38 20 d_152_17 (by decide) rfl (fun cc4 => ?_) (fun cc4 => ?_)
    · refine ar_iconst 39 (v := 0) d_152_38 rfl (by decide) ?_
      exact ar_iret d_152_39 rfl rfl (⟨_, rfl, Or.inl rfl, rfl⟩)
    · refine ar_aload_n 21 d_152_20 rfl rfl ?_
      refine ar_getf 24 d_152_21 rfl (ci := 9) (k := 10) rfl (hF.at 7 rfl) rfl ?_
      refine ar_iconst 25 (v := 1) d_152_24 rfl (by decide) ?_
      refine ar_aload_n 26 d_152_25 rfl rfl ?_
      refine ar_getf 29 d_152_26 rfl (ci := 9) (k := 1) rfl (hF.at 7 rfl) rfl ?_
      refine ar_getf 32 d_152_29 rfl (ci := 3) (k := 0) rfl (hF.at 22 rfl) rfl ?_
      refine ar_ishl 33 d_152_32 rfl ?_
      refine ar_iconst 34 (v := 1) d_152_33 rfl (by decide) ?_
      refine ar_isub 35 d_152_34 rfl ?_
      refine ar_icmp_eq 40 38 d_152_35 (by decide) rfl (fun cc5 => ?_) (fun cc5 => ?_)
      · refine ar_iconst 41 (v := 0) d_152_40 rfl (by decide) ?_
        refine ar_istore_n 42 [(0, .ref (nd + 7)), (1, .int 0)] d_152_41 rfl (by decide) rfl ?_
        exact key 961 0 (by omega)
      · refine ar_iconst 39 (v := 0) d_152_38 rfl (by decide) ?_
        exact ar_iret d_152_39 rfl rfl (⟨_, rfl, Or.inl rfl, rfl⟩)

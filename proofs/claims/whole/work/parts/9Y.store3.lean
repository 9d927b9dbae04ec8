/-! isClean, isDone, seekRoot, sortIn, readCatalogue for every state -/
theorem d_158_0 : decode (axt_b 158) 0 = .ok (.iload_n 1, 1) := by decide +kernel
theorem d_158_1 : decode (axt_b 158) 1 = .ok (.istore_n 2, 1) := by decide +kernel
theorem d_158_2 : decode (axt_b 158) 2 = .ok (.iload_n 2, 1) := by decide +kernel
theorem d_158_3 : decode (axt_b 158) 3 = .ok (.ifCond .le 42, 3) := by decide +kernel
theorem d_158_6 : decode (axt_b 158) 6 = .ok (.aload_n 0, 1) := by decide +kernel
theorem d_158_7 : decode (axt_b 158) 7 = .ok (.getfield 54, 3) := by decide +kernel
theorem d_158_10 : decode (axt_b 158) 10 = .ok (.iload_n 1, 1) := by decide +kernel
theorem d_158_11 : decode (axt_b 158) 11 = .ok (.aload_n 0, 1) := by decide +kernel
theorem d_158_12 : decode (axt_b 158) 12 = .ok (.getfield 16, 3) := by decide +kernel
theorem d_158_15 : decode (axt_b 158) 15 = .ok (.iload_n 2, 1) := by decide +kernel
theorem d_158_16 : decode (axt_b 158) 16 = .ok (.iconst 1, 1) := by decide +kernel
theorem d_158_17 : decode (axt_b 158) 17 = .ok (.isub, 1) := by decide +kernel
theorem d_158_18 : decode (axt_b 158) 18 = .ok (.iaload, 1) := by decide +kernel
theorem d_158_19 : decode (axt_b 158) 19 = .ok (.invokevirtual 317, 3) := by decide +kernel
theorem d_158_22 : decode (axt_b 158) 22 = .ok (.ifCond .ge 23, 3) := by decide +kernel
theorem d_158_25 : decode (axt_b 158) 25 = .ok (.aload_n 0, 1) := by decide +kernel
theorem d_158_26 : decode (axt_b 158) 26 = .ok (.getfield 16, 3) := by decide +kernel
theorem d_158_29 : decode (axt_b 158) 29 = .ok (.iload_n 2, 1) := by decide +kernel
theorem d_158_30 : decode (axt_b 158) 30 = .ok (.aload_n 0, 1) := by decide +kernel
theorem d_158_31 : decode (axt_b 158) 31 = .ok (.getfield 16, 3) := by decide +kernel
theorem d_158_34 : decode (axt_b 158) 34 = .ok (.iload_n 2, 1) := by decide +kernel
theorem d_158_35 : decode (axt_b 158) 35 = .ok (.iconst 1, 1) := by decide +kernel
theorem d_158_36 : decode (axt_b 158) 36 = .ok (.isub, 1) := by decide +kernel
theorem d_158_37 : decode (axt_b 158) 37 = .ok (.iaload, 1) := by decide +kernel
theorem d_158_38 : decode (axt_b 158) 38 = .ok (.iastore, 1) := by decide +kernel
theorem d_158_39 : decode (axt_b 158) 39 = .ok (.iinc 2 (-1), 3) := by decide +kernel
theorem d_158_42 : decode (axt_b 158) 42 = .ok (.goto (-40), 3) := by decide +kernel
theorem d_158_45 : decode (axt_b 158) 45 = .ok (.aload_n 0, 1) := by decide +kernel
theorem d_158_46 : decode (axt_b 158) 46 = .ok (.getfield 16, 3) := by decide +kernel
theorem d_158_49 : decode (axt_b 158) 49 = .ok (.iload_n 2, 1) := by decide +kernel
theorem d_158_50 : decode (axt_b 158) 50 = .ok (.iload_n 1, 1) := by decide +kernel
theorem d_158_51 : decode (axt_b 158) 51 = .ok (.iastore, 1) := by decide +kernel
theorem d_158_52 : decode (axt_b 158) 52 = .ok (.return_, 1) := by decide +kernel
def clA (gg : Nat) (D : Nat → Nat → Int32) : Nat → Nat → Int32
  | 0, i =>
    1
  | k + 1, i =>
    if ((D 16) i) < 0 then
      clA gg D k (i + 1)
    else
      if ¬ (sfB (D 8) (D 11) (D 16) (D 17) gg i) = 0 then
        clA gg D k (i + 1)
      else
        0
/-- Leader.isClean -/
def icB (nn gg : Nat) (D : Nat → Nat → Int32) (K : Int64) : Int32 :=
  if ¬ (acB (D 18 3)) = 0 then
    0
  else
    if (knA K (D 10 9)) = 0 then
      0
    else
      if (D 7 10) = ((1 <<< ((nI nn) &&& 31)) - 1) then
        clA gg D 961 0
      else
        0
set_option maxRecDepth 100000 in
theorem s_152 {L : Nat} {xs : Nat → Int32} {fr lo : Nat} {Z : ZT} {n nd nn gg : Nat} {C me : Int32} {f : Nat → Int32} {q : Nat} {u b : Nat → Int32} {uv : Int32} {h0 h : ax_H} {D : Nat → Nat → Int32} {K A : Int64} {Y : List Mg} (hfr : 2 ≤ fr) (hlo : 80 ≤ lo) (hC : CS n nd nn gg f) (hS : NS Z n nd nn gg C me f q u b uv h0 h D K A Y) (hI : NI Z nn D) : ax_M L xs 152 fr lo [.ref (nd + 7)] h (fun r h' => ∃ y : Int32, r = some (.int y) ∧ y = icB nn gg D K ∧ h' = h) := by
  have hC0 := hC
  obtain ⟨hnd, hn0, hnn3, hnn, hgg1, hgg, hRg⟩ := hC
  have key : ∀ (k i : Nat), i + k = 961 → ax_A (ax_step L xs) ((152, 42, fr, lo), [(0, .ref (nd + 7)), (1, .int (nI i))], [], h) (fun r h' => ∃ y : Int32, r = some (.int y) ∧ y = clA gg D k i ∧ h' = h) := by
    intro k
    induction k with
    | zero =>
      intro i hi
      have e0 : 961 = i := by omega
      subst e0
      obtain ⟨hF, hN, hf, hn, hs, hp0, hu0⟩ := hS
      replace hF : ax_hs h [cNd n nd me D, cDk nd D, cAr nd 2 35840 D, cAr nd 3 4096 D, cAr nd 4 32 D, cAr nd 5 280 D, cAr nd 6 280 D, cLd n nd me D A, cAr nd 8 16 D, cAr nd 9 280 D, cTb nd gg D K, cAr nd 11 48 D, cAr nd 12 48 D, cAr nd 13 48 D, cAr nd 14 2400 D, cAr nd 15 512 D, cAr nd 16 961 D, cAr nd 17 961 D, cWk nd D, cWa nd D, cAr nd 20 612 D, cAr nd 21 1152 D, cRk n nn gg C, cOr n nn gg f] := hF
      refine ar_iload_n 43 d_152_42 rfl rfl ?_
      refine ar_sipush 46 (v := 961) d_152_43 rfl (by decide) ?_
      refine ar_icmp_ge 77 49 d_152_46 (by decide) rfl (fun _ => ?_) (fun c => absurd (Int32.le_refl _) c)
      refine ar_iconst 78 (v := 1) d_152_77 rfl (by decide) ?_
      exact ar_iret d_152_78 rfl rfl (⟨_, rfl, rfl, rfl⟩)
    | succ k ih =>
      intro i hi
      have hic : i < 961 := by omega
      obtain ⟨hF, hN, hf, hn, hs, hp0, hu0⟩ := hS
      replace hF : ax_hs h [cNd n nd me D, cDk nd D, cAr nd 2 35840 D, cAr nd 3 4096 D, cAr nd 4 32 D, cAr nd 5 280 D, cAr nd 6 280 D, cLd n nd me D A, cAr nd 8 16 D, cAr nd 9 280 D, cTb nd gg D K, cAr nd 11 48 D, cAr nd 12 48 D, cAr nd 13 48 D, cAr nd 14 2400 D, cAr nd 15 512 D, cAr nd 16 961 D, cAr nd 17 961 D, cWk nd D, cWa nd D, cAr nd 20 612 D, cAr nd 21 1152 D, cRk n nn gg C, cOr n nn gg f] := hF
      refine ar_iload_n 43 d_152_42 rfl rfl ?_
      refine ar_sipush 46 (v := 961) d_152_43 rfl (by decide) ?_
      refine ar_icmp_ge 77 49 d_152_46 (by decide) rfl (fun c => absurd c (nI_ge hic (by decide))) (fun _ => ?_)
      refine ar_aload_n 50 d_152_49 rfl rfl ?_
      refine ar_getf 53 d_152_50 rfl (ci := 9) (k := 3) rfl (hF.at 7 rfl) rfl ?_
      refine ar_getf 56 d_152_53 rfl (ci := 6) (k := 6) rfl (hF.at 10 rfl) rfl ?_
      refine ar_iload_n 57 d_152_56 rfl rfl ?_
      refine ar_ialdN 58 (e := i) d_152_57 rfl (hF.at 16 rfl) (by omega) (by omega) ?_
      refine ar_if_lt 71 61 d_152_58 (by decide) rfl (fun c1 => ?_) (fun c1 => ?_)
      · refine ar_iinc 74 [(0, .ref (nd + 7)), (1, .int (nI (i + 1)))] d_152_71 rfl rfl (nI_1 i) (by decide) rfl ?_
        refine ar_goto 42 d_152_74 (by decide) ?_
        rw [← show clA gg D k (i + 1) = clA gg D (k + 1) i from eq_ifT c1 (rfl)]
        exact ih (i + 1) (by omega)
      · refine ar_aload_n 62 d_152_61 rfl rfl ?_
        refine ar_iload_n 63 d_152_62 rfl rfl ?_
        refine ar_call (r := []) (na := 0) (kd := 0) (cm := 74) (fr2 := fr - 1) (lo2 := lo - 22) 66 d_152_63 (ar_hoV (as := [.int (nI i)]) rfl rfl rfl (hF.at 7 rfl)) rfl (by omega) (show lo - 22 + (19 + 3) = lo by omega) (Nat.le_of_ble_eq_true rfl) (Nat.le_of_ble_eq_true rfl) (c_74E (by omega) (by omega) (by omega) hgg (by omega) hI.2.1 ((by
            by_cases z : i = 960
            · exact Or.inl z
            · exact Or.inr (hI.2.1.2.2.1 i (by omega) c1))) (hF.at 7 rfl) (hF.at 10 rfl) (hF.at 8 rfl) (hF.at 11 rfl) (hF.at 16 rfl) (hF.at 17 rfl)) ?_
        intro v hh hq
        obtain ⟨rfl, ehh⟩ := hq
        rw [ehh]
        clear ehh
        refine ar_if_ne 71 69 d_152_66 (by decide) rfl (fun c2 => ?_) (fun c2 => ?_)
        · refine ar_iinc 74 [(0, .ref (nd + 7)), (1, .int (nI (i + 1)))] d_152_71 rfl rfl (nI_1 i) (by decide) rfl ?_
          refine ar_goto 42 d_152_74 (by decide) ?_
          rw [← show clA gg D k (i + 1) = clA gg D (k + 1) i from eq_ifF c1 (eq_ifT c2 (rfl))]
          exact ih (i + 1) (by omega)
        · refine ar_iconst 70 (v := 0) d_152_69 rfl (by decide) ?_
          exact ar_iret d_152_70 rfl rfl (⟨_, rfl, eq_ifF c1 (eq_ifF c2 (rfl)), rfl⟩)
  show ax_A (ax_step L xs) ((152, 0, fr, lo), [(0, .ref (nd + 7))], [], h) _
  have hS0 := hS
  obtain ⟨hF, hN, hf, hn, hs, hp0, hu0⟩ := hS
  replace hF : ax_hs h [cNd n nd me D, cDk nd D, cAr nd 2 35840 D, cAr nd 3 4096 D, cAr nd 4 32 D, cAr nd 5 280 D, cAr nd 6 280 D, cLd n nd me D A, cAr nd 8 16 D, cAr nd 9 280 D, cTb nd gg D K, cAr nd 11 48 D, cAr nd 12 48 D, cAr nd 13 48 D, cAr nd 14 2400 D, cAr nd 15 512 D, cAr nd 16 961 D, cAr nd 17 961 D, cWk nd D, cWa nd D, cAr nd 20 612 D, cAr nd 21 1152 D, cRk n nn gg C, cOr n nn gg f] := hF
  refine ar_aload_n 1 d_152_0 rfl rfl ?_
  refine ar_getf 4 d_152_1 rfl (ci := 9) (k := 4) rfl (hF.at 7 rfl) rfl ?_
  refine ar_call (r := []) (na := 0) (kd := 0) (cm := 71) (fr2 := fr - 1) (lo2 := lo - 20) 7 d_152_4 (ar_hoV (as := []) rfl rfl rfl (hF.at 18 rfl)) rfl (by omega) (show lo - 20 + (19 + 1) = lo by omega) (Nat.le_of_ble_eq_true rfl) (Nat.le_of_ble_eq_true rfl) (c_71E (hF.at 18 rfl)) ?_
  intro v hh hq
  obtain ⟨rfl, ehh⟩ := hq
  rw [ehh]
  clear ehh
  refine ar_if_ne 38 10 d_152_7 (by decide) rfl (fun cc1 => ?_) (fun cc1 => ?_)
  · refine ar_iconst 39 (v := 0) d_152_38 rfl (by decide) ?_
    exact ar_iret d_152_39 rfl rfl (⟨_, rfl, eq_ifT cc1 (rfl), rfl⟩)
  · refine ar_aload_n 11 d_152_10 rfl rfl ?_
    refine ar_getf 14 d_152_11 rfl (ci := 9) (k := 3) rfl (hF.at 7 rfl) rfl ?_
    refine ar_call (r := []) (na := 0) (kd := 0) (cm := 72) (fr2 := fr - 1) (lo2 := lo - 20) 17 d_152_14 (ar_hoV (as := []) rfl rfl rfl (hF.at 10 rfl)) rfl (by omega) (show lo - 20 + (19 + 1) = lo by omega) (Nat.le_of_ble_eq_true rfl) (Nat.le_of_ble_eq_true rfl) (c_72E (by omega) (by omega) (hF.at 10 rfl)) ?_
    intro v hh hq
    obtain ⟨rfl, ehh⟩ := hq
    rw [ehh]
    clear ehh
    refine ar_if_eq 38 20 d_152_17 (by decide) rfl (fun cc2 => ?_) (fun cc2 => ?_)
    · refine ar_iconst 39 (v := 0) d_152_38 rfl (by decide) ?_
      exact ar_iret d_152_39 rfl rfl (⟨_, rfl, eq_ifF cc1 (eq_ifT cc2 (rfl)), rfl⟩)
    · refine ar_aload_n 21 d_152_20 rfl rfl ?_
      refine ar_getf 24 d_152_21 rfl (ci := 9) (k := 10) rfl (hF.at 7 rfl) rfl ?_
      refine ar_iconst 25 (v := 1) d_152_24 rfl (by decide) ?_
      refine ar_aload_n 26 d_152_25 rfl rfl ?_
      refine ar_getf 29 d_152_26 rfl (ci := 9) (k := 1) rfl (hF.at 7 rfl) rfl ?_
      refine ar_getf 32 d_152_29 rfl (ci := 3) (k := 0) rfl (hF.at 22 rfl) rfl ?_
      refine ar_ishl 33 d_152_32 rfl ?_
      refine ar_iconst 34 (v := 1) d_152_33 rfl (by decide) ?_
      refine ar_isub 35 d_152_34 rfl ?_
      refine ar_icmp_eq 40 38 d_152_35 (by decide) rfl (fun cc3 => ?_) (fun cc3 => ?_)
      · refine ar_iconst 41 (v := 0) d_152_40 rfl (by decide) ?_
        refine ar_istore_n 42 [(0, .ref (nd + 7)), (1, .int 0)] d_152_41 rfl (by decide) rfl ?_
        rw [← show clA gg D 961 0 = icB nn gg D K from eq_ifF cc1 (eq_ifF cc2 (eq_ifT cc3 (rfl)))]
        exact key 961 0 (by omega)
      · refine ar_iconst 39 (v := 0) d_152_38 rfl (by decide) ?_
        exact ar_iret d_152_39 rfl rfl (⟨_, rfl, eq_ifF cc1 (eq_ifF cc2 (eq_ifF cc3 (rfl))), rfl⟩)
def skR (g : Nat → Int32) : Nat → Nat → Int32 → Int32
  | 0, _, bv => bv
  | k + 1, i, bv => if rtB (g (i * 128 + 1)) = 0 then skR g k (i + 1) bv else if ¬ fstB (g (i * 128)) = 0 ∧ fstB (g (i * 128)) = lstB (g (i * 128 + 127)) then (if bv < 0 then skR g k (i + 1) (nI i) else if g (i * 128 + 1) ≤ g (bv.toNatClampNeg * 128 + 1) then skR g k (i + 1) bv else skR g k (i + 1) (nI i)) else skR g k (i + 1) bv
theorem c_155S {L : Nat} {xs : Nat → Int32} {fr lo : Nat} {h : ax_H} {dk da db dc dd : Nat} {dn : Int32} {ff : Nat → Int32} (hfr : 1 ≤ fr) (hlo : 40 ≤ lo) (hF : ax_hs h [(dk, .inr (8, [.ref da, .ref db, .ref dc, .ref dd, .int dn])), (da, .inl (0, 35840, .inl ff))]) : ax_M L xs 155 fr lo [.ref dk] h (fun r h' => (r = some (.int (-1)) ∨ ∃ j : Nat, j < 280 ∧ r = some (.int (nI j)) ∧ whB ff j ∧ ∃ t : Nat, t < 2 ^ 31 ∧ ff (j * 128 + 1) = nI t ∧ t / 10240 = 512) ∧ r = some (.int (skR ff 280 0 (-1))) ∧ h' = h) := by
  have key : ∀ (k i : Nat) (bv : Int32), i + k = 280 → (bv = -1 ∨ ∃ j : Nat, j < 280 ∧ bv = nI j ∧ whB ff j ∧ ∃ t : Nat, t < 2 ^ 31 ∧ ff (j * 128 + 1) = nI t ∧ t / 10240 = 512) → ax_A (ax_step L xs) ((155, 4, fr, lo), [(0, .ref dk), (1, .int bv), (2, .int (nI i))], [], h) (fun r h' => (r = some (.int (-1)) ∨ ∃ j : Nat, j < 280 ∧ r = some (.int (nI j)) ∧ whB ff j ∧ ∃ t : Nat, t < 2 ^ 31 ∧ ff (j * 128 + 1) = nI t ∧ t / 10240 = 512) ∧ r = some (.int (skR ff k i bv)) ∧ h' = h) := by
    intro k
    induction k with
    | zero =>
      intro i bv hi hb
      have e0 : 280 = i := by omega
      subst e0
      refine ar_iload_n 5 d_155_4 rfl rfl ?_
      refine ar_sipush 8 (v := 280) d_155_5 rfl (by decide) ?_
      refine ar_icmp_ge 55 11 d_155_8 (by decide) rfl (fun _ => ?_) (fun c => absurd (Int32.le_refl _) c)
      refine ar_iload_n 56 d_155_55 rfl rfl ?_
      exact ar_iret d_155_56 rfl rfl (⟨hb.imp (fun e => by rw [e]) (fun ⟨j, h1, h2, h3⟩ => ⟨j, h1, by rw [h2], h3⟩), rfl, rfl⟩)
    | succ k ih =>
      intro i bv hi hb
      have hic : i < 280 := by omega
      rcases hb with rfl | ⟨j, hj, rfl, hwj, htj⟩
      · refine ar_iload_n 5 d_155_4 rfl rfl ?_
        refine ar_sipush 8 (v := 280) d_155_5 rfl (by decide) ?_
        refine ar_icmp_ge 55 11 d_155_8 (by decide) rfl (fun c => absurd c (nI_ge hic (by decide))) (fun _ => ?_)
        refine ar_aload_n 12 d_155_11 rfl rfl ?_
        refine ar_iload_n 13 d_155_12 rfl rfl ?_
        refine ar_call (r := []) (na := 0) (kd := 0) (cm := 21) (fr2 := fr - 1) (lo2 := lo - 21) 16 d_155_13 (ar_hoV (as := [.int (nI i)]) rfl rfl rfl (hF.at 0 rfl)) rfl (by omega) (show lo - 21 + (19 + 2) = lo by omega) (Nat.le_of_ble_eq_true rfl) (Nat.le_of_ble_eq_true rfl) (c_21 hic (hF.sub (F' := [(dk, .inr (8, [.ref da, .ref db, .ref dc, .ref dd, .int dn])), (da, .inl (0, 35840, .inl ff))]) [0, 1] rfl rfl)) ?_
        intro v hh hq
        obtain ⟨rfl, ehh⟩ := hq
        rw [ehh]
        clear ehh
        refine ar_call (r := []) (na := 0) (kd := 0) (cm := 80) (fr2 := fr - 1) (lo2 := lo - 20) 19 d_155_16 (ar_hoS (as := [.int (ff (i * 128 + 1))]) rfl rfl rfl) rfl (by omega) (show lo - 20 + (19 + 1) = lo by omega) (Nat.le_of_ble_eq_true rfl) (Nat.le_of_ble_eq_true rfl) (c_80E) ?_
        intro v hh hq
        obtain ⟨rfl, ehh⟩ := hq
        rw [ehh]
        clear ehh
        rcases rtB_or (ff (i * 128 + 1)) with ⟨er, -⟩ | ⟨er, hti⟩
        · refine ar_top (x' := 0) (er) ?_
          refine ar_if_eq 49 22 d_155_19 (by decide) rfl (fun _ => ?_) (fun c => absurd (by decide) c)
          refine ar_iinc 52 [(0, .ref dk), (1, .int (-1)), (2, .int (nI (i + 1)))] d_155_49 rfl rfl (nI_1 i) (by decide) rfl ?_
          refine ar_goto 4 d_155_52 (by decide) ?_
          rw [← show skR ff k (i + 1) (-1) = skR ff (k + 1) i (-1) from eq_ifT er rfl]
          exact ih (i + 1) (-1) (by omega) (Or.inl rfl)
        · refine ar_top (x' := 1) (er) ?_
          refine ar_if_eq 49 22 d_155_19 (by decide) rfl (fun c => absurd c (by decide)) (fun _ => ?_)
          refine ar_aload_n 23 d_155_22 rfl rfl ?_
          refine ar_iload_n 24 d_155_23 rfl rfl ?_
          by_cases hwi : whB ff i
          · refine ar_call (r := []) (na := 0) (kd := 0) (cm := 20) (fr2 := fr - 1) (lo2 := lo - 23) 27 d_155_24 (ar_hoV (as := [.int (nI i)]) rfl rfl rfl (hF.at 0 rfl)) rfl (by omega) (show lo - 23 + (19 + 4) = lo by omega) (Nat.le_of_ble_eq_true rfl) (Nat.le_of_ble_eq_true rfl) (c_20T hic hwi (hF.sub (F' := [(dk, .inr (8, [.ref da, .ref db, .ref dc, .ref dd, .int dn])), (da, .inl (0, 35840, .inl ff))]) [0, 1] rfl rfl)) ?_
            intro v hh hq
            obtain ⟨rfl, ehh⟩ := hq
            rw [ehh]
            clear ehh
            refine ar_if_eq 49 30 d_155_27 (by decide) rfl (fun c => absurd c (by decide)) (fun _ => ?_)
            refine ar_iload_n 31 d_155_30 rfl rfl ?_
            refine ar_if_lt 47 34 d_155_31 (by decide) rfl (fun _ => ?_) (fun c => absurd (by decide) c)
            refine ar_iload_n 48 d_155_47 rfl rfl ?_
            refine ar_istore_n 49 [(0, .ref dk), (1, .int (nI i)), (2, .int (nI i))] d_155_48 rfl (by decide) rfl ?_
            refine ar_iinc 52 [(0, .ref dk), (1, .int (nI i)), (2, .int (nI (i + 1)))] d_155_49 rfl rfl (nI_1 i) (by decide) rfl ?_
            refine ar_goto 4 d_155_52 (by decide) ?_
            rw [← show skR ff k (i + 1) (nI i) = skR ff (k + 1) i (-1) from eq_ifF (by rw [er]; decide) (eq_ifT hwi (eq_ifT (by decide) rfl))]
            exact ih (i + 1) (nI i) (by omega) (Or.inr ⟨i, hic, rfl, hwi, hti⟩)
          · refine ar_call (r := []) (na := 0) (kd := 0) (cm := 20) (fr2 := fr - 1) (lo2 := lo - 23) 27 d_155_24 (ar_hoV (as := [.int (nI i)]) rfl rfl rfl (hF.at 0 rfl)) rfl (by omega) (show lo - 23 + (19 + 4) = lo by omega) (Nat.le_of_ble_eq_true rfl) (Nat.le_of_ble_eq_true rfl) (c_20F hic hwi (hF.sub (F' := [(dk, .inr (8, [.ref da, .ref db, .ref dc, .ref dd, .int dn])), (da, .inl (0, 35840, .inl ff))]) [0, 1] rfl rfl)) ?_
            intro v hh hq
            obtain ⟨rfl, ehh⟩ := hq
            rw [ehh]
            clear ehh
            refine ar_if_eq 49 30 d_155_27 (by decide) rfl (fun _ => ?_) (fun c => absurd (by decide) c)
            refine ar_iinc 52 [(0, .ref dk), (1, .int (-1)), (2, .int (nI (i + 1)))] d_155_49 rfl rfl (nI_1 i) (by decide) rfl ?_
            refine ar_goto 4 d_155_52 (by decide) ?_
            rw [← show skR ff k (i + 1) (-1) = skR ff (k + 1) i (-1) from eq_ifF (by rw [er]; decide) (eq_ifF hwi rfl)]
            exact ih (i + 1) (-1) (by omega) (Or.inl rfl)
      · refine ar_iload_n 5 d_155_4 rfl rfl ?_
        refine ar_sipush 8 (v := 280) d_155_5 rfl (by decide) ?_
        refine ar_icmp_ge 55 11 d_155_8 (by decide) rfl (fun c => absurd c (nI_ge hic (by decide))) (fun _ => ?_)
        refine ar_aload_n 12 d_155_11 rfl rfl ?_
        refine ar_iload_n 13 d_155_12 rfl rfl ?_
        refine ar_call (r := []) (na := 0) (kd := 0) (cm := 21) (fr2 := fr - 1) (lo2 := lo - 21) 16 d_155_13 (ar_hoV (as := [.int (nI i)]) rfl rfl rfl (hF.at 0 rfl)) rfl (by omega) (show lo - 21 + (19 + 2) = lo by omega) (Nat.le_of_ble_eq_true rfl) (Nat.le_of_ble_eq_true rfl) (c_21 hic (hF.sub (F' := [(dk, .inr (8, [.ref da, .ref db, .ref dc, .ref dd, .int dn])), (da, .inl (0, 35840, .inl ff))]) [0, 1] rfl rfl)) ?_
        intro v hh hq
        obtain ⟨rfl, ehh⟩ := hq
        rw [ehh]
        clear ehh
        refine ar_call (r := []) (na := 0) (kd := 0) (cm := 80) (fr2 := fr - 1) (lo2 := lo - 20) 19 d_155_16 (ar_hoS (as := [.int (ff (i * 128 + 1))]) rfl rfl rfl) rfl (by omega) (show lo - 20 + (19 + 1) = lo by omega) (Nat.le_of_ble_eq_true rfl) (Nat.le_of_ble_eq_true rfl) (c_80E) ?_
        intro v hh hq
        obtain ⟨rfl, ehh⟩ := hq
        rw [ehh]
        clear ehh
        rcases rtB_or (ff (i * 128 + 1)) with ⟨er, -⟩ | ⟨er, hti⟩
        · refine ar_top (x' := 0) (er) ?_
          refine ar_if_eq 49 22 d_155_19 (by decide) rfl (fun _ => ?_) (fun c => absurd (by decide) c)
          refine ar_iinc 52 [(0, .ref dk), (1, .int (nI j)), (2, .int (nI (i + 1)))] d_155_49 rfl rfl (nI_1 i) (by decide) rfl ?_
          refine ar_goto 4 d_155_52 (by decide) ?_
          rw [← show skR ff k (i + 1) (nI j) = skR ff (k + 1) i (nI j) from eq_ifT er rfl]
          exact ih (i + 1) (nI j) (by omega) (Or.inr ⟨j, hj, rfl, hwj, htj⟩)
        · refine ar_top (x' := 1) (er) ?_
          refine ar_if_eq 49 22 d_155_19 (by decide) rfl (fun c => absurd c (by decide)) (fun _ => ?_)
          refine ar_aload_n 23 d_155_22 rfl rfl ?_
          refine ar_iload_n 24 d_155_23 rfl rfl ?_
          by_cases hwi : whB ff i
          · refine ar_call (r := []) (na := 0) (kd := 0) (cm := 20) (fr2 := fr - 1) (lo2 := lo - 23) 27 d_155_24 (ar_hoV (as := [.int (nI i)]) rfl rfl rfl (hF.at 0 rfl)) rfl (by omega) (show lo - 23 + (19 + 4) = lo by omega) (Nat.le_of_ble_eq_true rfl) (Nat.le_of_ble_eq_true rfl) (c_20T hic hwi (hF.sub (F' := [(dk, .inr (8, [.ref da, .ref db, .ref dc, .ref dd, .int dn])), (da, .inl (0, 35840, .inl ff))]) [0, 1] rfl rfl)) ?_
            intro v hh hq
            obtain ⟨rfl, ehh⟩ := hq
            rw [ehh]
            clear ehh
            refine ar_if_eq 49 30 d_155_27 (by decide) rfl (fun c => absurd c (by decide)) (fun _ => ?_)
            refine ar_iload_n 31 d_155_30 rfl rfl ?_
            refine ar_if_lt 47 34 d_155_31 (by decide) rfl (fun c => absurd c (nI_pos (by omega))) (fun _ => ?_)
            refine ar_aload_n 35 d_155_34 rfl rfl ?_
            refine ar_iload_n 36 d_155_35 rfl rfl ?_
            refine ar_call (r := []) (na := 0) (kd := 0) (cm := 21) (fr2 := fr - 1) (lo2 := lo - 21) 39 d_155_36 (ar_hoV (as := [.int (nI i)]) rfl rfl rfl (hF.at 0 rfl)) rfl (by omega) (show lo - 21 + (19 + 2) = lo by omega) (Nat.le_of_ble_eq_true rfl) (Nat.le_of_ble_eq_true rfl) (c_21 hic (hF.sub (F' := [(dk, .inr (8, [.ref da, .ref db, .ref dc, .ref dd, .int dn])), (da, .inl (0, 35840, .inl ff))]) [0, 1] rfl rfl)) ?_
            intro v hh hq
            obtain ⟨rfl, ehh⟩ := hq
            rw [ehh]
            clear ehh
            refine ar_aload_n 40 d_155_39 rfl rfl ?_
            refine ar_iload_n 41 d_155_40 rfl rfl ?_
            refine ar_call (r := [.int (ff (i * 128 + 1))]) (na := 0) (kd := 0) (cm := 21) (fr2 := fr - 1) (lo2 := lo - 21) 44 d_155_41 (ar_hoV (as := [.int (nI j)]) rfl rfl rfl (hF.at 0 rfl)) rfl (by omega) (show lo - 21 + (19 + 2) = lo by omega) (Nat.le_of_ble_eq_true rfl) (Nat.le_of_ble_eq_true rfl) (c_21 hj (hF.sub (F' := [(dk, .inr (8, [.ref da, .ref db, .ref dc, .ref dd, .int dn])), (da, .inl (0, 35840, .inl ff))]) [0, 1] rfl rfl)) ?_
            intro v hh hq
            obtain ⟨rfl, ehh⟩ := hq
            rw [ehh]
            clear ehh
            refine ar_icmp_le 49 47 d_155_44 (by decide) rfl (fun c5 => ?_) (fun c5 => ?_)
            · refine ar_iinc 52 [(0, .ref dk), (1, .int (nI j)), (2, .int (nI (i + 1)))] d_155_49 rfl rfl (nI_1 i) (by decide) rfl ?_
              refine ar_goto 4 d_155_52 (by decide) ?_
              rw [← show skR ff k (i + 1) (nI j) = skR ff (k + 1) i (nI j) from eq_ifF (by rw [er]; decide) (eq_ifT hwi (eq_ifF (nI_pos (by omega)) (eq_ifT (by rw [nI_clamp (by omega)]; exact c5) rfl)))]
              exact ih (i + 1) (nI j) (by omega) (Or.inr ⟨j, hj, rfl, hwj, htj⟩)
            · refine ar_iload_n 48 d_155_47 rfl rfl ?_
              refine ar_istore_n 49 [(0, .ref dk), (1, .int (nI i)), (2, .int (nI i))] d_155_48 rfl (by decide) rfl ?_
              refine ar_iinc 52 [(0, .ref dk), (1, .int (nI i)), (2, .int (nI (i + 1)))] d_155_49 rfl rfl (nI_1 i) (by decide) rfl ?_
              refine ar_goto 4 d_155_52 (by decide) ?_
              rw [← show skR ff k (i + 1) (nI i) = skR ff (k + 1) i (nI j) from eq_ifF (by rw [er]; decide) (eq_ifT hwi (eq_ifF (nI_pos (by omega)) (eq_ifF (by rw [nI_clamp (by omega)]; exact c5) rfl)))]
              exact ih (i + 1) (nI i) (by omega) (Or.inr ⟨i, hic, rfl, hwi, hti⟩)
          · refine ar_call (r := []) (na := 0) (kd := 0) (cm := 20) (fr2 := fr - 1) (lo2 := lo - 23) 27 d_155_24 (ar_hoV (as := [.int (nI i)]) rfl rfl rfl (hF.at 0 rfl)) rfl (by omega) (show lo - 23 + (19 + 4) = lo by omega) (Nat.le_of_ble_eq_true rfl) (Nat.le_of_ble_eq_true rfl) (c_20F hic hwi (hF.sub (F' := [(dk, .inr (8, [.ref da, .ref db, .ref dc, .ref dd, .int dn])), (da, .inl (0, 35840, .inl ff))]) [0, 1] rfl rfl)) ?_
            intro v hh hq
            obtain ⟨rfl, ehh⟩ := hq
            rw [ehh]
            clear ehh
            refine ar_if_eq 49 30 d_155_27 (by decide) rfl (fun _ => ?_) (fun c => absurd (by decide) c)
            refine ar_iinc 52 [(0, .ref dk), (1, .int (nI j)), (2, .int (nI (i + 1)))] d_155_49 rfl rfl (nI_1 i) (by decide) rfl ?_
            refine ar_goto 4 d_155_52 (by decide) ?_
            rw [← show skR ff k (i + 1) (nI j) = skR ff (k + 1) i (nI j) from eq_ifF (by rw [er]; decide) (eq_ifF hwi rfl)]
            exact ih (i + 1) (nI j) (by omega) (Or.inr ⟨j, hj, rfl, hwj, htj⟩)
  show ax_A (ax_step L xs) ((155, 0, fr, lo), [(0, .ref dk)], [], h) _
  refine ar_iconst 1 (v := -1) d_155_0 rfl (by decide) ?_
  refine ar_istore_n 2 [(0, .ref dk), (1, .int (-1))] d_155_1 rfl (by decide) rfl ?_
  refine ar_iconst 3 (v := 0) d_155_2 rfl (by decide) ?_
  refine ar_istore_n 4 [(0, .ref dk), (1, .int (-1)), (2, .int 0)] d_155_3 rfl (by decide) rfl ?_
  exact key 280 0 (-1) (by omega) (Or.inl rfl)
theorem nI_m1 (a : Nat) : nI (a + 1) + (-1) = nI a := by
  rw [← nI_1]
  rw [Int32.add_assoc, show (1 : Int32) + (-1) = 0 by decide, Int32.add_zero]
theorem va_up_sf {α : Type} {f : Nat → α} {i : Nat} : va_up f i (f i) = f := by
  funext j
  by_cases e : j = i
  · subst e
    exact va_up_s _ _ _
  · exact va_up_n _ _ e
def srF (mf nf : Nat → Int32) (fi : Nat) : Nat → (Nat → Int32) → (Nat → Int32)
  | 0, og => upd og 0 (nI fi)
  | k + 1, og => if 0 ≤ nmC mf nf fi (og k).toNatClampNeg then upd og (k + 1) (nI fi) else srF mf nf fi k (upd og (k + 1) (og k))
def orI (E : Nat → Nat → Int32) : Prop := ∀ k, k < 48 → inR 48 (E 0 k)
set_option maxRecDepth 100000 in
theorem ek_158 {L : Nat} {xs : Nat → Int32} {fr lo : Nat} {s0 n nn gg : Nat} {C : Int32} {f : Nat → Int32} {q : Nat} {u b : Nat → Int32} {h0 h : ax_H} {E : Nat → Nat → Int32} {TK : Int64} {Q : Nat → Mg} {ms : List Mg}  (hfr : 3 ≤ fr) (hlo : 100 ≤ lo) (hC : CG s0 n nn gg f) (hS : AS s0 n nn gg C f q u b h0 h E TK Q ms) {fi : Nat} (hfi : fi < 48) (ho : orI E) : ax_M L xs 158 fr lo [.ref s0, .int (nI fi)] h (fun r h' => r = none ∧ ∃ og : Nat → Int32, AS s0 n nn gg C f q u b h0 h' (va_up E 0 og) TK Q ms ∧ (∀ k, k < 48 → inR 48 (og k)) ∧ og = srF (E 62) (E 61) fi fi (E 0)) := by
  have hC0 := hC
  obtain ⟨hs0, hsn, hnn3, hnn, hgg1, hgg, hRg⟩ := hC
  have key : ∀ (k : Nat) (h : ax_H) (og : Nat → Int32), k ≤ fi → AS s0 n nn gg C f q u b h0 h (va_up E 0 og) TK Q ms → (∀ k, k < 48 → inR 48 (og k)) → ax_A (ax_step L xs) ((158, 2, fr, lo), [(0, .ref s0), (1, .int (nI fi)), (2, .int (nI k))], [], h) (fun r h' => r = none ∧ ∃ og2 : Nat → Int32, AS s0 n nn gg C f q u b h0 h' (va_up E 0 og2) TK Q ms ∧ (∀ k, k < 48 → inR 48 (og2 k)) ∧ og2 = srF (E 62) (E 61) fi k og) := by
    intro k
    induction k with
    | zero =>
      intro h og hk hS ho
      obtain ⟨hF, hA, hN, hf, hn, hs, hp0⟩ := hS
      replace hF : ax_hs h [cSt s0 n (va_up E 0 og), cRk n nn gg C, cOr n nn gg f, cAs n (va_up E 0 og), cEr n 5 512 (va_up E 0 og), cEr n 6 100 (va_up E 0 og), cEr n 7 2 (va_up E 0 og), cAk n, cEr n 9 512 (va_up E 0 og), cNa n nn, cEr n 0 48 (va_up E 0 og), cEr n 1 961 (va_up E 0 og), cTs n gg (va_up E 0 og) TK, cEr n 59 48 (va_up E 0 og), cEr n 60 48 (va_up E 0 og), cEr n 61 48 (va_up E 0 og), cEr n 62 2400 (va_up E 0 og), cEr n 63 512 (va_up E 0 og), cEr n 64 961 (va_up E 0 og), cEr n 65 961 (va_up E 0 og)] := hF
      refine ar_iload_n 3 d_158_2 rfl rfl ?_
      refine ar_if_le 45 6 d_158_3 (by decide) rfl (fun _ => ?_) (fun c => absurd (Int32.le_refl _) c)
      refine ar_aload_n 46 d_158_45 rfl rfl ?_
      refine ar_getf 49 d_158_46 rfl (ci := 0) (k := 5) rfl (hF.at 0 rfl) rfl ?_
      refine ar_iload_n 50 d_158_49 rfl rfl ?_
      refine ar_iload_n 51 d_158_50 rfl rfl ?_
      refine ar_iast 52 d_158_51 rfl (hF.at 10 rfl) (vin (i := 0) (by decide) (by decide)) ?_
      replace hF : ax_hs (ax_put h (n + 262) (.inl (0, 48, .inl (upd ((va_up E 0 og) 0) (nI 0).toNatClampNeg (nI fi))))) [cSt s0 n (va_up E 0 og), cRk n nn gg C, cOr n nn gg f, cAs n (va_up E 0 og), cEr n 5 512 (va_up E 0 og), cEr n 6 100 (va_up E 0 og), cEr n 7 2 (va_up E 0 og), cAk n, cEr n 9 512 (va_up E 0 og), cNa n nn, (n + 262, .inl (0, 48, .inl (upd ((va_up E 0 og) 0) (nI 0).toNatClampNeg (nI fi)))), cEr n 1 961 (va_up E 0 og), cTs n gg (va_up E 0 og) TK, cEr n 59 48 (va_up E 0 og), cEr n 60 48 (va_up E 0 og), cEr n 61 48 (va_up E 0 og), cEr n 62 2400 (va_up E 0 og), cEr n 63 512 (va_up E 0 og), cEr n 64 961 (va_up E 0 og), cEr n 65 961 (va_up E 0 og)] := hF.put 10 _ rfl rfl
      replace hf := hf.put (a := n + 262) (c := .inl (0, 48, .inl (upd ((va_up E 0 og) 0) (nI 0).toNatClampNeg (nI fi)))) (Or.inr (by omega))
      replace hN := hN.put (a := n + 262) (c := .inl (0, 48, .inl (upd ((va_up E 0 og) 0) (nI 0).toNatClampNeg (nI fi)))) (by omega)
      replace hA := hA.put (a := n + 262) (c := .inl (0, 48, .inl (upd ((va_up E 0 og) 0) (nI 0).toNatClampNeg (nI fi)))) (by omega)
      replace hn : (ax_put h (n + 262) (.inl (0, 48, .inl (upd ((va_up E 0 og) 0) (nI 0).toNatClampNeg (nI fi))))).1 = h0.1 := hn
      replace hs : (ax_put h (n + 262) (.inl (0, 48, .inl (upd ((va_up E 0 og) 0) (nI 0).toNatClampNeg (nI fi))))).2.1 = h0.2.1 := hs
      generalize ax_put h (n + 262) (.inl (0, 48, .inl (upd ((va_up E 0 og) 0) (nI 0).toNatClampNeg (nI fi)))) = hp_1 at hF hf hA hN hn hs ⊢
      replace hF : ax_hs hp_1 [cSt s0 n (va_up E 0 og), cRk n nn gg C, cOr n nn gg f, cAs n (va_up E 0 og), cEr n 5 512 (va_up E 0 og), cEr n 6 100 (va_up E 0 og), cEr n 7 2 (va_up E 0 og), cAk n, cEr n 9 512 (va_up E 0 og), cNa n nn, (n + 262, .inl (0, 48, .inl (upd og 0 (nI fi)))), cEr n 1 961 (va_up E 0 og), cTs n gg (va_up E 0 og) TK, cEr n 59 48 (va_up E 0 og), cEr n 60 48 (va_up E 0 og), cEr n 61 48 (va_up E 0 og), cEr n 62 2400 (va_up E 0 og), cEr n 63 512 (va_up E 0 og), cEr n 64 961 (va_up E 0 og), cEr n 65 961 (va_up E 0 og)] := by
        have e := hF
        rw [nI_clamp (show 0 < 2 ^ 31 by omega)] at e
        exact e
      have hS9 : AS s0 n nn gg C f q u b h0 hp_1 (va_up E 0 (upd og 0 (nI fi))) TK Q ms := ⟨hF, hA, hN, hf, hn, hs, hp0⟩
      exact ar_ret d_158_52 rfl (⟨rfl, _, hS9, fun x hx => by
        by_cases e : x = 0
        · subst e; rw [upd_s]; exact ⟨fi, hfi, rfl⟩
        · rw [pk_un e]; exact ho x hx, rfl⟩)
    | succ k ih =>
      intro h og hk hS ho
      obtain ⟨p, hp, ep⟩ := ho k (by omega)
      obtain ⟨hF, hA, hN, hf, hn, hs, hp0⟩ := hS
      replace hF : ax_hs h [cSt s0 n (va_up E 0 og), cRk n nn gg C, cOr n nn gg f, cAs n (va_up E 0 og), cEr n 5 512 (va_up E 0 og), cEr n 6 100 (va_up E 0 og), cEr n 7 2 (va_up E 0 og), cAk n, cEr n 9 512 (va_up E 0 og), cNa n nn, cEr n 0 48 (va_up E 0 og), cEr n 1 961 (va_up E 0 og), cTs n gg (va_up E 0 og) TK, cEr n 59 48 (va_up E 0 og), cEr n 60 48 (va_up E 0 og), cEr n 61 48 (va_up E 0 og), cEr n 62 2400 (va_up E 0 og), cEr n 63 512 (va_up E 0 og), cEr n 64 961 (va_up E 0 og), cEr n 65 961 (va_up E 0 og)] := hF
      refine ar_iload_n 3 d_158_2 rfl rfl ?_
      refine ar_if_le 45 6 d_158_3 (by decide) rfl (fun c => absurd c (fun z => absurd ((nI_leI (b := 0) (by omega) (by decide)).mp z) (by omega))) (fun _ => ?_)
      refine ar_aload_n 7 d_158_6 rfl rfl ?_
      refine ar_getf 10 d_158_7 rfl (ci := 0) (k := 4) rfl (hF.at 0 rfl) rfl ?_
      refine ar_iload_n 11 d_158_10 rfl rfl ?_
      refine ar_aload_n 12 d_158_11 rfl rfl ?_
      refine ar_getf 15 d_158_12 rfl (ci := 0) (k := 5) rfl (hF.at 0 rfl) rfl ?_
      refine ar_iload_n 16 d_158_15 rfl rfl ?_
      refine ar_iconst 17 (v := 1) d_158_16 rfl (by decide) ?_
      refine ar_isub 18 d_158_17 rfl ?_
      refine ar_top (x' := nI k) (nI_s1 k) ?_
      refine ar_iald 19 d_158_18 rfl (hF.at 10 rfl) (vin (by omega) (by omega)) ?_
      refine ar_top (x' := nI p) (by rw [nI_clamp (show k < 2 ^ 31 by omega)]; exact ep) ?_
      refine ar_call (r := []) (na := 0) (kd := 0) (cm := 159) (fr2 := fr - 1) (lo2 := lo - 22) 22 d_158_19 (ar_hoV (as := [.int (nI fi), .int (nI p)]) rfl rfl rfl (hF.at 12 rfl)) rfl (by omega) (show lo - 22 + (19 + 3) = lo by omega) (Nat.le_of_ble_eq_true rfl) (Nat.le_of_ble_eq_true rfl) (c_159 (by omega) (by omega) hfi hp (hF.at 12 rfl) (hF.at 15 rfl) (hF.at 16 rfl)) ?_
      intro v hh hq
      obtain ⟨rfl, ehh⟩ := hq
      rw [ehh]
      clear ehh
      refine ar_if_ge 45 25 d_158_22 (by decide) rfl (fun c1 => ?_) (fun c1 => ?_)
      · refine ar_aload_n 46 d_158_45 rfl rfl ?_
        refine ar_getf 49 d_158_46 rfl (ci := 0) (k := 5) rfl (hF.at 0 rfl) rfl ?_
        refine ar_iload_n 50 d_158_49 rfl rfl ?_
        refine ar_iload_n 51 d_158_50 rfl rfl ?_
        refine ar_iast 52 d_158_51 rfl (hF.at 10 rfl) (vin (by omega) (by omega)) ?_
        replace hF : ax_hs (ax_put h (n + 262) (.inl (0, 48, .inl (upd ((va_up E 0 og) 0) (nI (k + 1)).toNatClampNeg (nI fi))))) [cSt s0 n (va_up E 0 og), cRk n nn gg C, cOr n nn gg f, cAs n (va_up E 0 og), cEr n 5 512 (va_up E 0 og), cEr n 6 100 (va_up E 0 og), cEr n 7 2 (va_up E 0 og), cAk n, cEr n 9 512 (va_up E 0 og), cNa n nn, (n + 262, .inl (0, 48, .inl (upd ((va_up E 0 og) 0) (nI (k + 1)).toNatClampNeg (nI fi)))), cEr n 1 961 (va_up E 0 og), cTs n gg (va_up E 0 og) TK, cEr n 59 48 (va_up E 0 og), cEr n 60 48 (va_up E 0 og), cEr n 61 48 (va_up E 0 og), cEr n 62 2400 (va_up E 0 og), cEr n 63 512 (va_up E 0 og), cEr n 64 961 (va_up E 0 og), cEr n 65 961 (va_up E 0 og)] := hF.put 10 _ rfl rfl
        replace hf := hf.put (a := n + 262) (c := .inl (0, 48, .inl (upd ((va_up E 0 og) 0) (nI (k + 1)).toNatClampNeg (nI fi)))) (Or.inr (by omega))
        replace hN := hN.put (a := n + 262) (c := .inl (0, 48, .inl (upd ((va_up E 0 og) 0) (nI (k + 1)).toNatClampNeg (nI fi)))) (by omega)
        replace hA := hA.put (a := n + 262) (c := .inl (0, 48, .inl (upd ((va_up E 0 og) 0) (nI (k + 1)).toNatClampNeg (nI fi)))) (by omega)
        replace hn : (ax_put h (n + 262) (.inl (0, 48, .inl (upd ((va_up E 0 og) 0) (nI (k + 1)).toNatClampNeg (nI fi))))).1 = h0.1 := hn
        replace hs : (ax_put h (n + 262) (.inl (0, 48, .inl (upd ((va_up E 0 og) 0) (nI (k + 1)).toNatClampNeg (nI fi))))).2.1 = h0.2.1 := hs
        generalize ax_put h (n + 262) (.inl (0, 48, .inl (upd ((va_up E 0 og) 0) (nI (k + 1)).toNatClampNeg (nI fi)))) = hp_2 at hF hf hA hN hn hs ⊢
        replace hF : ax_hs hp_2 [cSt s0 n (va_up E 0 og), cRk n nn gg C, cOr n nn gg f, cAs n (va_up E 0 og), cEr n 5 512 (va_up E 0 og), cEr n 6 100 (va_up E 0 og), cEr n 7 2 (va_up E 0 og), cAk n, cEr n 9 512 (va_up E 0 og), cNa n nn, (n + 262, .inl (0, 48, .inl (upd og (k + 1) (nI fi)))), cEr n 1 961 (va_up E 0 og), cTs n gg (va_up E 0 og) TK, cEr n 59 48 (va_up E 0 og), cEr n 60 48 (va_up E 0 og), cEr n 61 48 (va_up E 0 og), cEr n 62 2400 (va_up E 0 og), cEr n 63 512 (va_up E 0 og), cEr n 64 961 (va_up E 0 og), cEr n 65 961 (va_up E 0 og)] := by
          have e := hF
          rw [nI_clamp (show (k + 1) < 2 ^ 31 by omega)] at e
          exact e
        have hS9 : AS s0 n nn gg C f q u b h0 hp_2 (va_up E 0 (upd og (k + 1) (nI fi))) TK Q ms := ⟨hF, hA, hN, hf, hn, hs, hp0⟩
        exact ar_ret d_158_52 rfl (⟨rfl, _, hS9, fun x hx => by
          by_cases e : x = (k + 1)
          · subst e; rw [upd_s]; exact ⟨fi, hfi, rfl⟩
          · rw [pk_un e]; exact ho x hx, eq_ifT (by rw [ep, nI_clamp (by omega)]; exact c1) rfl⟩)
      · refine ar_aload_n 26 d_158_25 rfl rfl ?_
        refine ar_getf 29 d_158_26 rfl (ci := 0) (k := 5) rfl (hF.at 0 rfl) rfl ?_
        refine ar_iload_n 30 d_158_29 rfl rfl ?_
        refine ar_aload_n 31 d_158_30 rfl rfl ?_
        refine ar_getf 34 d_158_31 rfl (ci := 0) (k := 5) rfl (hF.at 0 rfl) rfl ?_
        refine ar_iload_n 35 d_158_34 rfl rfl ?_
        refine ar_iconst 36 (v := 1) d_158_35 rfl (by decide) ?_
        refine ar_isub 37 d_158_36 rfl ?_
        refine ar_top (x' := nI k) (nI_s1 k) ?_
        refine ar_iald 38 d_158_37 rfl (hF.at 10 rfl) (vin (by omega) (by omega)) ?_
        refine ar_top (x' := nI p) (by rw [nI_clamp (show k < 2 ^ 31 by omega)]; exact ep) ?_
        refine ar_iast 39 d_158_38 rfl (hF.at 10 rfl) (vin (by omega) (by omega)) ?_
        replace hF : ax_hs (ax_put h (n + 262) (.inl (0, 48, .inl (upd ((va_up E 0 og) 0) (nI (k + 1)).toNatClampNeg (nI p))))) [cSt s0 n (va_up E 0 og), cRk n nn gg C, cOr n nn gg f, cAs n (va_up E 0 og), cEr n 5 512 (va_up E 0 og), cEr n 6 100 (va_up E 0 og), cEr n 7 2 (va_up E 0 og), cAk n, cEr n 9 512 (va_up E 0 og), cNa n nn, (n + 262, .inl (0, 48, .inl (upd ((va_up E 0 og) 0) (nI (k + 1)).toNatClampNeg (nI p)))), cEr n 1 961 (va_up E 0 og), cTs n gg (va_up E 0 og) TK, cEr n 59 48 (va_up E 0 og), cEr n 60 48 (va_up E 0 og), cEr n 61 48 (va_up E 0 og), cEr n 62 2400 (va_up E 0 og), cEr n 63 512 (va_up E 0 og), cEr n 64 961 (va_up E 0 og), cEr n 65 961 (va_up E 0 og)] := hF.put 10 _ rfl rfl
        replace hf := hf.put (a := n + 262) (c := .inl (0, 48, .inl (upd ((va_up E 0 og) 0) (nI (k + 1)).toNatClampNeg (nI p)))) (Or.inr (by omega))
        replace hN := hN.put (a := n + 262) (c := .inl (0, 48, .inl (upd ((va_up E 0 og) 0) (nI (k + 1)).toNatClampNeg (nI p)))) (by omega)
        replace hA := hA.put (a := n + 262) (c := .inl (0, 48, .inl (upd ((va_up E 0 og) 0) (nI (k + 1)).toNatClampNeg (nI p)))) (by omega)
        replace hn : (ax_put h (n + 262) (.inl (0, 48, .inl (upd ((va_up E 0 og) 0) (nI (k + 1)).toNatClampNeg (nI p))))).1 = h0.1 := hn
        replace hs : (ax_put h (n + 262) (.inl (0, 48, .inl (upd ((va_up E 0 og) 0) (nI (k + 1)).toNatClampNeg (nI p))))).2.1 = h0.2.1 := hs
        generalize ax_put h (n + 262) (.inl (0, 48, .inl (upd ((va_up E 0 og) 0) (nI (k + 1)).toNatClampNeg (nI p)))) = hp_3 at hF hf hA hN hn hs ⊢
        refine ar_iinc 42 [(0, .ref s0), (1, .int (nI fi)), (2, .int (nI k))] d_158_39 rfl rfl (nI_m1 k) (by decide) rfl ?_
        refine ar_goto 2 d_158_42 (by decide) ?_
        replace hF : ax_hs hp_3 [cSt s0 n (va_up E 0 og), cRk n nn gg C, cOr n nn gg f, cAs n (va_up E 0 og), cEr n 5 512 (va_up E 0 og), cEr n 6 100 (va_up E 0 og), cEr n 7 2 (va_up E 0 og), cAk n, cEr n 9 512 (va_up E 0 og), cNa n nn, (n + 262, .inl (0, 48, .inl (upd og (k + 1) (nI p)))), cEr n 1 961 (va_up E 0 og), cTs n gg (va_up E 0 og) TK, cEr n 59 48 (va_up E 0 og), cEr n 60 48 (va_up E 0 og), cEr n 61 48 (va_up E 0 og), cEr n 62 2400 (va_up E 0 og), cEr n 63 512 (va_up E 0 og), cEr n 64 961 (va_up E 0 og), cEr n 65 961 (va_up E 0 og)] := by
          have e := hF
          rw [nI_clamp (show k + 1 < 2 ^ 31 by omega)] at e
          exact e
        have hS9 : AS s0 n nn gg C f q u b h0 hp_3 (va_up E 0 (upd og (k + 1) (nI p))) TK Q ms := ⟨hF, hA, hN, hf, hn, hs, hp0⟩
        rw [← show srF (E 62) (E 61) fi k (upd og (k + 1) (nI p)) = srF (E 62) (E 61) fi (k + 1) og from eq_ifF (by rw [ep, nI_clamp (by omega)]; exact c1) (by rw [ep])]
        exact ih hp_3 _ (by omega) hS9 (fun x hx => by
          by_cases e : x = k + 1
          · subst e; rw [upd_s]; exact ⟨p, hp, rfl⟩
          · rw [pk_un e]; exact ho x hx)
  show ax_A (ax_step L xs) ((158, 0, fr, lo), [(0, .ref s0), (1, .int (nI fi))], [], h) _
  refine ar_iload_n 1 d_158_0 rfl rfl ?_
  refine ar_istore_n 2 [(0, .ref s0), (1, .int (nI fi)), (2, .int (nI fi))] d_158_1 rfl (by decide) rfl ?_
  have hS9 : AS s0 n nn gg C f q u b h0 h (va_up E 0 (E 0)) TK Q ms := by
    have e : va_up E 0 (E 0) = E := va_up_sf
    rw [e]
    exact hS
  exact key fi h (E 0) (Nat.le_refl _) hS9 ho
theorem farL {F : List (Nat × va_E)} {s0 n : Nat} (e : F.map (·.1) = EWa s0 n) (hsn : s0 < n) : ∀ p ∈ F, p.1 < n + 329 := by
  intro p hp
  have h1 : p.1 ∈ F.map (·.1) := List.mem_map_of_mem hp
  rw [e] at h1
  unfold EWa at h1
  simp only [List.mem_cons, List.not_mem_nil, or_false] at h1
  omega
theorem ax_hs.ncell {h : ax_H} {F : List (Nat × va_E)} {n a : Nat} {c : va_E} (hF : ax_hs h F) (hfar : ∀ p ∈ F, p.1 < n + 329) (ha : n + 329 ≤ a) (g : ax_g h a = some c) : ax_hs h ((a, c) :: F) := ax_hs.cons g hF (fun q hq e => by
  have := hfar q hq
  omega)
/-- the leader is a NODE, or there is none -/
theorem nof_nd {nn : Nat} {f : Nat → Int32} {r st : Int32} (hR : Rg nn f) : ∀ (k i : Nat) (b : Int32), nof f r st k i b = -1 ∨ ∃ j : Nat, j < nn ∧ nof f r st k i b = nI j := by
  intro k
  induction k with
  | zero => intro i b; exact Or.inl rfl
  | succ k ih =>
    intro i b
    obtain ⟨v, hv, e⟩ := hR i
    unfold nof
    split
    · exact ih _ _
    · split
      · exact Or.inr ⟨v, hv, e⟩
      · exact ih _ _
/-- isDone -/
def dnP (nn gg : Nat) (f : Nat → Int32) (S : SS) : Prop := ¬ S.1 4 9 < S.1 4 8 ∧ S.1 4 15 = S.1 4 14 ∧ S.2.2.1 = [] ∧ (∀ i, i < nn → S.2.2.2.1 i 1 4 ≤ 0) ∧ ∃ j : Nat, j < nn ∧ nof f 0 (S.1 4 14) nn 0 0 = nI j ∧ ¬ icB nn gg (S.2.2.2.1 j) (S.2.2.2.2.1 j) = 0
set_option maxRecDepth 100000 in
theorem g_151 {L : Nat} {xs : Nat → Int32} {fr lo : Nat} {s0 n nn gg : Nat} {C : Int32} {f : Nat → Int32} {q : Nat} {u b : Nat → Int32} {h0 h : ax_H} {Z : ZT} {D : Nat → Nat → Nat → Int32} {K A : Nat → Int64} {E : Nat → Nat → Int32} {TK : Int64} {Q : Nat → Mg} {ms : List Mg}  (hfr : 3 ≤ fr) (hlo : 120 ≤ lo) (hC : CG s0 n nn gg f) (hG : GS Z s0 n nn gg C f q u b h0 h E TK Q ms D K A) : ax_M L xs 151 fr lo [.ref s0] h (fun r h' => ∃ y : Int32, r = some (.int y) ∧ ((y = 0 ∧ ¬ dnP nn gg f (E, Q, ms, D, K, A)) ∨ (y = 1 ∧ dnP nn gg f (E, Q, ms, D, K, A))) ∧ h' = h) := by
  have hC0 := hC
  obtain ⟨hs0, hsn, hnn3, hnn, hgg1, hgg, hRg⟩ := hC
  have key : ∀ (k i : Nat), i + k = nn → ¬ E 4 9 < E 4 8 → E 4 15 = E 4 14 → ms = [] → (∀ j, j < i → D j 1 4 ≤ 0) → ax_A (ax_step L xs) ((151, 48, fr, lo), [(0, .ref s0), (1, .int (nI i))], [], h) (fun r h' => ∃ y : Int32, r = some (.int y) ∧ ((y = 0 ∧ ¬ dnP nn gg f (E, Q, ms, D, K, A)) ∨ (y = 1 ∧ dnP nn gg f (E, Q, ms, D, K, A))) ∧ h' = h) := by
    intro k
    induction k with
    | zero =>
      intro i hi hd hd2 hd3 hd4
      have e0 : nn = i := by omega
      subst e0
      have hGG := hG
      obtain ⟨hS, hG0, hM, hE, hK, hz⟩ := hG
      have hM0 := hM
      obtain ⟨hF, hA, hN, hf, hn, hs, hp0⟩ := hS
      replace hF : ax_hs h [cSt s0 n E, cRk n nn gg C, cOr n nn gg f, cAs n E, cEr n 5 512 E, cEr n 6 100 E, cEr n 7 2 E, cAk n, cEr n 9 512 E, cNa n nn, cEr n 0 48 E, cEr n 1 961 E, cTs n gg E TK, cEr n 59 48 E, cEr n 60 48 E, cEr n 61 48 E, cEr n 62 2400 E, cEr n 63 512 E, cEr n 64 961 E, cEr n 65 961 E] := hF
      refine ar_iload_n 49 d_151_48 rfl rfl ?_
      refine ar_aload_n 50 d_151_49 rfl rfl ?_
      refine ar_getf 53 d_151_50 rfl (ci := 0) (k := 3) rfl (hF.at 0 rfl) rfl ?_
      refine ar_alen 54 d_151_53 rfl (hF.at 9 rfl) (by decide) ?_
      refine ar_icmp_ge 80 57 d_151_54 (by decide) rfl (fun _ => ?_) (fun c => absurd (Int32.le_refl _) c)
      refine ar_aload_n 81 d_151_80 rfl rfl ?_
      refine ar_getf 84 d_151_81 rfl (ci := 0) (k := 0) rfl (hF.at 0 rfl) rfl ?_
      refine ar_iconst 85 (v := 0) d_151_84 rfl (by decide) ?_
      refine ar_iconst 86 (v := 0) d_151_85 rfl (by decide) ?_
      refine ar_aload_n 87 d_151_86 rfl rfl ?_
      refine ar_getf 90 d_151_87 rfl (ci := 0) (k := 2) rfl (hF.at 0 rfl) rfl ?_
      refine ar_getf 93 d_151_90 rfl (ci := 4) (k := 14) rfl (hF.at 3 rfl) rfl ?_
      refine ar_call (r := []) (na := 0) (kd := 0) (cm := 31) (fr2 := fr - 1) (lo2 := lo - 26) 96 d_151_93 (ar_hoV (as := [.int 0, .int 0, .int (E 4 14)]) rfl rfl rfl (hF.at 1 rfl)) rfl (by omega) (show lo - 26 + (19 + 7) = lo by omega) (Nat.le_of_ble_eq_true rfl) (Nat.le_of_ble_eq_true rfl) (c_31 hgg hnn (g := 0) (by omega) (hF.sub (F' := [cRk n nn gg C, cOr n nn gg f]) [1, 2] rfl rfl)) ?_
      intro v hh hq
      obtain ⟨rfl, ehh⟩ := hq
      rw [ehh]
      clear ehh
      refine ar_top (x' := nof f 0 (E 4 14) nn 0 0) (by rw [Nat.zero_mul]) ?_
      refine ar_istore_n 97 [(0, .ref s0), (1, .int (nof f 0 (E 4 14) nn 0 0))] d_151_96 rfl (by decide) rfl ?_
      refine ar_iload_n 98 d_151_97 rfl rfl ?_
      refine ar_if_lt 120 101 d_151_98 (by decide) rfl (fun c1 => ?_) (fun c1 => ?_)
      · refine ar_iconst 121 (v := 0) d_151_120 rfl (by decide) ?_
        exact ar_iret d_151_121 rfl rfl (⟨_, rfl, Or.inl ⟨rfl, fun z => by obtain ⟨-, -, -, -, j, hj, ej, -⟩ := z; rw [show nof f 0 (E 4 14) nn 0 0 = nI j from ej] at c1; exact nI_pos (by omega) c1⟩, rfl⟩)
      · obtain ⟨j, hj, ej⟩ : ∃ j : Nat, j < nn ∧ nof f 0 (E 4 14) nn 0 0 = nI j := (nof_nd hRg nn 0 0).resolve_left (fun z => c1 (by rw [z]; decide))
        refine ar_aload_n 102 d_151_101 rfl rfl ?_
        refine ar_getf 105 d_151_102 rfl (ci := 0) (k := 3) rfl (hF.at 0 rfl) rfl ?_
        refine ar_iload_n 106 d_151_105 rfl rfl ?_
        refine ar_top (x' := nI j) (ej) ?_
        refine ar_aald 107 d_151_106 rfl (hF.at 9 rfl) rfl (vin hj (by omega)) ?_
        refine ar_tv (v' := .ref (n + 329 + 22 * j)) (ndr hnn hj) ?_
        refine ar_getf 110 d_151_107 rfl (ci := 7) (k := 4) rfl (hf.g ((hG0 j hj).1.at 0 rfl) (by unfold ASA NTA; omega)) rfl ?_
        refine ar_call (r := []) (na := 0) (kd := 0) (cm := 152) (fr2 := fr - 1) (lo2 := lo - 21) 113 d_151_110 (ar_hoV (as := []) rfl rfl rfl (hf.g ((hG0 j hj).1.at 7 rfl) (by unfold ASA NTA; omega))) rfl (by omega) (show lo - 21 + (19 + 2) = lo by omega) (Nat.le_of_ble_eq_true rfl) (Nat.le_of_ble_eq_true rfl) (s_152 (by omega) (by omega) hC0.cs (hGG.ns hj) (hGG.2.1 j hj).2.1) ?_
        intro v hh hq
        obtain ⟨y, rfl, hy, ehh⟩ := hq
        rw [ehh]
        clear ehh
        refine ar_if_eq 120 116 d_151_113 (by decide) rfl (fun c2 => ?_) (fun c2 => ?_)
        · refine ar_iconst 121 (v := 0) d_151_120 rfl (by decide) ?_
          exact ar_iret d_151_121 rfl rfl (⟨_, rfl, Or.inl ⟨rfl, fun z => by obtain ⟨-, -, -, -, j2, hj2, ej2, h9⟩ := z; have e9 : j2 = j := nI_inj (by omega) (by omega) (ej2.symm.trans ej); subst e9; exact h9 (hy.symm.trans c2)⟩, rfl⟩)
        · refine ar_iconst 117 (v := 1) d_151_116 rfl (by decide) ?_
          refine ar_goto 121 d_151_117 (by decide) ?_
          exact ar_iret d_151_121 rfl rfl (⟨_, rfl, Or.inr ⟨rfl, hd, hd2, hd3, hd4, j, hj, ej, fun z => c2 (hy.trans z)⟩, rfl⟩)
    | succ k ih =>
      intro i hi hd hd2 hd3 hd4
      have hic : i < nn := by omega
      have hGG := hG
      obtain ⟨hS, hG0, hM, hE, hK, hz⟩ := hG
      have hM0 := hM
      obtain ⟨hF, hA, hN, hf, hn, hs, hp0⟩ := hS
      replace hF : ax_hs h [cSt s0 n E, cRk n nn gg C, cOr n nn gg f, cAs n E, cEr n 5 512 E, cEr n 6 100 E, cEr n 7 2 E, cAk n, cEr n 9 512 E, cNa n nn, cEr n 0 48 E, cEr n 1 961 E, cTs n gg E TK, cEr n 59 48 E, cEr n 60 48 E, cEr n 61 48 E, cEr n 62 2400 E, cEr n 63 512 E, cEr n 64 961 E, cEr n 65 961 E] := hF
      refine ar_iload_n 49 d_151_48 rfl rfl ?_
      refine ar_aload_n 50 d_151_49 rfl rfl ?_
      refine ar_getf 53 d_151_50 rfl (ci := 0) (k := 3) rfl (hF.at 0 rfl) rfl ?_
      refine ar_alen 54 d_151_53 rfl (hF.at 9 rfl) (by decide) ?_
      refine ar_icmp_ge 80 57 d_151_54 (by decide) rfl (fun c => absurd c (nI_ge hic (by omega))) (fun _ => ?_)
      refine ar_aload_n 58 d_151_57 rfl rfl ?_
      refine ar_getf 61 d_151_58 rfl (ci := 0) (k := 3) rfl (hF.at 0 rfl) rfl ?_
      refine ar_iload_n 62 d_151_61 rfl rfl ?_
      refine ar_aald 63 d_151_62 rfl (hF.at 9 rfl) rfl (vin hic (by omega)) ?_
      refine ar_tv (v' := .ref (n + 329 + 22 * i)) (ndr hnn hic) ?_
      refine ar_getf 66 d_151_63 rfl (ci := 7) (k := 3) rfl (hf.g ((hG0 i hic).1.at 0 rfl) (by unfold ASA NTA; omega)) rfl ?_
      refine ar_getf 69 d_151_66 rfl (ci := 8) (k := 4) rfl (hf.g ((hG0 i hic).1.at 1 rfl) (by unfold ASA NTA; omega)) rfl ?_
      refine ar_if_le 74 72 d_151_69 (by decide) rfl (fun c1 => ?_) (fun c1 => ?_)
      · refine ar_iinc 77 [(0, .ref s0), (1, .int (nI (i + 1)))] d_151_74 rfl rfl (nI_1 i) (by decide) rfl ?_
        refine ar_goto 48 d_151_77 (by decide) ?_
        exact ih (i + 1) (by omega) hd hd2 hd3 (fun j hj => by
          by_cases e : j = i
          · rw [e]; exact c1
          · exact hd4 j (by omega))
      · refine ar_iconst 73 (v := 0) d_151_72 rfl (by decide) ?_
        exact ar_iret d_151_73 rfl rfl (⟨_, rfl, Or.inl ⟨rfl, fun z => c1 (z.2.2.2.1 i hic)⟩, rfl⟩)
  show ax_A (ax_step L xs) ((151, 0, fr, lo), [(0, .ref s0)], [], h) _
  have hGk := hG
  have hGG := hG
  obtain ⟨hS, hG0, hM, hE, hK, hz⟩ := hG
  have hM0 := hM
  obtain ⟨hF, hA, hN, hf, hn, hs, hp0⟩ := hS
  replace hF : ax_hs h [cSt s0 n E, cRk n nn gg C, cOr n nn gg f, cAs n E, cEr n 5 512 E, cEr n 6 100 E, cEr n 7 2 E, cAk n, cEr n 9 512 E, cNa n nn, cEr n 0 48 E, cEr n 1 961 E, cTs n gg E TK, cEr n 59 48 E, cEr n 60 48 E, cEr n 61 48 E, cEr n 62 2400 E, cEr n 63 512 E, cEr n 64 961 E, cEr n 65 961 E] := hF
  refine ar_aload_n 1 d_151_0 rfl rfl ?_
  refine ar_getf 4 d_151_1 rfl (ci := 0) (k := 2) rfl (hF.at 0 rfl) rfl ?_
  refine ar_getf 7 d_151_4 rfl (ci := 4) (k := 9) rfl (hF.at 3 rfl) rfl ?_
  refine ar_aload_n 8 d_151_7 rfl rfl ?_
  refine ar_getf 11 d_151_8 rfl (ci := 0) (k := 2) rfl (hF.at 0 rfl) rfl ?_
  refine ar_getf 14 d_151_11 rfl (ci := 4) (k := 8) rfl (hF.at 3 rfl) rfl ?_
  refine ar_icmp_lt 44 17 d_151_14 (by decide) rfl (fun c1 => ?_) (fun c1 => ?_)
  · refine ar_iconst 45 (v := 0) d_151_44 rfl (by decide) ?_
    exact ar_iret d_151_45 rfl rfl (⟨_, rfl, Or.inl ⟨rfl, fun z => z.1 c1⟩, rfl⟩)
  · refine ar_aload_n 18 d_151_17 rfl rfl ?_
    refine ar_getf 21 d_151_18 rfl (ci := 0) (k := 2) rfl (hF.at 0 rfl) rfl ?_
    refine ar_getf 24 d_151_21 rfl (ci := 4) (k := 15) rfl (hF.at 3 rfl) rfl ?_
    refine ar_aload_n 25 d_151_24 rfl rfl ?_
    refine ar_getf 28 d_151_25 rfl (ci := 0) (k := 2) rfl (hF.at 0 rfl) rfl ?_
    refine ar_getf 31 d_151_28 rfl (ci := 4) (k := 14) rfl (hF.at 3 rfl) rfl ?_
    refine ar_icmp_ne 44 34 d_151_31 (by decide) rfl (fun c2 => ?_) (fun c2 => ?_)
    · refine ar_iconst 45 (v := 0) d_151_44 rfl (by decide) ?_
      exact ar_iret d_151_45 rfl rfl (⟨_, rfl, Or.inl ⟨rfl, fun z => c2 z.2.1⟩, rfl⟩)
    · refine ar_aload_n 35 d_151_34 rfl rfl ?_
      refine ar_getf 38 d_151_35 rfl (ci := 0) (k := 1) rfl (hF.at 0 rfl) rfl ?_
      obtain ⟨hl128, za, zc, hnet⟩ := hN.netc
      refine ar_getf 41 d_151_38 rfl (ci := 1) (k := 1) rfl hnet rfl ?_
      refine ar_if_le 46 44 d_151_41 (by decide) rfl (fun c3 => ?_) (fun c3 => ?_)
      · refine ar_iconst 47 (v := 0) d_151_46 rfl (by decide) ?_
        refine ar_istore_n 48 [(0, .ref s0), (1, .int 0)] d_151_47 rfl (by decide) rfl ?_
        exact key nn 0 (by omega) c1 (Decidable.not_not.mp c2) (List.eq_nil_of_length_eq_zero (Nat.eq_zero_of_not_pos (fun z => nI_nle z (by omega) c3))) (fun j hj => absurd hj (by omega))
      · refine ar_iconst 45 (v := 0) d_151_44 rfl (by decide) ?_
        exact ar_iret d_151_45 rfl rfl (⟨_, rfl, Or.inl ⟨rfl, fun z => c3 (by rw [show ms = [] from z.2.2.1]; exact Int32.le_refl _)⟩, rfl⟩)

/-! the reference: told, file, where, onDisk, holds, audit, count, exactly -/
def rtlQ (M : Nat → Nat → Int32) (x i v : Int32) : Prop := (v = -2 ∧ (x < 0 ∨ x - M 0 37 < 0 ∨ M 0 38 ≤ x - M 0 37 ∨ ∃ w : Nat, x - M 0 37 = nI w ∧ w < 12 ∧ (i < 0 ∨ M 36 w ≤ i))) ∨ ∃ w iv : Nat, ¬ x < 0 ∧ x - M 0 37 = nI w ∧ w < 12 ∧ nI w < M 0 38 ∧ i = nI iv ∧ iv < 2049 ∧ nI iv < M 36 w ∧ v = M 35 (2048 * w + iv)
theorem r_209X {L : Nat} {xs : Nat → Int32} {fr lo : Nat} {m p al AL : Nat} {h0 h : ax_H} {M : Nat → Nat → Int32} {x y : Int32} (hfr : 0 ≤ fr) (hlo : 0 ≤ lo) (hC : RC m p al) (hS : RS m p al AL h0 h M) {tc : Nat} (e38 : M 0 38 = nI tc) (htc : tc ≤ 12) (h36 : ∀ x, x < 12 → inR 2049 (M 36 x)) : ax_M L xs 209 fr lo [.ref m, .int x, .int y] h (fun r h' => ∃ v : Int32, r = some (.int v) ∧ rtlQ M x y v ∧ RS m p al AL h0 h' M) := by
  have hC0 := hC
  show ax_A (ax_step L xs) ((209, 0, fr, lo), [(0, .ref m), (1, .int x), (2, .int y)], [], h) _
  obtain ⟨hmp, hal, hm0⟩ := hC
  obtain ⟨hF, hf, hn, hs, hp0⟩ := hS
  replace hF : ax_hs h [cRo m p al M, cRB p 2048 (M 8), cRB (p + 1) 400 (M 10), cRI (p + 2) 2 (M 11), cRI (p + 3) 48 (M 12), cRZ (p + 4) 48 (M 13), cRB (p + 5) 9600 (M 14), cRI (p + 6) 48 (M 15), cRI (p + 7) 48 (M 16), cRI (p + 8) 48 (M 17), cRB (p + 9) 393216 (M 18), cRZ (p + 10) 912 (M 19), cRI (p + 11) 12 (M 27), cRI (p + 12) 12 (M 28), cRI (p + 13) 12 (M 29), cRB (p + 14) 4800 (M 30), cRI (p + 15) 24 (M 31), cRB (p + 16) 24576 (M 32), cRI (p + 17) 12 (M 33), cRI al AL (M 34), cRI (p + 19) 24576 (M 35), cRI (p + 20) 12 (M 36)] := hF
  refine ar_iload_n 1 d_209_0 rfl rfl ?_
  refine ar_aload_n 2 d_209_1 rfl rfl ?_
  refine ar_getf 5 d_209_2 rfl (ci := 11) (k := 37) rfl (hF.at 0 rfl) (show _ = some (.int ((M 0) 37)) from rfl) ?_
  refine ar_isub 6 d_209_5 rfl ?_
  refine ar_istore_n 7 [(0, .ref m), (1, .int x), (2, .int y), (3, .int (x - ((M 0) 37)))] d_209_6 rfl (by decide) rfl ?_
  refine ar_iload_n 8 d_209_7 rfl rfl ?_
  refine ar_if_lt 37 11 d_209_8 (by decide) rfl (fun c1 => ?_) (fun c1 => ?_)
  · refine ar_bipush 39 (v := -2) d_209_37 rfl (by decide) ?_
    have hS9 : RS m p al AL h0 h M := ⟨hF, hf, hn, hs, hp0⟩
    exact ar_iret d_209_39 rfl rfl (⟨_, rfl, Or.inl ⟨rfl, Or.inl c1⟩, hS9⟩)
  · obtain ⟨o, ho, rfl⟩ := natOf c1
    refine ar_iload_n 12 d_209_11 rfl rfl ?_
    refine ar_if_lt 37 15 d_209_12 (by decide) rfl (fun c2 => ?_) (fun c2 => ?_)
    · refine ar_bipush 39 (v := -2) d_209_37 rfl (by decide) ?_
      have hS9 : RS m p al AL h0 h M := ⟨hF, hf, hn, hs, hp0⟩
      exact ar_iret d_209_39 rfl rfl (⟨_, rfl, Or.inl ⟨rfl, Or.inr (Or.inl c2)⟩, hS9⟩)
    · refine ar_iload_n 16 d_209_15 rfl rfl ?_
      refine ar_aload_n 17 d_209_16 rfl rfl ?_
      refine ar_getf 20 d_209_17 rfl (ci := 11) (k := 38) rfl (hF.at 0 rfl) (show _ = some (.int ((M 0) 38)) from rfl) ?_
      refine ar_icmp_ge 37 23 d_209_20 (by decide) rfl (fun c3 => ?_) (fun c3 => ?_)
      · refine ar_bipush 39 (v := -2) d_209_37 rfl (by decide) ?_
        have hS9 : RS m p al AL h0 h M := ⟨hF, hf, hn, hs, hp0⟩
        exact ar_iret d_209_39 rfl rfl (⟨_, rfl, Or.inl ⟨rfl, Or.inr (Or.inr (Or.inl c3))⟩, hS9⟩)
      · obtain ⟨wv, hwv, ewv⟩ := natLt c2 (show tc < 2 ^ 31 by omega) (by rw [← e38]; exact Int32.not_le.mp c3)
        rw [ewv]
        refine ar_iload_n 24 d_209_23 rfl rfl ?_
        refine ar_if_lt 37 27 d_209_24 (by decide) rfl (fun c4 => ?_) (fun c4 => ?_)
        · refine ar_bipush 39 (v := -2) d_209_37 rfl (by decide) ?_
          have hS9 : RS m p al AL h0 h M := ⟨hF, hf, hn, hs, hp0⟩
          exact ar_iret d_209_39 rfl rfl (⟨_, rfl, Or.inl ⟨rfl, Or.inr (Or.inr (Or.inr ⟨wv, ewv, by omega, Or.inl c4⟩))⟩, hS9⟩)
        · obtain ⟨tl, htl, etl⟩ := h36 wv (by omega)
          refine ar_iload_n 28 d_209_27 rfl rfl ?_
          refine ar_aload_n 29 d_209_28 rfl rfl ?_
          refine ar_getf 32 d_209_29 rfl (ci := 11) (k := 36) rfl (hF.at 0 rfl) (show _ = some (.ref (p + 20)) from rfl) ?_
          refine ar_iload_n 33 d_209_32 rfl rfl ?_
          refine ar_iald 34 d_209_33 rfl (hF.at 21 rfl) (vin (by omega) (by omega)) ?_
          refine ar_top (x' := nI tl) (by rw [nI_clamp (show wv < 2 ^ 31 by omega)]; exact etl) ?_
          refine ar_icmp_lt 40 37 d_209_34 (by decide) rfl (fun c5 => ?_) (fun c5 => ?_)
          · obtain ⟨iv, hiv, rfl⟩ := natLt c4 (show tl < 2 ^ 31 by omega) c5
            refine ar_aload_n 41 d_209_40 rfl rfl ?_
            refine ar_getf 44 d_209_41 rfl (ci := 11) (k := 35) rfl (hF.at 0 rfl) (show _ = some (.ref (p + 19)) from rfl) ?_
            refine ar_sipush 47 (v := 2048) d_209_44 rfl (by decide) ?_
            refine ar_iload_n 48 d_209_47 rfl rfl ?_
            refine ar_imul 49 d_209_48 rfl ?_
            refine ar_top (x' := nI (2048 * wv)) (pk_mul 2048 wv) ?_
            refine ar_iload_n 50 d_209_49 rfl rfl ?_
            refine ar_iadd 51 d_209_50 rfl ?_
            refine ar_top (x' := nI (2048 * wv + iv)) (nI_add _ _) ?_
            refine ar_iald 52 d_209_51 rfl (hF.at 20 rfl) (vin (by omega) (by omega)) ?_
            have hS9 : RS m p al AL h0 h M := ⟨hF, hf, hn, hs, hp0⟩
            exact ar_iret d_209_52 rfl rfl (⟨_, rfl, Or.inr ⟨wv, iv, c1, ewv, by omega, by rw [← ewv]; exact Int32.not_le.mp c3, rfl, by omega, by rw [etl]; exact c5, by rw [nI_clamp (by omega)]⟩, hS9⟩)
          · refine ar_bipush 39 (v := -2) d_209_37 rfl (by decide) ?_
            have hS9 : RS m p al AL h0 h M := ⟨hF, hf, hn, hs, hp0⟩
            exact ar_iret d_209_39 rfl rfl (⟨_, rfl, Or.inl ⟨rfl, Or.inr (Or.inr (Or.inr ⟨wv, ewv, by omega, Or.inr (by rw [etl]; exact Int32.not_lt.mp c5)⟩))⟩, hS9⟩)
def rfiV (M : Nat → Nat → Int32) (x y : Int32) : Int32 := if y < 0 ∨ 3 < y then -1 else if M 0 7 = 0 then -6 else if x < 0 ∨ M 0 20 ≤ x then -2 else if y = 0 then M 17 (M 12 x.toNatClampNeg).toNatClampNeg else if y = 1 then M 16 (M 12 x.toNatClampNeg).toNatClampNeg else if y = 2 then M 15 (M 12 x.toNatClampNeg).toNatClampNeg else nI (strS (M 19) (19 * (M 12 x.toNatClampNeg).toNatClampNeg) 19 0 0)
theorem r_210X {L : Nat} {xs : Nat → Int32} {fr lo : Nat} {m p al AL : Nat} {h0 h : ax_H} {M : Nat → Nat → Int32} {x y : Int32} (hfr : 1 ≤ fr) (hlo : 40 ≤ lo) (hC : RC m p al) (hS : RS m p al AL h0 h M) (hFL : FLM M) : ax_M L xs 210 fr lo [.ref m, .int x, .int y] h (fun r h' => ∃ v : Int32, r = some (.int v) ∧ v = rfiV M x y ∧ RS m p al AL h0 h' M) := by
  have hC0 := hC
  show ax_A (ax_step L xs) ((210, 0, fr, lo), [(0, .ref m), (1, .int x), (2, .int y)], [], h) _
  obtain ⟨hmp, hal, hm0⟩ := hC
  obtain ⟨hF, hf, hn, hs, hp0⟩ := hS
  replace hF : ax_hs h [cRo m p al M, cRB p 2048 (M 8), cRB (p + 1) 400 (M 10), cRI (p + 2) 2 (M 11), cRI (p + 3) 48 (M 12), cRZ (p + 4) 48 (M 13), cRB (p + 5) 9600 (M 14), cRI (p + 6) 48 (M 15), cRI (p + 7) 48 (M 16), cRI (p + 8) 48 (M 17), cRB (p + 9) 393216 (M 18), cRZ (p + 10) 912 (M 19), cRI (p + 11) 12 (M 27), cRI (p + 12) 12 (M 28), cRI (p + 13) 12 (M 29), cRB (p + 14) 4800 (M 30), cRI (p + 15) 24 (M 31), cRB (p + 16) 24576 (M 32), cRI (p + 17) 12 (M 33), cRI al AL (M 34), cRI (p + 19) 24576 (M 35), cRI (p + 20) 12 (M 36)] := hF
  obtain ⟨c0, to, e20, e21, hI⟩ := hFL
  have hc48 := hI.1
  refine ar_iload_n 1 d_210_0 rfl rfl ?_
  refine ar_if_lt 9 4 d_210_1 (by decide) rfl (fun c1 => ?_) (fun c1 => ?_)
  · refine ar_iconst 10 (v := -1) d_210_9 rfl (by decide) ?_
    have hS9 : RS m p al AL h0 h M := ⟨hF, hf, hn, hs, hp0⟩
    exact ar_iret d_210_10 rfl rfl (⟨_, rfl, by unfold rfiV; rw [if_pos (Or.inl c1)], hS9⟩)
  · refine ar_iload_n 5 d_210_4 rfl rfl ?_
    refine ar_iconst 6 (v := 3) d_210_5 rfl (by decide) ?_
    refine ar_icmp_le 11 9 d_210_6 (by decide) rfl (fun c2 => ?_) (fun c2 => ?_)
    · refine ar_aload_n 12 d_210_11 rfl rfl ?_
      refine ar_getf 15 d_210_12 rfl (ci := 11) (k := 7) rfl (hF.at 0 rfl) (show _ = some (.int ((M 0) 7)) from rfl) ?_
      refine ar_if_ne 21 18 d_210_15 (by decide) rfl (fun c3 => ?_) (fun c3 => ?_)
      · refine ar_iload_n 22 d_210_21 rfl rfl ?_
        refine ar_if_lt 33 25 d_210_22 (by decide) rfl (fun c4 => ?_) (fun c4 => ?_)
        · refine ar_bipush 35 (v := -2) d_210_33 rfl (by decide) ?_
          have hS9 : RS m p al AL h0 h M := ⟨hF, hf, hn, hs, hp0⟩
          exact ar_iret d_210_35 rfl rfl (⟨_, rfl, by unfold rfiV; rw [if_neg (fun z => z.elim c1 (fun z => absurd c2 (Int32.not_le.mpr z))), if_neg c3, if_pos (Or.inl c4)], hS9⟩)
        · refine ar_iload_n 26 d_210_25 rfl rfl ?_
          refine ar_aload_n 27 d_210_26 rfl rfl ?_
          refine ar_getf 30 d_210_27 rfl (ci := 11) (k := 20) rfl (hF.at 0 rfl) (show _ = some (.int ((M 0) 20)) from rfl) ?_
          refine ar_top (x' := nI c0) (e20) ?_
          refine ar_icmp_lt 36 33 d_210_30 (by decide) rfl (fun c5 => ?_) (fun c5 => ?_)
          · obtain ⟨k, hk, rfl⟩ := natLt c4 (by omega) c5
            obtain ⟨hog1, hog2⟩ := hI.2.1 k hk
            have eog : M 12 k = nI (M 12 k).toNatClampNeg := nI_cl hog1
            generalize (M 12 k).toNatClampNeg = fi at hog2 eog
            refine ar_aload_n 37 d_210_36 rfl rfl ?_
            refine ar_getf 40 d_210_37 rfl (ci := 11) (k := 12) rfl (hF.at 0 rfl) (show _ = some (.ref (p + 3)) from rfl) ?_
            refine ar_iload_n 41 d_210_40 rfl rfl ?_
            refine ar_iald 42 d_210_41 rfl (hF.at 4 rfl) (vin (by omega) (by omega)) ?_
            refine ar_top (x' := nI fi) (by rw [nI_clamp (show k < 2 ^ 31 by omega)]; exact eog) ?_
            refine ar_istore_n 43 [(0, .ref m), (1, .int (nI k)), (2, .int y), (3, .int (nI fi))] d_210_42 rfl (by decide) rfl ?_
            refine ar_iload_n 44 d_210_43 rfl rfl ?_
            refine ar_if_ne 56 47 d_210_44 (by decide) rfl (fun c6 => ?_) (fun c6 => ?_)
            · refine ar_iload_n 57 d_210_56 rfl rfl ?_
              refine ar_iconst 58 (v := 1) d_210_57 rfl (by decide) ?_
              refine ar_icmp_ne 70 61 d_210_58 (by decide) rfl (fun c7 => ?_) (fun c7 => ?_)
              · refine ar_iload_n 71 d_210_70 rfl rfl ?_
                refine ar_iconst 72 (v := 2) d_210_71 rfl (by decide) ?_
                refine ar_icmp_ne 84 75 d_210_72 (by decide) rfl (fun c8 => ?_) (fun c8 => ?_)
                · refine ar_aload_n 85 d_210_84 rfl rfl ?_
                  refine ar_iload_n 86 d_210_85 rfl rfl ?_
                  refine ar_call (r := []) (na := 0) (kd := 0) (cm := 207) (fr2 := fr - 1) (lo2 := lo - 23) 89 d_210_86 (ar_hoV (as := [.int (nI fi)]) rfl rfl rfl (hF.at 0 rfl)) rfl (by omega) (show lo - 23 + (19 + 4) = lo by omega) (Nat.le_of_ble_eq_true rfl) (Nat.le_of_ble_eq_true rfl) (n_207 hog2 (hF.at 0 rfl) rfl (hF.at 11 rfl)) ?_
                  intro v hh hq
                  obtain ⟨rfl, ehh⟩ := hq
                  rw [ehh]
                  clear ehh
                  have hS9 : RS m p al AL h0 h M := ⟨hF, hf, hn, hs, hp0⟩
                  exact ar_iret d_210_89 rfl rfl (⟨_, rfl, by unfold rfiV; rw [if_neg (fun z => z.elim c1 (fun z => absurd c2 (Int32.not_le.mpr z))), if_neg c3, if_neg (fun z => z.elim c4 (fun z => absurd c5 (by rw [e20] at z; exact Int32.not_lt.mpr z))), nI_clamp (show k < 2 ^ 31 by omega), eog, nI_clamp (show fi < 2 ^ 31 by omega), if_neg c6, if_neg c7, if_neg c8], hS9⟩)
                · refine ar_aload_n 76 d_210_75 rfl rfl ?_
                  refine ar_getf 79 d_210_76 rfl (ci := 11) (k := 15) rfl (hF.at 0 rfl) (show _ = some (.ref (p + 6)) from rfl) ?_
                  refine ar_iload_n 80 d_210_79 rfl rfl ?_
                  refine ar_iald 81 d_210_80 rfl (hF.at 7 rfl) (vin (by omega) (by omega)) ?_
                  refine ar_goto 89 d_210_81 (by decide) ?_
                  have hS9 : RS m p al AL h0 h M := ⟨hF, hf, hn, hs, hp0⟩
                  exact ar_iret d_210_89 rfl rfl (⟨_, rfl, by unfold rfiV; rw [if_neg (fun z => z.elim c1 (fun z => absurd c2 (Int32.not_le.mpr z))), if_neg c3, if_neg (fun z => z.elim c4 (fun z => absurd c5 (by rw [e20] at z; exact Int32.not_lt.mpr z))), nI_clamp (show k < 2 ^ 31 by omega), eog, nI_clamp (show fi < 2 ^ 31 by omega), if_neg c6, if_neg c7, if_pos (Decidable.not_not.mp c8)], hS9⟩)
              · refine ar_aload_n 62 d_210_61 rfl rfl ?_
                refine ar_getf 65 d_210_62 rfl (ci := 11) (k := 16) rfl (hF.at 0 rfl) (show _ = some (.ref (p + 7)) from rfl) ?_
                refine ar_iload_n 66 d_210_65 rfl rfl ?_
                refine ar_iald 67 d_210_66 rfl (hF.at 8 rfl) (vin (by omega) (by omega)) ?_
                refine ar_goto 89 d_210_67 (by decide) ?_
                have hS9 : RS m p al AL h0 h M := ⟨hF, hf, hn, hs, hp0⟩
                exact ar_iret d_210_89 rfl rfl (⟨_, rfl, by unfold rfiV; rw [if_neg (fun z => z.elim c1 (fun z => absurd c2 (Int32.not_le.mpr z))), if_neg c3, if_neg (fun z => z.elim c4 (fun z => absurd c5 (by rw [e20] at z; exact Int32.not_lt.mpr z))), nI_clamp (show k < 2 ^ 31 by omega), eog, nI_clamp (show fi < 2 ^ 31 by omega), if_neg c6, if_pos (Decidable.not_not.mp c7)], hS9⟩)
            · refine ar_aload_n 48 d_210_47 rfl rfl ?_
              refine ar_getf 51 d_210_48 rfl (ci := 11) (k := 17) rfl (hF.at 0 rfl) (show _ = some (.ref (p + 8)) from rfl) ?_
              refine ar_iload_n 52 d_210_51 rfl rfl ?_
              refine ar_iald 53 d_210_52 rfl (hF.at 9 rfl) (vin (by omega) (by omega)) ?_
              refine ar_goto 89 d_210_53 (by decide) ?_
              have hS9 : RS m p al AL h0 h M := ⟨hF, hf, hn, hs, hp0⟩
              exact ar_iret d_210_89 rfl rfl (⟨_, rfl, by unfold rfiV; rw [if_neg (fun z => z.elim c1 (fun z => absurd c2 (Int32.not_le.mpr z))), if_neg c3, if_neg (fun z => z.elim c4 (fun z => absurd c5 (by rw [e20] at z; exact Int32.not_lt.mpr z))), nI_clamp (show k < 2 ^ 31 by omega), eog, nI_clamp (show fi < 2 ^ 31 by omega), if_pos (Decidable.not_not.mp c6)], hS9⟩)
          · refine ar_bipush 35 (v := -2) d_210_33 rfl (by decide) ?_
            have hS9 : RS m p al AL h0 h M := ⟨hF, hf, hn, hs, hp0⟩
            exact ar_iret d_210_35 rfl rfl (⟨_, rfl, by unfold rfiV; rw [if_neg (fun z => z.elim c1 (fun z => absurd c2 (Int32.not_le.mpr z))), if_neg c3, if_pos (Or.inr (by rw [e20]; exact Int32.not_lt.mp c5))], hS9⟩)
      · refine ar_bipush 20 (v := -6) d_210_18 rfl (by decide) ?_
        have hS9 : RS m p al AL h0 h M := ⟨hF, hf, hn, hs, hp0⟩
        exact ar_iret d_210_20 rfl rfl (⟨_, rfl, by unfold rfiV; rw [if_neg (fun z => z.elim c1 (fun z => absurd c2 (Int32.not_le.mpr z))), if_pos (Decidable.not_not.mp c3)], hS9⟩)
    · refine ar_iconst 10 (v := -1) d_210_9 rfl (by decide) ?_
      have hS9 : RS m p al AL h0 h M := ⟨hF, hf, hn, hs, hp0⟩
      exact ar_iret d_210_10 rfl rfl (⟨_, rfl, by unfold rfiV; rw [if_pos (Or.inr (Int32.not_le.mp c2))], hS9⟩)
def rwhQ (nn gg : Nat) (M : Nat → Nat → Int32) (x y z v : Int32) : Prop := (v = -6 ∧ M 0 7 = 0) ∨ (v = -2 ∧ ¬ M 0 7 = 0 ∧ (x < 0 ∨ M 0 20 ≤ x ∨ y < 0 ∨ 18 < y ∨ z < 0 ∨ M 0 1 ≤ z ∨ ∃ k s : Nat, x = nI k ∧ k < 48 ∧ nI k < M 0 20 ∧ y = nI s ∧ s < 19 ∧ M 19 (19 * (M 12 k).toNatClampNeg + s) = 0)) ∨ ∃ k s r a d : Nat, ¬ M 0 7 = 0 ∧ x = nI k ∧ k < 48 ∧ nI k < M 0 20 ∧ y = nI s ∧ s < 19 ∧ z = nI r ∧ r < nn ∧ nI r < M 0 1 ∧ ¬ M 19 (19 * (M 12 k).toNatClampNeg + s) = 0 ∧ M 16 (M 12 k).toNatClampNeg = nI d ∧ d < 512 ∧ v = nI a ∧ a < nn ∧ rkS (nI ((d * 31 + s * 7) % gg)) (nI a) nn 0 0 = r
set_option maxRecDepth 100000 in
theorem r_211X {L : Nat} {xs : Nat → Int32} {fr lo : Nat} {m p al AL : Nat} {h0 h : ax_H} {M : Nat → Nat → Int32} {x y z : Int32} (hfr : 2 ≤ fr) (hlo : 80 ≤ lo) (hC : RC m p al) (hS : RS m p al AL h0 h M) {nn cc gg : Nat} (e0 : M 0 0 = nI nn) (e1 : M 0 1 = nI cc) (e2 : M 0 2 = nI gg) (hcc : cc ≤ nn) (hnn : nn ≤ 6) (hgg1 : 1 ≤ gg) (hgg : gg ≤ 16) (hFL : FLM M) : ax_M L xs 211 fr lo [.ref m, .int x, .int y, .int z] h (fun r h' => ∃ v : Int32, r = some (.int v) ∧ rwhQ nn gg M x y z v ∧ RS m p al AL h0 h' M) := by
  have hC0 := hC
  show ax_A (ax_step L xs) ((211, 0, fr, lo), [(0, .ref m), (1, .int x), (2, .int y), (3, .int z)], [], h) _
  obtain ⟨hmp, hal, hm0⟩ := hC
  obtain ⟨hF, hf, hn, hs, hp0⟩ := hS
  replace hF : ax_hs h [cRo m p al M, cRB p 2048 (M 8), cRB (p + 1) 400 (M 10), cRI (p + 2) 2 (M 11), cRI (p + 3) 48 (M 12), cRZ (p + 4) 48 (M 13), cRB (p + 5) 9600 (M 14), cRI (p + 6) 48 (M 15), cRI (p + 7) 48 (M 16), cRI (p + 8) 48 (M 17), cRB (p + 9) 393216 (M 18), cRZ (p + 10) 912 (M 19), cRI (p + 11) 12 (M 27), cRI (p + 12) 12 (M 28), cRI (p + 13) 12 (M 29), cRB (p + 14) 4800 (M 30), cRI (p + 15) 24 (M 31), cRB (p + 16) 24576 (M 32), cRI (p + 17) 12 (M 33), cRI al AL (M 34), cRI (p + 19) 24576 (M 35), cRI (p + 20) 12 (M 36)] := hF
  obtain ⟨c0, to, e20, e21, hI⟩ := hFL
  have hc48 := hI.1
  have q0 : (RV p al (M 0))[0]? = some (.int (nI nn)) := by rw [← e0]; rfl
  have q2 : (RV p al (M 0))[2]? = some (.int (nI gg)) := by rw [← e2]; rfl
  refine ar_aload_n 1 d_211_0 rfl rfl ?_
  refine ar_getf 4 d_211_1 rfl (ci := 11) (k := 7) rfl (hF.at 0 rfl) (show _ = some (.int ((M 0) 7)) from rfl) ?_
  refine ar_if_ne 10 7 d_211_4 (by decide) rfl (fun c1 => ?_) (fun c1 => ?_)
  · refine ar_iload_n 11 d_211_10 rfl rfl ?_
    refine ar_if_lt 63 14 d_211_11 (by decide) rfl (fun c2 => ?_) (fun c2 => ?_)
    · refine ar_bipush 65 (v := -2) d_211_63 rfl (by decide) ?_
      have hS9 : RS m p al AL h0 h M := ⟨hF, hf, hn, hs, hp0⟩
      exact ar_iret d_211_65 rfl rfl (⟨_, rfl, Or.inr (Or.inl ⟨rfl, c1, Or.inl c2⟩), hS9⟩)
    · refine ar_iload_n 15 d_211_14 rfl rfl ?_
      refine ar_aload_n 16 d_211_15 rfl rfl ?_
      refine ar_getf 19 d_211_16 rfl (ci := 11) (k := 20) rfl (hF.at 0 rfl) (show _ = some (.int ((M 0) 20)) from rfl) ?_
      refine ar_top (x' := nI c0) (e20) ?_
      refine ar_icmp_ge 63 22 d_211_19 (by decide) rfl (fun c3 => ?_) (fun c3 => ?_)
      · refine ar_bipush 65 (v := -2) d_211_63 rfl (by decide) ?_
        have hS9 : RS m p al AL h0 h M := ⟨hF, hf, hn, hs, hp0⟩
        exact ar_iret d_211_65 rfl rfl (⟨_, rfl, Or.inr (Or.inl ⟨rfl, c1, Or.inr (Or.inl (by rw [e20]; exact c3))⟩), hS9⟩)
      · refine ar_iload_n 23 d_211_22 rfl rfl ?_
        refine ar_if_lt 63 26 d_211_23 (by decide) rfl (fun c4 => ?_) (fun c4 => ?_)
        · refine ar_bipush 65 (v := -2) d_211_63 rfl (by decide) ?_
          have hS9 : RS m p al AL h0 h M := ⟨hF, hf, hn, hs, hp0⟩
          exact ar_iret d_211_65 rfl rfl (⟨_, rfl, Or.inr (Or.inl ⟨rfl, c1, Or.inr (Or.inr (Or.inl c4))⟩), hS9⟩)
        · refine ar_iload_n 27 d_211_26 rfl rfl ?_
          refine ar_bipush 29 (v := 18) d_211_27 rfl (by decide) ?_
          refine ar_icmp_gt 63 32 d_211_29 (by decide) rfl (fun c5 => ?_) (fun c5 => ?_)
          · refine ar_bipush 65 (v := -2) d_211_63 rfl (by decide) ?_
            have hS9 : RS m p al AL h0 h M := ⟨hF, hf, hn, hs, hp0⟩
            exact ar_iret d_211_65 rfl rfl (⟨_, rfl, Or.inr (Or.inl ⟨rfl, c1, Or.inr (Or.inr (Or.inr (Or.inl c5)))⟩), hS9⟩)
          · refine ar_iload_n 33 d_211_32 rfl rfl ?_
            refine ar_if_lt 63 36 d_211_33 (by decide) rfl (fun c6 => ?_) (fun c6 => ?_)
            · refine ar_bipush 65 (v := -2) d_211_63 rfl (by decide) ?_
              have hS9 : RS m p al AL h0 h M := ⟨hF, hf, hn, hs, hp0⟩
              exact ar_iret d_211_65 rfl rfl (⟨_, rfl, Or.inr (Or.inl ⟨rfl, c1, Or.inr (Or.inr (Or.inr (Or.inr (Or.inl c6))))⟩), hS9⟩)
            · refine ar_iload_n 37 d_211_36 rfl rfl ?_
              refine ar_aload_n 38 d_211_37 rfl rfl ?_
              refine ar_getf 41 d_211_38 rfl (ci := 11) (k := 1) rfl (hF.at 0 rfl) (show _ = some (.int ((M 0) 1)) from rfl) ?_
              refine ar_top (x' := nI cc) (e1) ?_
              refine ar_icmp_ge 63 44 d_211_41 (by decide) rfl (fun c7 => ?_) (fun c7 => ?_)
              · refine ar_bipush 65 (v := -2) d_211_63 rfl (by decide) ?_
                have hS9 : RS m p al AL h0 h M := ⟨hF, hf, hn, hs, hp0⟩
                exact ar_iret d_211_65 rfl rfl (⟨_, rfl, Or.inr (Or.inl ⟨rfl, c1, Or.inr (Or.inr (Or.inr (Or.inr (Or.inr (Or.inl (by rw [e1]; exact c7))))))⟩), hS9⟩)
              · obtain ⟨k, hk, rfl⟩ := natLt c2 (by omega) (Int32.not_le.mp c3)
                obtain ⟨sv, hsv, rfl⟩ := natLt (x := y) (c := 19) c4 (by decide) (by
                    refine Int32.lt_of_le_of_lt (Int32.not_lt.mp c5) ?_
                    decide)
                obtain ⟨rv, hrv, rfl⟩ := natLt c6 (by omega) (Int32.not_le.mp c7)
                have hk20 : nI k < M 0 20 := by rw [e20]; exact Int32.not_le.mp c3
                have hrc1 : nI rv < M 0 1 := by rw [e1]; exact Int32.not_le.mp c7
                obtain ⟨hog1, hog2⟩ := hI.2.1 k hk
                have eog : M 12 k = nI (M 12 k).toNatClampNeg := nI_cl hog1
                generalize efi : (M 12 k).toNatClampNeg = fi at hog2 eog
                obtain ⟨d0, hd0, ed0⟩ := hI.2.2.2.2.2.1 fi hog2
                refine ar_aload_n 45 d_211_44 rfl rfl ?_
                refine ar_getf 48 d_211_45 rfl (ci := 11) (k := 19) rfl (hF.at 0 rfl) (show _ = some (.ref (p + 10)) from rfl) ?_
                refine ar_bipush 50 (v := 19) d_211_48 rfl (by decide) ?_
                refine ar_aload_n 51 d_211_50 rfl rfl ?_
                refine ar_getf 54 d_211_51 rfl (ci := 11) (k := 12) rfl (hF.at 0 rfl) (show _ = some (.ref (p + 3)) from rfl) ?_
                refine ar_iload_n 55 d_211_54 rfl rfl ?_
                refine ar_iald 56 d_211_55 rfl (hF.at 4 rfl) (vin (by omega) (by omega)) ?_
                refine ar_top (x' := nI fi) (by rw [nI_clamp (show k < 2 ^ 31 by omega)]; exact eog) ?_
                refine ar_imul 57 d_211_56 rfl ?_
                refine ar_top (x' := nI (19 * fi)) (pk_mul 19 fi) ?_
                refine ar_iload_n 58 d_211_57 rfl rfl ?_
                refine ar_iadd 59 d_211_58 rfl ?_
                refine ar_top (x' := nI (19 * fi + sv)) (nI_add _ _) ?_
                refine ar_zald 60 d_211_59 rfl (hF.at 11 rfl) (vin (by omega) (by omega)) ?_
                refine ar_if_ne 66 63 d_211_60 (by decide) rfl (fun c8 => ?_) (fun c8 => ?_)
                · refine ar_iconst 67 (v := 0) d_211_66 rfl (by decide) ?_
                  refine ar_istore 69 [(0, .ref m), (1, .int (nI k)), (2, .int (nI sv)), (3, .int (nI rv)), (4, .int 0)] d_211_67 rfl (by decide) rfl ?_
                  obtain ⟨av, hav, eav⟩ := rk_sur (y := nI ((d0 * 31 + sv * 7) % gg)) (show nn < 2 ^ 31 by omega) (show rv < nn by omega)
                  have key : ∀ (k9 jv : Nat), jv + k9 = av → ax_A (ax_step L xs) ((211, 69, fr, lo), [(0, .ref m), (1, .int (nI k)), (2, .int (nI sv)), (3, .int (nI rv)), (4, .int (nI jv))], [], h) (fun r h' => ∃ v : Int32, r = some (.int v) ∧ rwhQ nn gg M (nI k) (nI sv) (nI rv) v ∧ RS m p al AL h0 h' M) := by
                    intro k9
                    induction k9 with
                    | zero =>
                      intro jv hj
                      have e0 : av = jv := by omega
                      subst e0
                      refine ar_aload_n 70 d_211_69 rfl rfl ?_
                      refine ar_aload_n 71 d_211_70 rfl rfl ?_
                      refine ar_getf 74 d_211_71 rfl (ci := 11) (k := 12) rfl (hF.at 0 rfl) (show _ = some (.ref (p + 3)) from rfl) ?_
                      refine ar_iload_n 75 d_211_74 rfl rfl ?_
                      refine ar_iald 76 d_211_75 rfl (hF.at 4 rfl) (vin (by omega) (by omega)) ?_
                      refine ar_top (x' := nI fi) (by rw [nI_clamp (show k < 2 ^ 31 by omega)]; exact eog) ?_
                      refine ar_iload_n 77 d_211_76 rfl rfl ?_
                      refine ar_iload 79 d_211_77 rfl rfl ?_
                      refine ar_call (r := []) (na := 0) (kd := 0) (cm := 212) (fr2 := fr - 1) (lo2 := lo - 26) 82 d_211_79 (ar_hoV (as := [.int (nI fi), .int (nI sv), .int (nI av)]) rfl rfl rfl (hF.at 0 rfl)) rfl (by omega) (show lo - 26 + (19 + 7) = lo by omega) (Nat.le_of_ble_eq_true rfl) (Nat.le_of_ble_eq_true rfl) (n_212 (by omega) (by omega) hog2 hsv ed0 hd0 (by omega) hgg hnn (hF.at 0 rfl) q0 q2 rfl (hF.at 8 rfl)) ?_
                      intro v hh hq
                      obtain ⟨rfl, ehh⟩ := hq
                      rw [ehh]
                      clear ehh
                      refine ar_iload_n 83 d_211_82 rfl rfl ?_
                      refine ar_icmp_eq 92 86 d_211_83 (by decide) rfl (fun _ => ?_) (fun c => absurd (by rw [eav]) c)
                      refine ar_iload 94 d_211_92 rfl rfl ?_
                      have hS9 : RS m p al AL h0 h M := ⟨hF, hf, hn, hs, hp0⟩
                      exact ar_iret d_211_94 rfl rfl (⟨_, rfl, Or.inr (Or.inr ⟨k, sv, rv, av, d0, c1, rfl, by omega, hk20, rfl, hsv, rfl, by omega, hrc1, by rw [efi]; rw [nI_clamp (by omega)] at c8; exact c8, by rw [efi]; exact ed0, hd0, rfl, by omega, eav⟩), hS9⟩)
                    | succ k9 ih =>
                      intro jv hj
                      refine ar_aload_n 70 d_211_69 rfl rfl ?_
                      refine ar_aload_n 71 d_211_70 rfl rfl ?_
                      refine ar_getf 74 d_211_71 rfl (ci := 11) (k := 12) rfl (hF.at 0 rfl) (show _ = some (.ref (p + 3)) from rfl) ?_
                      refine ar_iload_n 75 d_211_74 rfl rfl ?_
                      refine ar_iald 76 d_211_75 rfl (hF.at 4 rfl) (vin (by omega) (by omega)) ?_
                      refine ar_top (x' := nI fi) (by rw [nI_clamp (show k < 2 ^ 31 by omega)]; exact eog) ?_
                      refine ar_iload_n 77 d_211_76 rfl rfl ?_
                      refine ar_iload 79 d_211_77 rfl rfl ?_
                      refine ar_call (r := []) (na := 0) (kd := 0) (cm := 212) (fr2 := fr - 1) (lo2 := lo - 26) 82 d_211_79 (ar_hoV (as := [.int (nI fi), .int (nI sv), .int (nI jv)]) rfl rfl rfl (hF.at 0 rfl)) rfl (by omega) (show lo - 26 + (19 + 7) = lo by omega) (Nat.le_of_ble_eq_true rfl) (Nat.le_of_ble_eq_true rfl) (n_212 (by omega) (by omega) hog2 hsv ed0 hd0 (by omega) hgg hnn (hF.at 0 rfl) q0 q2 rfl (hF.at 8 rfl)) ?_
                      intro v hh hq
                      obtain ⟨rfl, ehh⟩ := hq
                      rw [ehh]
                      clear ehh
                      refine ar_iload_n 83 d_211_82 rfl rfl ?_
                      refine ar_icmp_eq 92 86 d_211_83 (by decide) rfl (fun c9 => ?_) (fun c9 => ?_)
                      · refine ar_iload 94 d_211_92 rfl rfl ?_
                        have hS9 : RS m p al AL h0 h M := ⟨hF, hf, hn, hs, hp0⟩
                        exact ar_iret d_211_94 rfl rfl (⟨_, rfl, Or.inr (Or.inr ⟨k, sv, rv, jv, d0, c1, rfl, by omega, hk20, rfl, hsv, rfl, by omega, hrc1, by rw [efi]; rw [nI_clamp (by omega)] at c8; exact c8, by rw [efi]; exact ed0, hd0, rfl, by omega, nI_inj (by have := rkS_le (nI ((d0 * 31 + sv * 7) % gg)) (nI jv) nn 0; omega) (by omega) c9⟩), hS9⟩)
                      · refine ar_iinc 89 [(0, .ref m), (1, .int (nI k)), (2, .int (nI sv)), (3, .int (nI rv)), (4, .int (nI (jv + 1)))] d_211_86 rfl rfl (nI_1 jv) (by decide) rfl ?_
                        refine ar_goto 69 d_211_89 (by decide) ?_
                        exact ih (jv + 1) (by omega)
                  exact key av 0 (by omega)
                · refine ar_bipush 65 (v := -2) d_211_63 rfl (by decide) ?_
                  have hS9 : RS m p al AL h0 h M := ⟨hF, hf, hn, hs, hp0⟩
                  exact ar_iret d_211_65 rfl rfl (⟨_, rfl, Or.inr (Or.inl ⟨rfl, c1, Or.inr (Or.inr (Or.inr (Or.inr (Or.inr (Or.inr ⟨k, sv, rfl, by omega, hk20, rfl, hsv, by rw [efi]; have := Decidable.not_not.mp c8; rw [nI_clamp (by omega)] at this; exact this⟩)))))⟩), hS9⟩)
  · refine ar_bipush 9 (v := -6) d_211_7 rfl (by decide) ?_
    have hS9 : RS m p al AL h0 h M := ⟨hF, hf, hn, hs, hp0⟩
    exact ar_iret d_211_9 rfl rfl (⟨_, rfl, Or.inl ⟨rfl, Decidable.not_not.mp c1⟩, hS9⟩)
def rodQ (nn gg : Nat) (M : Nat → Nat → Int32) (x y z i v : Int32) : Prop := ∃ w : Int32, rwhQ nn gg M x y z w ∧ ((w < 0 ∧ v = w) ∨ ∃ k s zz : Nat, ¬ w < 0 ∧ x = nI k ∧ k < 48 ∧ y = nI s ∧ s < 19 ∧ M 17 (M 12 k).toNatClampNeg = nI zz ∧ zz < 8193 ∧ ((v = -2 ∧ (i < 0 ∨ ∃ iv : Nat, iv < 2 ^ 31 ∧ i = nI iv ∧ (448 ≤ iv ∨ (iv < 448 ∧ zz ≤ 448 * s + iv)))) ∨ ∃ iv : Nat, i = nI iv ∧ iv < 448 ∧ 448 * s + iv < zz ∧ v = (M 18 (8192 * (M 12 k).toNatClampNeg + (448 * s + iv))) &&& 255))
set_option maxRecDepth 100000 in
theorem r_214X {L : Nat} {xs : Nat → Int32} {fr lo : Nat} {m p al AL : Nat} {h0 h : ax_H} {M : Nat → Nat → Int32} {x y z i : Int32} (hfr : 3 ≤ fr) (hlo : 110 ≤ lo) (hC : RC m p al) (hS : RS m p al AL h0 h M) {nn cc gg : Nat} (e0 : M 0 0 = nI nn) (e1 : M 0 1 = nI cc) (e2 : M 0 2 = nI gg) (hcc : cc ≤ nn) (hnn : nn ≤ 6) (hgg1 : 1 ≤ gg) (hgg : gg ≤ 16) (hFL : FLM M) : ax_M L xs 214 fr lo [.ref m, .int x, .int y, .int z, .int i] h (fun r h' => ∃ v : Int32, r = some (.int v) ∧ rodQ nn gg M x y z i v ∧ RS m p al AL h0 h' M) := by
  have hC0 := hC
  show ax_A (ax_step L xs) ((214, 0, fr, lo), [(0, .ref m), (1, .int x), (2, .int y), (3, .int z), (4, .int i)], [], h) _
  obtain ⟨hmp, hal, hm0⟩ := hC
  obtain ⟨hF, hf, hn, hs, hp0⟩ := hS
  replace hF : ax_hs h [cRo m p al M, cRB p 2048 (M 8), cRB (p + 1) 400 (M 10), cRI (p + 2) 2 (M 11), cRI (p + 3) 48 (M 12), cRZ (p + 4) 48 (M 13), cRB (p + 5) 9600 (M 14), cRI (p + 6) 48 (M 15), cRI (p + 7) 48 (M 16), cRI (p + 8) 48 (M 17), cRB (p + 9) 393216 (M 18), cRZ (p + 10) 912 (M 19), cRI (p + 11) 12 (M 27), cRI (p + 12) 12 (M 28), cRI (p + 13) 12 (M 29), cRB (p + 14) 4800 (M 30), cRI (p + 15) 24 (M 31), cRB (p + 16) 24576 (M 32), cRI (p + 17) 12 (M 33), cRI al AL (M 34), cRI (p + 19) 24576 (M 35), cRI (p + 20) 12 (M 36)] := hF
  have hFL0 := hFL
  obtain ⟨c0, to, e20, e21, hI⟩ := hFL
  have hc48 := hI.1
  have hBc : ∀ k c1 : Nat, (M 0 20 = nI c1 ∧ c1 ≤ 48) → k < c1 ∧ k < 48 → k < c0 := fun k c1 e hk => by
    have := nI_inj (show c0 < 2 ^ 31 by omega) (show c1 < 2 ^ 31 by omega) (e20.symm.trans e.1)
    omega
  refine ar_aload_n 1 d_214_0 rfl rfl ?_
  refine ar_iload_n 2 d_214_1 rfl rfl ?_
  refine ar_iload_n 3 d_214_2 rfl rfl ?_
  refine ar_iload_n 4 d_214_3 rfl rfl ?_
  have hS1 : RS m p al AL h0 h M := ⟨hF, hf, hn, hs, hp0⟩
  refine ar_call (r := []) (na := 0) (kd := 0) (cm := 211) (fr2 := fr - 1) (lo2 := lo - 24) 7 d_214_4 (ar_hoV (as := [.int x, .int y, .int z]) rfl rfl rfl (hF.at 0 rfl)) rfl (by omega) (show lo - 24 + (19 + 5) = lo by omega) (Nat.le_of_ble_eq_true rfl) (Nat.le_of_ble_eq_true rfl) (r_211X (by omega) (by omega) hC0 hS1 e0 e1 e2 hcc hnn hgg1 hgg hFL0) ?_
  intro v hp_1 hq
  obtain ⟨wv, rfl, hwv, hS2⟩ := hq
  clear hS1 hF hf hn hs hp0
  obtain ⟨hF, hf, hn, hs, hp0⟩ := hS2
  replace hF : ax_hs hp_1 [cRo m p al M, cRB p 2048 (M 8), cRB (p + 1) 400 (M 10), cRI (p + 2) 2 (M 11), cRI (p + 3) 48 (M 12), cRZ (p + 4) 48 (M 13), cRB (p + 5) 9600 (M 14), cRI (p + 6) 48 (M 15), cRI (p + 7) 48 (M 16), cRI (p + 8) 48 (M 17), cRB (p + 9) 393216 (M 18), cRZ (p + 10) 912 (M 19), cRI (p + 11) 12 (M 27), cRI (p + 12) 12 (M 28), cRI (p + 13) 12 (M 29), cRB (p + 14) 4800 (M 30), cRI (p + 15) 24 (M 31), cRB (p + 16) 24576 (M 32), cRI (p + 17) 12 (M 33), cRI al AL (M 34), cRI (p + 19) 24576 (M 35), cRI (p + 20) 12 (M 36)] := hF
  by_cases hw0 : wv < 0
  · refine ar_istore 9 [(0, .ref m), (1, .int x), (2, .int y), (3, .int z), (4, .int i), (5, .int wv)] d_214_7 rfl (by decide) rfl ?_
    refine ar_iload 11 d_214_9 rfl rfl ?_
    refine ar_if_ge 17 14 d_214_11 (by decide) rfl (fun c => absurd c (Int32.not_le.mpr hw0)) (fun _ => ?_)
    refine ar_iload 16 d_214_14 rfl rfl ?_
    have hS9 : RS m p al AL h0 hp_1 M := ⟨hF, hf, hn, hs, hp0⟩
    exact ar_iret d_214_16 rfl rfl (⟨_, rfl, ⟨wv, hwv, Or.inl ⟨hw0, rfl⟩⟩, hS9⟩)
  · have hwv0 := hwv
    obtain ⟨k, sv, rr, aa, dd, _, rfl, hk48, hk20, rfl, hsv, _⟩ := (hwv.resolve_left (fun z => hw0 (by rw [z.1]; decide))).resolve_left (fun z => hw0 (by rw [z.1]; decide))
    obtain ⟨hog1, hog2⟩ := hI.2.1 k ((nI_ltI (by omega) (by omega)).mp (by rw [← e20]; exact hk20))
    have eog : M 12 k = nI (M 12 k).toNatClampNeg := nI_cl hog1
    generalize efi : (M 12 k).toNatClampNeg = fi at hog2 eog
    obtain ⟨zz, hzz, ezz⟩ := hI.2.2.2.2.2.2.1 fi hog2
    refine ar_istore 9 [(0, .ref m), (1, .int (nI k)), (2, .int (nI sv)), (3, .int z), (4, .int i), (5, .int wv)] d_214_7 rfl (by decide) rfl ?_
    refine ar_iload 11 d_214_9 rfl rfl ?_
    refine ar_if_ge 17 14 d_214_11 (by decide) rfl (fun _ => ?_) (fun c => absurd (Int32.not_lt.mp hw0) c)
    refine ar_sipush 20 (v := 448) d_214_17 rfl (by decide) ?_
    refine ar_iload_n 21 d_214_20 rfl rfl ?_
    refine ar_imul 22 d_214_21 rfl ?_
    refine ar_top (x' := nI (448 * sv)) (pk_mul 448 sv) ?_
    refine ar_iload 24 d_214_22 rfl rfl ?_
    refine ar_iadd 25 d_214_24 rfl ?_
    refine ar_istore 27 [(0, .ref m), (1, .int (nI k)), (2, .int (nI sv)), (3, .int z), (4, .int i), (5, .int wv), (6, .int ((nI (448 * sv)) + i))] d_214_25 rfl (by decide) rfl ?_
    refine ar_iload 29 d_214_27 rfl rfl ?_
    refine ar_if_lt 56 32 d_214_29 (by decide) rfl (fun c1 => ?_) (fun c1 => ?_)
    · refine ar_bipush 58 (v := -2) d_214_56 rfl (by decide) ?_
      have hS9 : RS m p al AL h0 hp_1 M := ⟨hF, hf, hn, hs, hp0⟩
      exact ar_iret d_214_58 rfl rfl (⟨_, rfl, ⟨wv, hwv0, Or.inr ⟨k, sv, zz, hw0, rfl, hk48, rfl, hsv, by rw [efi]; exact ezz, hzz, Or.inl ⟨rfl, Or.inl c1⟩⟩⟩, hS9⟩)
    · obtain ⟨iv, hiv, rfl⟩ := natOf c1
      refine ar_iload 34 d_214_32 rfl rfl ?_
      refine ar_sipush 37 (v := 448) d_214_34 rfl (by decide) ?_
      refine ar_icmp_ge 56 40 d_214_37 (by decide) rfl (fun c2 => ?_) (fun c2 => ?_)
      · refine ar_bipush 58 (v := -2) d_214_56 rfl (by decide) ?_
        have hS9 : RS m p al AL h0 hp_1 M := ⟨hF, hf, hn, hs, hp0⟩
        exact ar_iret d_214_58 rfl rfl (⟨_, rfl, ⟨wv, hwv0, Or.inr ⟨k, sv, zz, hw0, rfl, hk48, rfl, hsv, by rw [efi]; exact ezz, hzz, Or.inl ⟨rfl, Or.inr ⟨iv, hiv, rfl, Or.inl ((nI_leI (by decide) hiv).mp c2)⟩⟩⟩⟩, hS9⟩)
      · have hi4 : iv < 448 := (nI_ltI hiv (by decide)).mp (show nI iv < nI 448 from Int32.not_le.mp c2)
        rw [nI_add]
        refine ar_iload 42 d_214_40 rfl rfl ?_
        refine ar_aload_n 43 d_214_42 rfl rfl ?_
        refine ar_getf 46 d_214_43 rfl (ci := 11) (k := 17) rfl (hF.at 0 rfl) (show _ = some (.ref (p + 8)) from rfl) ?_
        refine ar_aload_n 47 d_214_46 rfl rfl ?_
        refine ar_getf 50 d_214_47 rfl (ci := 11) (k := 12) rfl (hF.at 0 rfl) (show _ = some (.ref (p + 3)) from rfl) ?_
        refine ar_iload_n 51 d_214_50 rfl rfl ?_
        refine ar_iald 52 d_214_51 rfl (hF.at 4 rfl) (vin (by omega) (by omega)) ?_
        refine ar_top (x' := nI fi) (by rw [nI_clamp (show k < 2 ^ 31 by omega)]; exact eog) ?_
        refine ar_iald 53 d_214_52 rfl (hF.at 9 rfl) (vin (by omega) (by omega)) ?_
        refine ar_top (x' := nI zz) (by rw [nI_clamp (show fi < 2 ^ 31 by omega)]; exact ezz) ?_
        refine ar_icmp_lt 59 56 d_214_53 (by decide) rfl (fun c3 => ?_) (fun c3 => ?_)
        · have hz8 : 448 * sv + iv < zz := (nI_ltI (by omega) (by omega)).mp c3
          refine ar_aload_n 60 d_214_59 rfl rfl ?_
          refine ar_getf 63 d_214_60 rfl (ci := 11) (k := 18) rfl (hF.at 0 rfl) (show _ = some (.ref (p + 9)) from rfl) ?_
          refine ar_sipush 66 (v := 8192) d_214_63 rfl (by decide) ?_
          refine ar_aload_n 67 d_214_66 rfl rfl ?_
          refine ar_getf 70 d_214_67 rfl (ci := 11) (k := 12) rfl (hF.at 0 rfl) (show _ = some (.ref (p + 3)) from rfl) ?_
          refine ar_iload_n 71 d_214_70 rfl rfl ?_
          refine ar_iald 72 d_214_71 rfl (hF.at 4 rfl) (vin (by omega) (by omega)) ?_
          refine ar_top (x' := nI fi) (by rw [nI_clamp (show k < 2 ^ 31 by omega)]; exact eog) ?_
          refine ar_imul 73 d_214_72 rfl ?_
          refine ar_top (x' := nI (8192 * fi)) (pk_mul 8192 fi) ?_
          refine ar_iload 75 d_214_73 rfl rfl ?_
          refine ar_iadd 76 d_214_75 rfl ?_
          refine ar_top (x' := nI (8192 * fi + (448 * sv + iv))) (nI_add _ _) ?_
          refine ar_bald 77 d_214_76 rfl (hF.at 10 rfl) (vin (by omega) (by omega)) ?_
          refine ar_sipush 80 (v := 255) d_214_77 rfl (by decide) ?_
          refine ar_iand 81 d_214_80 rfl ?_
          have hS9 : RS m p al AL h0 hp_1 M := ⟨hF, hf, hn, hs, hp0⟩
          exact ar_iret d_214_81 rfl rfl (⟨_, rfl, ⟨wv, hwv0, Or.inr ⟨k, sv, zz, hw0, rfl, hk48, rfl, hsv, by rw [efi]; exact ezz, hzz, Or.inr ⟨iv, rfl, hi4, hz8, by rw [efi, nI_clamp (by omega)]⟩⟩⟩, hS9⟩)
        · refine ar_bipush 58 (v := -2) d_214_56 rfl (by decide) ?_
          have hS9 : RS m p al AL h0 hp_1 M := ⟨hF, hf, hn, hs, hp0⟩
          exact ar_iret d_214_58 rfl rfl (⟨_, rfl, ⟨wv, hwv0, Or.inr ⟨k, sv, zz, hw0, rfl, hk48, rfl, hsv, by rw [efi]; exact ezz, hzz, Or.inl ⟨rfl, Or.inr ⟨iv, hiv, rfl, Or.inr ⟨hi4, (nI_leI (by omega) (by omega)).mp (Int32.not_lt.mp c3)⟩⟩⟩⟩⟩, hS9⟩)
def acS (w : Nat → Nat) : Nat → Nat → Nat → Nat
  | 0, _, n => n
  | k + 1, i, n => acS w k (i + 1) (n + w i)
theorem acS_v {w : Nat → Nat} : ∀ (k i n : Nat), acS w k i n = n + Sm (fun j => w (i + j)) k
  | 0, i, n => rfl
  | k + 1, i, n => by
    have e : Sm (fun j => w (i + j)) (k + 1) = w i + Sm (fun j => w (i + 1 + j)) k := by
      have e1 := Sm_spl (fun j => w (i + j)) 1 k
      have e2 : Sm (fun v => w (i + (1 + v))) k = Sm (fun j => w (i + 1 + j)) k := Sm_cg (fun j _ => by rw [show i + (1 + j) = i + 1 + j by omega])
      have e3 : Sm (fun j => w (i + j)) 1 = w i := by
        show 0 + w (i + 0) = _
        rw [Nat.zero_add, Nat.add_zero]
      rw [Nat.add_comm k 1, e1, e3]
      exact congrArg (_ + ·) e2
    unfold acS
    rw [e, acS_v k (i + 1) (n + w i)]; omega
/-- a COPY of a STRIPE on a NODE, in the reference -/
def rhW (nn gg : Nat) (M : Nat → Nat → Int32) (x : Int32) (i s : Nat) : Nat := if M 19 (19 * (M 12 i).toNatClampNeg + s) = 0 then 0 else if M 0 1 ≤ nI (rkS (nI (((M 16 (M 12 i).toNatClampNeg).toNatClampNeg * 31 + s * 7) % gg)) x nn 0 0) then 0 else 1
def rhoV (nn gg : Nat) (M : Nat → Nat → Int32) (x : Int32) : Int32 := if x < 0 ∨ M 0 0 ≤ x then -1 else if M 0 7 = 0 then -6 else nI (acS (fun i => acS (rhW nn gg M x i) 19 0 0) (M 0 20).toNatClampNeg 0 0)
theorem acS_add {w : Nat → Nat} (k i n m : Nat) : acS w k i (n + m) = n + acS w k i m := by
  rw [acS_v, acS_v]; omega
set_option maxRecDepth 100000 in
theorem r_215X {L : Nat} {xs : Nat → Int32} {fr lo : Nat} {m p al AL : Nat} {h0 h : ax_H} {M : Nat → Nat → Int32} {x : Int32} (hfr : 2 ≤ fr) (hlo : 80 ≤ lo) (hC : RC m p al) (hS : RS m p al AL h0 h M) {nn cc gg : Nat} (e0 : M 0 0 = nI nn) (e1 : M 0 1 = nI cc) (e2 : M 0 2 = nI gg) (hcc : cc ≤ nn) (hnn : nn ≤ 6) (hgg1 : 1 ≤ gg) (hgg : gg ≤ 16) (hFL : FLM M) : ax_M L xs 215 fr lo [.ref m, .int x] h (fun r h' => ∃ v : Int32, r = some (.int v) ∧ v = rhoV nn gg M x ∧ RS m p al AL h0 h' M) := by
  have hC0 := hC
  have hS0 := hS
  obtain ⟨hmp, hal, hm0⟩ := hC
  obtain ⟨c0, to, e20, e21, hI⟩ := hFL
  have hc48 := hI.1
  have q0 : (RV p al (M 0))[0]? = some (.int (nI nn)) := by rw [← e0]; rfl
  have q2 : (RV p al (M 0))[2]? = some (.int (nI gg)) := by rw [← e2]; rfl
  have key : ∀ (k i nv : Nat), i + k = c0 → ax_A (ax_step L xs) ((215, 28, fr, lo), [(0, .ref m), (1, .int x), (2, .int (nI nv)), (3, .int (nI i))], [], h) (fun r h' => ∃ v : Int32, r = some (.int v) ∧ v = nI (acS (fun i => acS (rhW nn gg M x i) 19 0 0) k i nv) ∧ RS m p al AL h0 h' M) := by
    intro k
    induction k with
    | zero =>
      intro i nv hi
      have e9 : c0 = i := by omega
      subst e9
      obtain ⟨hF, hf, hn, hs, hp0⟩ := hS0
      replace hF : ax_hs h [cRo m p al M, cRB p 2048 (M 8), cRB (p + 1) 400 (M 10), cRI (p + 2) 2 (M 11), cRI (p + 3) 48 (M 12), cRZ (p + 4) 48 (M 13), cRB (p + 5) 9600 (M 14), cRI (p + 6) 48 (M 15), cRI (p + 7) 48 (M 16), cRI (p + 8) 48 (M 17), cRB (p + 9) 393216 (M 18), cRZ (p + 10) 912 (M 19), cRI (p + 11) 12 (M 27), cRI (p + 12) 12 (M 28), cRI (p + 13) 12 (M 29), cRB (p + 14) 4800 (M 30), cRI (p + 15) 24 (M 31), cRB (p + 16) 24576 (M 32), cRI (p + 17) 12 (M 33), cRI al AL (M 34), cRI (p + 19) 24576 (M 35), cRI (p + 20) 12 (M 36)] := hF
      refine ar_iload_n 29 d_215_28 rfl rfl ?_
      refine ar_aload_n 30 d_215_29 rfl rfl ?_
      refine ar_getf 33 d_215_30 rfl (ci := 11) (k := 20) rfl (hF.at 0 rfl) (show _ = some (.int ((M 0) 20)) from rfl) ?_
      refine ar_top (x' := nI c0) (e20) ?_
      refine ar_icmp_ge 106 36 d_215_33 (by decide) rfl (fun _ => ?_) (fun c => absurd (Int32.le_refl _) c)
      refine ar_iload_n 107 d_215_106 rfl rfl ?_
      have hS9 : RS m p al AL h0 h M := ⟨hF, hf, hn, hs, hp0⟩
      exact ar_iret d_215_107 rfl rfl (⟨_, rfl, rfl, hS9⟩)
    | succ k ih =>
      intro i nv hi
      have hic : i < c0 := by omega
      obtain ⟨hog1, hog2⟩ := hI.2.1 i hic
      have eog : M 12 i = nI (M 12 i).toNatClampNeg := nI_cl hog1
      generalize efi : (M 12 i).toNatClampNeg = fi at hog2 eog
      obtain ⟨d0, hd0, ed0⟩ := hI.2.2.2.2.2.1 fi hog2
      have key2 : ∀ (k2 j nv : Nat), j + k2 = 19 → ax_A (ax_step L xs) ((215, 39, fr, lo), [(0, .ref m), (1, .int x), (2, .int (nI nv)), (3, .int (nI i)), (4, .int (nI j))], [], h) (fun r h' => ∃ v : Int32, r = some (.int v) ∧ v = nI (acS (fun i => acS (rhW nn gg M x i) 19 0 0) k (i + 1) (acS (rhW nn gg M x i) k2 j nv)) ∧ RS m p al AL h0 h' M) := by
        intro k2
        induction k2 with
        | zero =>
          intro j nv hj
          have e9 : 19 = j := by omega
          subst e9
          obtain ⟨hF, hf, hn, hs, hp0⟩ := hS0
          replace hF : ax_hs h [cRo m p al M, cRB p 2048 (M 8), cRB (p + 1) 400 (M 10), cRI (p + 2) 2 (M 11), cRI (p + 3) 48 (M 12), cRZ (p + 4) 48 (M 13), cRB (p + 5) 9600 (M 14), cRI (p + 6) 48 (M 15), cRI (p + 7) 48 (M 16), cRI (p + 8) 48 (M 17), cRB (p + 9) 393216 (M 18), cRZ (p + 10) 912 (M 19), cRI (p + 11) 12 (M 27), cRI (p + 12) 12 (M 28), cRI (p + 13) 12 (M 29), cRB (p + 14) 4800 (M 30), cRI (p + 15) 24 (M 31), cRB (p + 16) 24576 (M 32), cRI (p + 17) 12 (M 33), cRI al AL (M 34), cRI (p + 19) 24576 (M 35), cRI (p + 20) 12 (M 36)] := hF
          refine ar_iload 41 d_215_39 rfl rfl ?_
          refine ar_bipush 43 (v := 19) d_215_41 rfl (by decide) ?_
          refine ar_icmp_ge 100 46 d_215_43 (by decide) rfl (fun _ => ?_) (fun c => absurd (Int32.le_refl _) c)
          refine ar_iinc 103 [(0, .ref m), (1, .int x), (2, .int (nI nv)), (3, .int (nI (i + 1))), (4, .int (nI 19))] d_215_100 rfl rfl (nI_1 i) (by decide) rfl ?_
          refine ar_goto 28 d_215_103 (by decide) ?_
          refine ar_wk [0, 1, 2, 3] rfl (by simp) ?_
          exact ih (i + 1) nv (by omega)
        | succ k2 ih2 =>
          intro j nv hj
          have hjc : j < 19 := by omega
          obtain ⟨hF, hf, hn, hs, hp0⟩ := hS0
          replace hF : ax_hs h [cRo m p al M, cRB p 2048 (M 8), cRB (p + 1) 400 (M 10), cRI (p + 2) 2 (M 11), cRI (p + 3) 48 (M 12), cRZ (p + 4) 48 (M 13), cRB (p + 5) 9600 (M 14), cRI (p + 6) 48 (M 15), cRI (p + 7) 48 (M 16), cRI (p + 8) 48 (M 17), cRB (p + 9) 393216 (M 18), cRZ (p + 10) 912 (M 19), cRI (p + 11) 12 (M 27), cRI (p + 12) 12 (M 28), cRI (p + 13) 12 (M 29), cRB (p + 14) 4800 (M 30), cRI (p + 15) 24 (M 31), cRB (p + 16) 24576 (M 32), cRI (p + 17) 12 (M 33), cRI al AL (M 34), cRI (p + 19) 24576 (M 35), cRI (p + 20) 12 (M 36)] := hF
          refine ar_iload 41 d_215_39 rfl rfl ?_
          refine ar_bipush 43 (v := 19) d_215_41 rfl (by decide) ?_
          refine ar_icmp_ge 100 46 d_215_43 (by decide) rfl (fun c => absurd c (nI_ge hjc (by decide))) (fun _ => ?_)
          refine ar_iload_n 47 d_215_46 rfl rfl ?_
          refine ar_aload_n 48 d_215_47 rfl rfl ?_
          refine ar_getf 51 d_215_48 rfl (ci := 11) (k := 19) rfl (hF.at 0 rfl) (show _ = some (.ref (p + 10)) from rfl) ?_
          refine ar_bipush 53 (v := 19) d_215_51 rfl (by decide) ?_
          refine ar_aload_n 54 d_215_53 rfl rfl ?_
          refine ar_getf 57 d_215_54 rfl (ci := 11) (k := 12) rfl (hF.at 0 rfl) (show _ = some (.ref (p + 3)) from rfl) ?_
          refine ar_iload_n 58 d_215_57 rfl rfl ?_
          refine ar_iald 59 d_215_58 rfl (hF.at 4 rfl) (vin (by omega) (by omega)) ?_
          refine ar_top (x' := nI fi) (by rw [nI_clamp (show i < 2 ^ 31 by omega)]; exact eog) ?_
          refine ar_imul 60 d_215_59 rfl ?_
          refine ar_top (x' := nI (19 * fi)) (pk_mul 19 fi) ?_
          refine ar_iload 62 d_215_60 rfl rfl ?_
          refine ar_iadd 63 d_215_62 rfl ?_
          refine ar_top (x' := nI (19 * fi + j)) (nI_add _ _) ?_
          refine ar_zald 64 d_215_63 rfl (hF.at 11 rfl) (vin (by omega) (by omega)) ?_
          refine ar_if_eq 91 67 d_215_64 (by decide) rfl (fun c1 => ?_) (fun c1 => ?_)
          · refine ar_iconst 92 (v := 0) d_215_91 rfl (by decide) ?_
            refine ar_iadd 93 d_215_92 rfl ?_
            have ew : rhW nn gg M x i j = 0 := by unfold rhW; rw [efi]; rw [nI_clamp (by omega)] at c1; rw [if_pos c1]
            refine ar_top (x' := nI (nv + rhW nn gg M x i j)) (by rw [ew]; exact nI_add nv 0) ?_
            refine ar_istore_n 94 [(0, .ref m), (1, .int x), (2, .int (nI (nv + rhW nn gg M x i j))), (3, .int (nI i)), (4, .int (nI j))] d_215_93 rfl (by decide) rfl ?_
            refine ar_iinc 97 [(0, .ref m), (1, .int x), (2, .int (nI (nv + rhW nn gg M x i j))), (3, .int (nI i)), (4, .int (nI (j + 1)))] d_215_94 rfl rfl (nI_1 j) (by decide) rfl ?_
            refine ar_goto 39 d_215_97 (by decide) ?_
            exact ih2 (j + 1) (nv + rhW nn gg M x i j) (by omega)
          · refine ar_aload_n 68 d_215_67 rfl rfl ?_
            refine ar_aload_n 69 d_215_68 rfl rfl ?_
            refine ar_getf 72 d_215_69 rfl (ci := 11) (k := 12) rfl (hF.at 0 rfl) (show _ = some (.ref (p + 3)) from rfl) ?_
            refine ar_iload_n 73 d_215_72 rfl rfl ?_
            refine ar_iald 74 d_215_73 rfl (hF.at 4 rfl) (vin (by omega) (by omega)) ?_
            refine ar_top (x' := nI fi) (by rw [nI_clamp (show i < 2 ^ 31 by omega)]; exact eog) ?_
            refine ar_iload 76 d_215_74 rfl rfl ?_
            refine ar_iload_n 77 d_215_76 rfl rfl ?_
            refine ar_call (r := [.int (nI nv)]) (na := 0) (kd := 0) (cm := 212) (fr2 := fr - 1) (lo2 := lo - 26) 80 d_215_77 (ar_hoV (as := [.int (nI fi), .int (nI j), .int x]) rfl rfl rfl (hF.at 0 rfl)) rfl (by omega) (show lo - 26 + (19 + 7) = lo by omega) (Nat.le_of_ble_eq_true rfl) (Nat.le_of_ble_eq_true rfl) (n_212 (by omega) (by omega) hog2 hjc ed0 hd0 (by omega) hgg hnn (hF.at 0 rfl) q0 q2 rfl (hF.at 8 rfl)) ?_
            intro v hh hq
            obtain ⟨rfl, ehh⟩ := hq
            rw [ehh]
            clear ehh
            refine ar_aload_n 81 d_215_80 rfl rfl ?_
            refine ar_getf 84 d_215_81 rfl (ci := 11) (k := 1) rfl (hF.at 0 rfl) (show _ = some (.int ((M 0) 1)) from rfl) ?_
            refine ar_icmp_ge 91 87 d_215_84 (by decide) rfl (fun c2 => ?_) (fun c2 => ?_)
            · refine ar_iconst 92 (v := 0) d_215_91 rfl (by decide) ?_
              refine ar_iadd 93 d_215_92 rfl ?_
              have ew : rhW nn gg M x i j = 0 := by unfold rhW; rw [efi, ed0, nI_clamp (show d0 < 2 ^ 31 by omega)]; rw [nI_clamp (show 19 * fi + j < 2 ^ 31 by omega)] at c1; rw [if_neg c1, if_pos c2]
              refine ar_top (x' := nI (nv + rhW nn gg M x i j)) (by rw [ew]; exact nI_add nv 0) ?_
              refine ar_istore_n 94 [(0, .ref m), (1, .int x), (2, .int (nI (nv + rhW nn gg M x i j))), (3, .int (nI i)), (4, .int (nI j))] d_215_93 rfl (by decide) rfl ?_
              refine ar_iinc 97 [(0, .ref m), (1, .int x), (2, .int (nI (nv + rhW nn gg M x i j))), (3, .int (nI i)), (4, .int (nI (j + 1)))] d_215_94 rfl rfl (nI_1 j) (by decide) rfl ?_
              refine ar_goto 39 d_215_97 (by decide) ?_
              exact ih2 (j + 1) (nv + rhW nn gg M x i j) (by omega)
            · refine ar_iconst 88 (v := 1) d_215_87 rfl (by decide) ?_
              refine ar_goto 92 d_215_88 (by decide) ?_
              refine ar_iadd 93 d_215_92 rfl ?_
              have ew : rhW nn gg M x i j = 1 := by unfold rhW; rw [efi, ed0, nI_clamp (show d0 < 2 ^ 31 by omega)]; rw [nI_clamp (show 19 * fi + j < 2 ^ 31 by omega)] at c1; rw [if_neg c1, if_neg c2]
              refine ar_top (x' := nI (nv + rhW nn gg M x i j)) (by rw [ew]; exact nI_add nv 1) ?_
              refine ar_istore_n 94 [(0, .ref m), (1, .int x), (2, .int (nI (nv + rhW nn gg M x i j))), (3, .int (nI i)), (4, .int (nI j))] d_215_93 rfl (by decide) rfl ?_
              refine ar_iinc 97 [(0, .ref m), (1, .int x), (2, .int (nI (nv + rhW nn gg M x i j))), (3, .int (nI i)), (4, .int (nI (j + 1)))] d_215_94 rfl rfl (nI_1 j) (by decide) rfl ?_
              refine ar_goto 39 d_215_97 (by decide) ?_
              exact ih2 (j + 1) (nv + rhW nn gg M x i j) (by omega)
      obtain ⟨hF, hf, hn, hs, hp0⟩ := hS0
      replace hF : ax_hs h [cRo m p al M, cRB p 2048 (M 8), cRB (p + 1) 400 (M 10), cRI (p + 2) 2 (M 11), cRI (p + 3) 48 (M 12), cRZ (p + 4) 48 (M 13), cRB (p + 5) 9600 (M 14), cRI (p + 6) 48 (M 15), cRI (p + 7) 48 (M 16), cRI (p + 8) 48 (M 17), cRB (p + 9) 393216 (M 18), cRZ (p + 10) 912 (M 19), cRI (p + 11) 12 (M 27), cRI (p + 12) 12 (M 28), cRI (p + 13) 12 (M 29), cRB (p + 14) 4800 (M 30), cRI (p + 15) 24 (M 31), cRB (p + 16) 24576 (M 32), cRI (p + 17) 12 (M 33), cRI al AL (M 34), cRI (p + 19) 24576 (M 35), cRI (p + 20) 12 (M 36)] := hF
      refine ar_iload_n 29 d_215_28 rfl rfl ?_
      refine ar_aload_n 30 d_215_29 rfl rfl ?_
      refine ar_getf 33 d_215_30 rfl (ci := 11) (k := 20) rfl (hF.at 0 rfl) (show _ = some (.int ((M 0) 20)) from rfl) ?_
      refine ar_top (x' := nI c0) (e20) ?_
      refine ar_icmp_ge 106 36 d_215_33 (by decide) rfl (fun c => absurd c (nI_ge hic (by omega))) (fun _ => ?_)
      refine ar_iconst 37 (v := 0) d_215_36 rfl (by decide) ?_
      refine ar_istore 39 [(0, .ref m), (1, .int x), (2, .int (nI nv)), (3, .int (nI i)), (4, .int 0)] d_215_37 rfl (by decide) rfl ?_
      refine ax_A.post (key2 19 0 nv (by omega)) (fun r h' hq => ?_)
      obtain ⟨v, q1, q2, q3⟩ := hq
      refine ⟨v, q1, ?_, q3⟩
      rw [q2, show acS (rhW nn gg M x i) 19 0 nv = nv + acS (rhW nn gg M x i) 19 0 0 from acS_add 19 0 nv 0]
      rfl
  show ax_A (ax_step L xs) ((215, 0, fr, lo), [(0, .ref m), (1, .int x)], [], h) _
  obtain ⟨hF, hf, hn, hs, hp0⟩ := hS
  replace hF : ax_hs h [cRo m p al M, cRB p 2048 (M 8), cRB (p + 1) 400 (M 10), cRI (p + 2) 2 (M 11), cRI (p + 3) 48 (M 12), cRZ (p + 4) 48 (M 13), cRB (p + 5) 9600 (M 14), cRI (p + 6) 48 (M 15), cRI (p + 7) 48 (M 16), cRI (p + 8) 48 (M 17), cRB (p + 9) 393216 (M 18), cRZ (p + 10) 912 (M 19), cRI (p + 11) 12 (M 27), cRI (p + 12) 12 (M 28), cRI (p + 13) 12 (M 29), cRB (p + 14) 4800 (M 30), cRI (p + 15) 24 (M 31), cRB (p + 16) 24576 (M 32), cRI (p + 17) 12 (M 33), cRI al AL (M 34), cRI (p + 19) 24576 (M 35), cRI (p + 20) 12 (M 36)] := hF
  refine ar_iload_n 1 d_215_0 rfl rfl ?_
  refine ar_if_lt 12 4 d_215_1 (by decide) rfl (fun c1 => ?_) (fun c1 => ?_)
  · refine ar_iconst 13 (v := -1) d_215_12 rfl (by decide) ?_
    have hS9 : RS m p al AL h0 h M := ⟨hF, hf, hn, hs, hp0⟩
    exact ar_iret d_215_13 rfl rfl (⟨_, rfl, by unfold rhoV; rw [if_pos (Or.inl c1)], hS9⟩)
  · refine ar_iload_n 5 d_215_4 rfl rfl ?_
    refine ar_aload_n 6 d_215_5 rfl rfl ?_
    refine ar_getf 9 d_215_6 rfl (ci := 11) (k := 0) rfl (hF.at 0 rfl) (show _ = some (.int ((M 0) 0)) from rfl) ?_
    refine ar_icmp_lt 14 12 d_215_9 (by decide) rfl (fun c2 => ?_) (fun c2 => ?_)
    · refine ar_aload_n 15 d_215_14 rfl rfl ?_
      refine ar_getf 18 d_215_15 rfl (ci := 11) (k := 7) rfl (hF.at 0 rfl) (show _ = some (.int ((M 0) 7)) from rfl) ?_
      refine ar_if_ne 24 21 d_215_18 (by decide) rfl (fun c3 => ?_) (fun c3 => ?_)
      · refine ar_iconst 25 (v := 0) d_215_24 rfl (by decide) ?_
        refine ar_istore_n 26 [(0, .ref m), (1, .int x), (2, .int 0)] d_215_25 rfl (by decide) rfl ?_
        refine ar_iconst 27 (v := 0) d_215_26 rfl (by decide) ?_
        refine ar_istore_n 28 [(0, .ref m), (1, .int x), (2, .int 0), (3, .int 0)] d_215_27 rfl (by decide) rfl ?_
        refine ax_A.post (key c0 0 0 (by omega)) (fun r h' hq => ?_)
        obtain ⟨v, q1, q2, q3⟩ := hq
        refine ⟨v, q1, ?_, q3⟩
        rw [q2]
        unfold rhoV
        rw [if_neg (fun z => z.elim c1 (fun z => absurd c2 (Int32.not_lt.mpr z))), if_neg c3, e20, nI_clamp (by omega)]
      · refine ar_bipush 23 (v := -6) d_215_21 rfl (by decide) ?_
        have hS9 : RS m p al AL h0 h M := ⟨hF, hf, hn, hs, hp0⟩
        exact ar_iret d_215_23 rfl rfl (⟨_, rfl, by unfold rhoV; rw [if_neg (fun z => z.elim c1 (fun z => absurd c2 (Int32.not_lt.mpr z))), if_pos (Decidable.not_not.mp c3)], hS9⟩)
    · refine ar_iconst 13 (v := -1) d_215_12 rfl (by decide) ?_
      have hS9 : RS m p al AL h0 h M := ⟨hF, hf, hn, hs, hp0⟩
      exact ar_iret d_215_13 rfl rfl (⟨_, rfl, by unfold rhoV; rw [if_pos (Or.inr (Int32.not_lt.mp c2))], hS9⟩)
theorem r_216X {L : Nat} {xs : Nat → Int32} {fr lo : Nat} {m p al AL : Nat} {h0 h : ax_H} {M : Nat → Nat → Int32}  (hfr : 0 ≤ fr) (hlo : 0 ≤ lo) (hC : RC m p al) (hS : RS m p al AL h0 h M) : ax_M L xs 216 fr lo [.ref m] h (fun r h' => ∃ v : Int32, r = some (.int v) ∧ v = (if M 0 7 = 0 then -6 else 0) ∧ RS m p al AL h0 h' M) := by
  have hC0 := hC
  show ax_A (ax_step L xs) ((216, 0, fr, lo), [(0, .ref m)], [], h) _
  obtain ⟨hmp, hal, hm0⟩ := hC
  obtain ⟨hF, hf, hn, hs, hp0⟩ := hS
  replace hF : ax_hs h [cRo m p al M, cRB p 2048 (M 8), cRB (p + 1) 400 (M 10), cRI (p + 2) 2 (M 11), cRI (p + 3) 48 (M 12), cRZ (p + 4) 48 (M 13), cRB (p + 5) 9600 (M 14), cRI (p + 6) 48 (M 15), cRI (p + 7) 48 (M 16), cRI (p + 8) 48 (M 17), cRB (p + 9) 393216 (M 18), cRZ (p + 10) 912 (M 19), cRI (p + 11) 12 (M 27), cRI (p + 12) 12 (M 28), cRI (p + 13) 12 (M 29), cRB (p + 14) 4800 (M 30), cRI (p + 15) 24 (M 31), cRB (p + 16) 24576 (M 32), cRI (p + 17) 12 (M 33), cRI al AL (M 34), cRI (p + 19) 24576 (M 35), cRI (p + 20) 12 (M 36)] := hF
  refine ar_aload_n 1 d_216_0 rfl rfl ?_
  refine ar_getf 4 d_216_1 rfl (ci := 11) (k := 7) rfl (hF.at 0 rfl) (show _ = some (.int ((M 0) 7)) from rfl) ?_
  refine ar_if_eq 11 7 d_216_4 (by decide) rfl (fun c1 => ?_) (fun c1 => ?_)
  · refine ar_bipush 13 (v := -6) d_216_11 rfl (by decide) ?_
    have hS9 : RS m p al AL h0 h M := ⟨hF, hf, hn, hs, hp0⟩
    exact ar_iret d_216_13 rfl rfl (⟨_, rfl, by rw [if_pos c1], hS9⟩)
  · refine ar_iconst 8 (v := 0) d_216_7 rfl (by decide) ?_
    refine ar_goto 13 d_216_8 (by decide) ?_
    have hS9 : RS m p al AL h0 h M := ⟨hF, hf, hn, hs, hp0⟩
    exact ar_iret d_216_13 rfl rfl (⟨_, rfl, by rw [if_neg c1], hS9⟩)
def popN (s : Nat) : Nat := Sm (fun i => if s.testBit i = true then 1 else 0) 6
theorem pop_step : ∀ s, s < 64 → ¬ s = 0 → ∃ t, t < s ∧ (nI s &&& (nI s - 1)) = nI t ∧ popN s = popN t + 1 := by decide +kernel
theorem r_218X {L : Nat} {xs : Nat → Int32} {fr lo : Nat} {h : ax_H} {u : Nat} (hu : u < 64) : ax_M L xs 218 fr lo [.int (nI u)] h (fun r h' => r = some (.int (nI (popN u))) ∧ h' = h) := by
  have key : ∀ (N s cn : Nat), s ≤ N → s < 64 → ax_A (ax_step L xs) ((218, 4, fr, lo), [(1, .int (nI cn)), (2, .int (nI s))], [], h) (fun r h' => r = some (.int (nI (cn + popN s))) ∧ h' = h) := by
    intro N
    induction N with
    | zero =>
      intro s cn hN hs
      have e0 : s = 0 := by omega
      subst e0
      refine ar_iload_n 5 d_218_4 rfl rfl ?_
      refine ar_if_eq 20 8 d_218_5 (by decide) rfl (fun _ => ?_) (fun c => absurd rfl c)
      refine ar_iload_n 21 d_218_20 rfl rfl ?_
      exact ar_iret d_218_21 rfl rfl (⟨rfl, rfl⟩)
    | succ N ih =>
      intro s cn hN hs
      refine ar_iload_n 5 d_218_4 rfl rfl ?_
      by_cases e : s = 0
      · subst e
        refine ar_if_eq 20 8 d_218_5 (by decide) rfl (fun _ => ?_) (fun c => absurd rfl c)
        refine ar_iload_n 21 d_218_20 rfl rfl ?_
        exact ar_iret d_218_21 rfl rfl (⟨rfl, rfl⟩)
      · obtain ⟨t, t1, t2, t3⟩ := pop_step s hs e
        refine ar_if_eq 20 8 d_218_5 (by decide) rfl (fun c => absurd (nI_inj (by omega) (by decide) (show nI s = nI 0 from c)) e) (fun _ => ?_)
        refine ar_iinc 11 [(1, .int (nI (cn + 1))), (2, .int (nI s))] d_218_8 rfl rfl (nI_1 cn) (by decide) rfl ?_
        refine ar_iload_n 12 d_218_11 rfl rfl ?_
        refine ar_iload_n 13 d_218_12 rfl rfl ?_
        refine ar_iconst 14 (v := 1) d_218_13 rfl (by decide) ?_
        refine ar_isub 15 d_218_14 rfl ?_
        refine ar_iand 16 d_218_15 rfl ?_
        refine ar_top (x' := nI t) t2 ?_
        refine ar_istore_n 17 [(1, .int (nI (cn + 1))), (2, .int (nI t))] d_218_16 rfl (by decide) rfl ?_
        refine ar_goto 4 d_218_17 (by decide) ?_
        rw [t3, show cn + (popN t + 1) = cn + 1 + popN t by omega]
        exact ih t (cn + 1) (by omega) (by omega)
  show ax_A (ax_step L xs) ((218, 0, fr, lo), [(0, .int (nI u))], [], h) _
  refine ar_iconst 1 (v := 0) d_218_0 rfl (by decide) ?_
  refine ar_istore_n 2 [(0, .int (nI u)), (1, .int 0)] d_218_1 rfl (by decide) rfl ?_
  refine ar_iload_n 3 d_218_2 rfl rfl ?_
  refine ar_istore_n 4 [(0, .int (nI u)), (1, .int 0), (2, .int (nI u))] d_218_3 rfl (by decide) rfl ?_
  refine ar_wk [1, 2] rfl (by simp) ?_
  have := key u u 0 (Nat.le_refl _) hu
  rw [Nat.zero_add] at this
  exact this
theorem r_217X {L : Nat} {xs : Nat → Int32} {fr lo : Nat} {m p al AL : Nat} {h0 h : ax_H} {M : Nat → Nat → Int32} {x : Int32} (hfr : 1 ≤ fr) (hlo : 40 ≤ lo) (hC : RC m p al) (hS : RS m p al AL h0 h M) (h7 : M 0 7 = 0 ∨ M 0 7 = 1) {u : Nat} (hu : u < 64) (e3 : M 0 3 = nI u) : ax_M L xs 217 fr lo [.ref m, .int x] h (fun r h' => r = some (.int (rcnV M x (nI (popN u)))) ∧ RS m p al AL h0 h' M) := by
  have hC0 := hC
  show ax_A (ax_step L xs) ((217, 0, fr, lo), [(0, .ref m), (1, .int x)], [], h) _
  obtain ⟨hmp, hal, hm0⟩ := hC
  obtain ⟨hF, hf, hn, hs, hp0⟩ := hS
  replace hF : ax_hs h [cRo m p al M, cRB p 2048 (M 8), cRB (p + 1) 400 (M 10), cRI (p + 2) 2 (M 11), cRI (p + 3) 48 (M 12), cRZ (p + 4) 48 (M 13), cRB (p + 5) 9600 (M 14), cRI (p + 6) 48 (M 15), cRI (p + 7) 48 (M 16), cRI (p + 8) 48 (M 17), cRB (p + 9) 393216 (M 18), cRZ (p + 10) 912 (M 19), cRI (p + 11) 12 (M 27), cRI (p + 12) 12 (M 28), cRI (p + 13) 12 (M 29), cRB (p + 14) 4800 (M 30), cRI (p + 15) 24 (M 31), cRB (p + 16) 24576 (M 32), cRI (p + 17) 12 (M 33), cRI al AL (M 34), cRI (p + 19) 24576 (M 35), cRI (p + 20) 12 (M 36)] := hF
  refine ar_iload_n 1 d_217_0 rfl rfl ?_
  by_cases hr : x.toInt < 0 ∨ (10 : Int) < x.toInt
  · refine ar_tabOut 126 d_217_1 hr (by decide) ?_
    refine ar_iconst 127 (v := -1) d_217_126 rfl (by decide) ?_
    have hS9 : RS m p al AL h0 h M := ⟨hF, hf, hn, hs, hp0⟩
    exact ar_iret d_217_127 rfl rfl (⟨by rw [rcnV_out hr], hS9⟩)
  · obtain ⟨k, hk, rfl⟩ := cnt_in hr
    have hk2 : k = 0 ∨ k = 1 ∨ k = 2 ∨ k = 3 ∨ k = 4 ∨ k = 5 ∨ k = 6 ∨ k = 7 ∨ k = 8 ∨ k = 9 ∨ k = 10 := by omega
    rcases hk2 with rfl | rfl | rfl | rfl | rfl | rfl | rfl | rfl | rfl | rfl | rfl
    · refine ar_tabIn 60 d_217_1 (by decide) (off := 59) rfl (by decide) ?_
      refine ar_aload_n 61 d_217_60 rfl rfl ?_
      refine ar_getf 64 d_217_61 rfl (ci := 11) (k := 22) rfl (hF.at 0 rfl) (show _ = some (.int ((M 0) 22)) from rfl) ?_
      have hS9 : RS m p al AL h0 h M := ⟨hF, hf, hn, hs, hp0⟩
      exact ar_iret d_217_64 rfl rfl (⟨rfl, hS9⟩)
    · refine ar_tabIn 65 d_217_1 (by decide) (off := 64) rfl (by decide) ?_
      refine ar_aload_n 66 d_217_65 rfl rfl ?_
      refine ar_getf 69 d_217_66 rfl (ci := 11) (k := 23) rfl (hF.at 0 rfl) (show _ = some (.int ((M 0) 23)) from rfl) ?_
      have hS9 : RS m p al AL h0 h M := ⟨hF, hf, hn, hs, hp0⟩
      exact ar_iret d_217_69 rfl rfl (⟨rfl, hS9⟩)
    · refine ar_tabIn 70 d_217_1 (by decide) (off := 69) rfl (by decide) ?_
      refine ar_aload_n 71 d_217_70 rfl rfl ?_
      refine ar_getf 74 d_217_71 rfl (ci := 11) (k := 24) rfl (hF.at 0 rfl) (show _ = some (.int ((M 0) 24)) from rfl) ?_
      have hS9 : RS m p al AL h0 h M := ⟨hF, hf, hn, hs, hp0⟩
      exact ar_iret d_217_74 rfl rfl (⟨rfl, hS9⟩)
    · refine ar_tabIn 75 d_217_1 (by decide) (off := 74) rfl (by decide) ?_
      refine ar_aload_n 76 d_217_75 rfl rfl ?_
      refine ar_getf 79 d_217_76 rfl (ci := 11) (k := 25) rfl (hF.at 0 rfl) (show _ = some (.int ((M 0) 25)) from rfl) ?_
      have hS9 : RS m p al AL h0 h M := ⟨hF, hf, hn, hs, hp0⟩
      exact ar_iret d_217_79 rfl rfl (⟨rfl, hS9⟩)
    · refine ar_tabIn 80 d_217_1 (by decide) (off := 79) rfl (by decide) ?_
      refine ar_aload_n 81 d_217_80 rfl rfl ?_
      refine ar_getf 84 d_217_81 rfl (ci := 11) (k := 26) rfl (hF.at 0 rfl) (show _ = some (.int ((M 0) 26)) from rfl) ?_
      have hS9 : RS m p al AL h0 h M := ⟨hF, hf, hn, hs, hp0⟩
      exact ar_iret d_217_84 rfl rfl (⟨rfl, hS9⟩)
    · refine ar_tabIn 85 d_217_1 (by decide) (off := 84) rfl (by decide) ?_
      refine ar_aload_n 86 d_217_85 rfl rfl ?_
      refine ar_getf 89 d_217_86 rfl (ci := 11) (k := 5) rfl (hF.at 0 rfl) (show _ = some (.int ((M 0) 5)) from rfl) ?_
      have hS9 : RS m p al AL h0 h M := ⟨hF, hf, hn, hs, hp0⟩
      exact ar_iret d_217_89 rfl rfl (⟨rfl, hS9⟩)
    · refine ar_tabIn 90 d_217_1 (by decide) (off := 89) rfl (by decide) ?_
      refine ar_aload_n 91 d_217_90 rfl rfl ?_
      refine ar_getf 94 d_217_91 rfl (ci := 11) (k := 3) rfl (hF.at 0 rfl) (show _ = some (.int ((M 0) 3)) from rfl) ?_
      refine ar_top (x' := nI u) e3 ?_
      refine ar_call (r := []) (na := 0) (kd := 0) (cm := 218) (fr2 := fr - 1) (lo2 := lo - 22) 97 d_217_94 (ar_hoS (as := [.int (nI u)]) rfl rfl rfl) rfl (by omega) (show lo - 22 + (19 + 3) = lo by omega) (Nat.le_of_ble_eq_true rfl) (Nat.le_of_ble_eq_true rfl) (r_218X hu) ?_
      intro v hh hq
      obtain ⟨rfl, ehh⟩ := hq
      rw [ehh]
      clear ehh
      have hS9 : RS m p al AL h0 h M := ⟨hF, hf, hn, hs, hp0⟩
      exact ar_iret d_217_97 rfl rfl (⟨rfl, hS9⟩)
    · refine ar_tabIn 98 d_217_1 (by decide) (off := 97) rfl (by decide) ?_
      refine ar_aload_n 99 d_217_98 rfl rfl ?_
      refine ar_getf 102 d_217_99 rfl (ci := 11) (k := 4) rfl (hF.at 0 rfl) (show _ = some (.int ((M 0) 4)) from rfl) ?_
      have hS9 : RS m p al AL h0 h M := ⟨hF, hf, hn, hs, hp0⟩
      exact ar_iret d_217_102 rfl rfl (⟨rfl, hS9⟩)
    · refine ar_tabIn 103 d_217_1 (by decide) (off := 102) rfl (by decide) ?_
      refine ar_aload_n 104 d_217_103 rfl rfl ?_
      refine ar_getf 107 d_217_104 rfl (ci := 11) (k := 6) rfl (hF.at 0 rfl) (show _ = some (.int ((M 0) 6)) from rfl) ?_
      have hS9 : RS m p al AL h0 h M := ⟨hF, hf, hn, hs, hp0⟩
      exact ar_iret d_217_107 rfl rfl (⟨rfl, hS9⟩)
    · refine ar_tabIn 108 d_217_1 (by decide) (off := 107) rfl (by decide) ?_
      refine ar_aload_n 109 d_217_108 rfl rfl ?_
      refine ar_getf 112 d_217_109 rfl (ci := 11) (k := 9) rfl (hF.at 0 rfl) (show _ = some (.int ((M 0) 9)) from rfl) ?_
      have hS9 : RS m p al AL h0 h M := ⟨hF, hf, hn, hs, hp0⟩
      exact ar_iret d_217_112 rfl rfl (⟨rfl, hS9⟩)
    · refine ar_tabIn 113 d_217_1 (by decide) (off := 112) rfl (by decide) ?_
      refine ar_aload_n 114 d_217_113 rfl rfl ?_
      refine ar_getf 117 d_217_114 rfl (ci := 11) (k := 7) rfl (hF.at 0 rfl) (show _ = some (.int ((M 0) 7)) from rfl) ?_
      refine ar_if_eq 124 120 d_217_117 (by decide) rfl (fun q1 => ?_) (fun q1 => ?_)
      · refine ar_iconst 125 (v := 0) d_217_124 rfl (by decide) ?_
        have hS9 : RS m p al AL h0 h M := ⟨hF, hf, hn, hs, hp0⟩
        exact ar_iret d_217_125 rfl rfl (⟨by rw [show rcnV M (nI 10) (nI (popN u)) = M 0 7 from rfl, q1], hS9⟩)
      · refine ar_iconst 121 (v := 1) d_217_120 rfl (by decide) ?_
        refine ar_goto 125 d_217_121 (by decide) ?_
        have hS9 : RS m p al AL h0 h M := ⟨hF, hf, hn, hs, hp0⟩
        exact ar_iret d_217_125 rfl rfl (⟨by rw [show rcnV M (nI 10) (nI (popN u)) = M 0 7 from rfl, h7.resolve_left q1], hS9⟩)

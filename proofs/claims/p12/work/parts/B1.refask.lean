/-! the reference: answer, told, file, where, onDisk, holds, count -/

def ranV (M : Nat → Nat → Int32) (x : Int32) : Int32 := if x < 0 ∨ M 0 25 ≤ x then -1 else if x < M 0 25 - M 0 26 then M 34 x.toNatClampNeg else -5
theorem r_208 {L : Nat} {xs : Nat → Int32} {fr lo : Nat} {m p al AL : Nat} {h0 h : ax_H} {M : Nat → Nat → Int32} {x : Int32} (hfr : 0 ≤ fr) (hlo : 0 ≤ lo) (hC : RC m p al) (hS : RS m p al AL h0 h M) {op wt : Nat} (e25 : M 0 25 = nI op) (e26 : M 0 26 = nI wt) (hwo : wt ≤ op) (hop : op ≤ 512) (hAL : op ≤ AL + wt) (hA5 : AL < 2 ^ 31) : ax_M L xs 208 fr lo [.ref m, .int x] h (fun r h' => r = some (.int (ranV M x)) ∧ RS m p al AL h0 h' M) := by
  have hC0 := hC
  show ax_A (ax_step L xs) ((208, 0, fr, lo), [(0, .ref m), (1, .int x)], [], h) _
  obtain ⟨hmp, hal, hm0⟩ := hC
  obtain ⟨hF, hf, hn, hs, hp0⟩ := hS
  replace hF : ax_hs h [cRo m p al M, cRB p 2048 (M 8), cRB (p + 1) 400 (M 10), cRI (p + 2) 2 (M 11), cRI (p + 3) 48 (M 12), cRZ (p + 4) 48 (M 13), cRB (p + 5) 9600 (M 14), cRI (p + 6) 48 (M 15), cRI (p + 7) 48 (M 16), cRI (p + 8) 48 (M 17), cRB (p + 9) 393216 (M 18), cRZ (p + 10) 912 (M 19), cRI (p + 11) 12 (M 27), cRI (p + 12) 12 (M 28), cRI (p + 13) 12 (M 29), cRB (p + 14) 4800 (M 30), cRI (p + 15) 24 (M 31), cRB (p + 16) 24576 (M 32), cRI (p + 17) 12 (M 33), cRI al AL (M 34), cRI (p + 19) 24576 (M 35), cRI (p + 20) 12 (M 36)] := hF
  refine ar_iload_n 1 d_208_0 rfl rfl ?_
  refine ar_if_lt 12 4 d_208_1 (by decide) rfl (fun c1 => ?_) (fun c1 => ?_)
  · refine ar_iconst 13 (v := -1) d_208_12 rfl (by decide) ?_
    have hS9 : RS m p al AL h0 h M := ⟨hF, hf, hn, hs, hp0⟩
    exact ar_iret d_208_13 rfl rfl (⟨by unfold ranV; rw [if_pos (Or.inl c1)], hS9⟩)
  · refine ar_iload_n 5 d_208_4 rfl rfl ?_
    refine ar_aload_n 6 d_208_5 rfl rfl ?_
    refine ar_getf 9 d_208_6 rfl (ci := 11) (k := 25) rfl (hF.at 0 rfl) (show _ = some (.int ((M 0) 25)) from rfl) ?_
    refine ar_icmp_lt 14 12 d_208_9 (by decide) rfl (fun c2 => ?_) (fun c2 => ?_)
    · refine ar_iload_n 15 d_208_14 rfl rfl ?_
      refine ar_aload_n 16 d_208_15 rfl rfl ?_
      refine ar_getf 19 d_208_16 rfl (ci := 11) (k := 25) rfl (hF.at 0 rfl) (show _ = some (.int ((M 0) 25)) from rfl) ?_
      refine ar_aload_n 20 d_208_19 rfl rfl ?_
      refine ar_getf 23 d_208_20 rfl (ci := 11) (k := 26) rfl (hF.at 0 rfl) (show _ = some (.int ((M 0) 26)) from rfl) ?_
      refine ar_isub 24 d_208_23 rfl ?_
      refine ar_icmp_lt 32 27 d_208_24 (by decide) rfl (fun c3 => ?_) (fun c3 => ?_)
      · obtain ⟨o, ho, rfl⟩ := natLt c1 (by omega) (show x < nI (op - wt) by rw [← nI_sub hwo, ← e25, ← e26]; exact c3)
        refine ar_aload_n 33 d_208_32 rfl rfl ?_
        refine ar_getf 36 d_208_33 rfl (ci := 11) (k := 34) rfl (hF.at 0 rfl) (show _ = some (.ref al) from rfl) ?_
        refine ar_iload_n 37 d_208_36 rfl rfl ?_
        refine ar_iald 38 d_208_37 rfl (hF.at 19 rfl) (vin (by omega) (by omega)) ?_
        have hS9 : RS m p al AL h0 h M := ⟨hF, hf, hn, hs, hp0⟩
        exact ar_iret d_208_38 rfl rfl (⟨by unfold ranV; rw [if_neg (fun z => z.elim c1 (fun z => absurd c2 (Int32.not_lt.mpr z))), if_pos c3], hS9⟩)
      · refine ar_bipush 29 (v := -5) d_208_27 rfl (by decide) ?_
        refine ar_goto 38 d_208_29 (by decide) ?_
        have hS9 : RS m p al AL h0 h M := ⟨hF, hf, hn, hs, hp0⟩
        exact ar_iret d_208_38 rfl rfl (⟨by unfold ranV; rw [if_neg (fun z => z.elim c1 (fun z => absurd c2 (Int32.not_lt.mpr z))), if_neg c3], hS9⟩)
    · refine ar_iconst 13 (v := -1) d_208_12 rfl (by decide) ?_
      have hS9 : RS m p al AL h0 h M := ⟨hF, hf, hn, hs, hp0⟩
      exact ar_iret d_208_13 rfl rfl (⟨by unfold ranV; rw [if_pos (Or.inr (Int32.not_lt.mp c2))], hS9⟩)
theorem r_209 {L : Nat} {xs : Nat → Int32} {fr lo : Nat} {m p al AL : Nat} {h0 h : ax_H} {M : Nat → Nat → Int32} {x y : Int32} (hfr : 0 ≤ fr) (hlo : 0 ≤ lo) (hC : RC m p al) (hS : RS m p al AL h0 h M) {tc : Nat} (e38 : M 0 38 = nI tc) (htc : tc ≤ 12) (h36 : ∀ x, x < 12 → inR 2049 (M 36 x)) : ax_M L xs 209 fr lo [.ref m, .int x, .int y] h (fun r h' => ∃ y : Int32, r = some (.int y) ∧ RS m p al AL h0 h' M) := by
  have hC0 := hC
  show ax_A (ax_step L xs) ((209, 0, fr, lo), [(0, .ref m), (1, .int x), (2, .int y)], [], h) _
  obtain ⟨hmp, hal, hm0⟩ := hC
  obtain ⟨hF, hf, hn, hs, hp0⟩ := hS
  replace hF : ax_hs h [cRo m p al M, cRB p 2048 (M 8), cRB (p + 1) 400 (M 10), cRI (p + 2) 2 (M 11), cRI (p + 3) 48 (M 12), cRZ (p + 4) 48 (M 13), cRB (p + 5) 9600 (M 14), cRI (p + 6) 48 (M 15), cRI (p + 7) 48 (M 16), cRI (p + 8) 48 (M 17), cRB (p + 9) 393216 (M 18), cRZ (p + 10) 912 (M 19), cRI (p + 11) 12 (M 27), cRI (p + 12) 12 (M 28), cRI (p + 13) 12 (M 29), cRB (p + 14) 4800 (M 30), cRI (p + 15) 24 (M 31), cRB (p + 16) 24576 (M 32), cRI (p + 17) 12 (M 33), cRI al AL (M 34), cRI (p + 19) 24576 (M 35), cRI (p + 20) 12 (M 36)] := hF
  refine ar_iload_n 1 d_209_0 rfl rfl ?_
  refine ar_aload_n 2 d_209_1 rfl rfl ?_
  refine ar_getf 5 d_209_2 rfl (ci := 11) (k := 37) rfl (hF.at 0 rfl) (show _ = some (.int ((M 0) 37)) from rfl) ?_
  refine ar_isub 6 d_209_5 rfl ?_
  refine ar_istore_n 7 [(0, .ref m), (1, .int x), (2, .int y), (3, .int (x - ((M 0) 37)))] d_209_6 rfl (by decide) rfl ?_
  refine ar_iload_n 8 d_209_7 rfl rfl ?_
  refine ar_if_lt 37 11 d_209_8 (by decide) rfl (fun c1 => ?_) (fun c1 => ?_)
  · refine ar_bipush 39 (v := -2) d_209_37 rfl (by decide) ?_
    have hS9 : RS m p al AL h0 h M := ⟨hF, hf, hn, hs, hp0⟩
    exact ar_iret d_209_39 rfl rfl (⟨_, rfl, hS9⟩)
  · obtain ⟨o, ho, rfl⟩ := natOf c1
    refine ar_iload_n 12 d_209_11 rfl rfl ?_
    refine ar_if_lt 37 15 d_209_12 (by decide) rfl (fun c2 => ?_) (fun c2 => ?_)
    · refine ar_bipush 39 (v := -2) d_209_37 rfl (by decide) ?_
      have hS9 : RS m p al AL h0 h M := ⟨hF, hf, hn, hs, hp0⟩
      exact ar_iret d_209_39 rfl rfl (⟨_, rfl, hS9⟩)
    · refine ar_iload_n 16 d_209_15 rfl rfl ?_
      refine ar_aload_n 17 d_209_16 rfl rfl ?_
      refine ar_getf 20 d_209_17 rfl (ci := 11) (k := 38) rfl (hF.at 0 rfl) (show _ = some (.int ((M 0) 38)) from rfl) ?_
      refine ar_icmp_ge 37 23 d_209_20 (by decide) rfl (fun c3 => ?_) (fun c3 => ?_)
      · refine ar_bipush 39 (v := -2) d_209_37 rfl (by decide) ?_
        have hS9 : RS m p al AL h0 h M := ⟨hF, hf, hn, hs, hp0⟩
        exact ar_iret d_209_39 rfl rfl (⟨_, rfl, hS9⟩)
      · obtain ⟨wv, hwv, ewv⟩ := natLt c2 (show tc < 2 ^ 31 by omega) (by rw [← e38]; exact Int32.not_le.mp c3)
        rw [ewv]
        refine ar_iload_n 24 d_209_23 rfl rfl ?_
        refine ar_if_lt 37 27 d_209_24 (by decide) rfl (fun c4 => ?_) (fun c4 => ?_)
        · refine ar_bipush 39 (v := -2) d_209_37 rfl (by decide) ?_
          have hS9 : RS m p al AL h0 h M := ⟨hF, hf, hn, hs, hp0⟩
          exact ar_iret d_209_39 rfl rfl (⟨_, rfl, hS9⟩)
        · obtain ⟨tl, htl, etl⟩ := h36 wv (by omega)
          refine ar_iload_n 28 d_209_27 rfl rfl ?_
          refine ar_aload_n 29 d_209_28 rfl rfl ?_
          refine ar_getf 32 d_209_29 rfl (ci := 11) (k := 36) rfl (hF.at 0 rfl) (show _ = some (.ref (p + 20)) from rfl) ?_
          refine ar_iload_n 33 d_209_32 rfl rfl ?_
          refine ar_iald 34 d_209_33 rfl (hF.at 21 rfl) (vin (by omega) (by omega)) ?_
          refine ar_top (x' := nI tl) (by rw [nI_clamp (show wv < 2 ^ 31 by omega)]; exact etl) ?_
          refine ar_icmp_lt 40 37 d_209_34 (by decide) rfl (fun c5 => ?_) (fun c5 => ?_)
          · obtain ⟨iv, hiv, rfl⟩ := natLt c4 (show tl < 2 ^ 31 by omega) c5
            refine ar_aload_n 41 d_209_40 rfl rfl ?_
            refine ar_getf 44 d_209_41 rfl (ci := 11) (k := 35) rfl (hF.at 0 rfl) (show _ = some (.ref (p + 19)) from rfl) ?_
            refine ar_sipush 47 (v := 2048) d_209_44 rfl (by decide) ?_
            refine ar_iload_n 48 d_209_47 rfl rfl ?_
            refine ar_imul 49 d_209_48 rfl ?_
            refine ar_top (x' := nI (2048 * wv)) (pk_mul 2048 wv) ?_
            refine ar_iload_n 50 d_209_49 rfl rfl ?_
            refine ar_iadd 51 d_209_50 rfl ?_
            refine ar_top (x' := nI (2048 * wv + iv)) (nI_add _ _) ?_
            refine ar_iald 52 d_209_51 rfl (hF.at 20 rfl) (vin (by omega) (by omega)) ?_
            have hS9 : RS m p al AL h0 h M := ⟨hF, hf, hn, hs, hp0⟩
            exact ar_iret d_209_52 rfl rfl (⟨_, rfl, hS9⟩)
          · refine ar_bipush 39 (v := -2) d_209_37 rfl (by decide) ?_
            have hS9 : RS m p al AL h0 h M := ⟨hF, hf, hn, hs, hp0⟩
            exact ar_iret d_209_39 rfl rfl (⟨_, rfl, hS9⟩)
theorem r_210 {L : Nat} {xs : Nat → Int32} {fr lo : Nat} {m p al AL : Nat} {h0 h : ax_H} {M : Nat → Nat → Int32} {x y : Int32} (hfr : 1 ≤ fr) (hlo : 40 ≤ lo) (hC : RC m p al) (hS : RS m p al AL h0 h M) (hFL : FLM M) : ax_M L xs 210 fr lo [.ref m, .int x, .int y] h (fun r h' => ∃ y : Int32, r = some (.int y) ∧ RS m p al AL h0 h' M) := by
  have hC0 := hC
  show ax_A (ax_step L xs) ((210, 0, fr, lo), [(0, .ref m), (1, .int x), (2, .int y)], [], h) _
  obtain ⟨hmp, hal, hm0⟩ := hC
  obtain ⟨hF, hf, hn, hs, hp0⟩ := hS
  replace hF : ax_hs h [cRo m p al M, cRB p 2048 (M 8), cRB (p + 1) 400 (M 10), cRI (p + 2) 2 (M 11), cRI (p + 3) 48 (M 12), cRZ (p + 4) 48 (M 13), cRB (p + 5) 9600 (M 14), cRI (p + 6) 48 (M 15), cRI (p + 7) 48 (M 16), cRI (p + 8) 48 (M 17), cRB (p + 9) 393216 (M 18), cRZ (p + 10) 912 (M 19), cRI (p + 11) 12 (M 27), cRI (p + 12) 12 (M 28), cRI (p + 13) 12 (M 29), cRB (p + 14) 4800 (M 30), cRI (p + 15) 24 (M 31), cRB (p + 16) 24576 (M 32), cRI (p + 17) 12 (M 33), cRI al AL (M 34), cRI (p + 19) 24576 (M 35), cRI (p + 20) 12 (M 36)] := hF
  obtain ⟨c0, to, e20, e21, hI⟩ := hFL
  have hc48 := hI.1
  refine ar_iload_n 1 d_210_0 rfl rfl ?_
  refine ar_if_lt 9 4 d_210_1 (by decide) rfl (fun c1 => ?_) (fun c1 => ?_)
  · refine ar_iconst 10 (v := -1) d_210_9 rfl (by decide) ?_
    have hS9 : RS m p al AL h0 h M := ⟨hF, hf, hn, hs, hp0⟩
    exact ar_iret d_210_10 rfl rfl (⟨_, rfl, hS9⟩)
  · refine ar_iload_n 5 d_210_4 rfl rfl ?_
    refine ar_iconst 6 (v := 3) d_210_5 rfl (by decide) ?_
    refine ar_icmp_le 11 9 d_210_6 (by decide) rfl (fun c2 => ?_) (fun c2 => ?_)
    · refine ar_aload_n 12 d_210_11 rfl rfl ?_
      refine ar_getf 15 d_210_12 rfl (ci := 11) (k := 7) rfl (hF.at 0 rfl) (show _ = some (.int ((M 0) 7)) from rfl) ?_
      refine ar_if_ne 21 18 d_210_15 (by decide) rfl (fun c3 => ?_) (fun c3 => ?_)
      · refine ar_iload_n 22 d_210_21 rfl rfl ?_
        refine ar_if_lt 33 25 d_210_22 (by decide) rfl (fun c4 => ?_) (fun c4 => ?_)
        · refine ar_bipush 35 (v := -2) d_210_33 rfl (by decide) ?_
          have hS9 : RS m p al AL h0 h M := ⟨hF, hf, hn, hs, hp0⟩
          exact ar_iret d_210_35 rfl rfl (⟨_, rfl, hS9⟩)
        · refine ar_iload_n 26 d_210_25 rfl rfl ?_
          refine ar_aload_n 27 d_210_26 rfl rfl ?_
          refine ar_getf 30 d_210_27 rfl (ci := 11) (k := 20) rfl (hF.at 0 rfl) (show _ = some (.int ((M 0) 20)) from rfl) ?_
          refine ar_top (x' := nI c0) (e20) ?_
          refine ar_icmp_lt 36 33 d_210_30 (by decide) rfl (fun c5 => ?_) (fun c5 => ?_)
          · obtain ⟨k, hk, rfl⟩ := natLt c4 (by omega) c5
            obtain ⟨hog1, hog2⟩ := hI.2.1 k hk
            have eog : M 12 k = nI (M 12 k).toNatClampNeg := nI_cl hog1
            generalize (M 12 k).toNatClampNeg = fi at hog2 eog
            refine ar_aload_n 37 d_210_36 rfl rfl ?_
            refine ar_getf 40 d_210_37 rfl (ci := 11) (k := 12) rfl (hF.at 0 rfl) (show _ = some (.ref (p + 3)) from rfl) ?_
            refine ar_iload_n 41 d_210_40 rfl rfl ?_
            refine ar_iald 42 d_210_41 rfl (hF.at 4 rfl) (vin (by omega) (by omega)) ?_
            refine ar_top (x' := nI fi) (by rw [nI_clamp (show k < 2 ^ 31 by omega)]; exact eog) ?_
            refine ar_istore_n 43 [(0, .ref m), (1, .int (nI k)), (2, .int y), (3, .int (nI fi))] d_210_42 rfl (by decide) rfl ?_
            refine ar_iload_n 44 d_210_43 rfl rfl ?_
            refine ar_if_ne 56 47 d_210_44 (by decide) rfl (fun c6 => ?_) (fun c6 => ?_)
            · refine ar_iload_n 57 d_210_56 rfl rfl ?_
              refine ar_iconst 58 (v := 1) d_210_57 rfl (by decide) ?_
              refine ar_icmp_ne 70 61 d_210_58 (by decide) rfl (fun c7 => ?_) (fun c7 => ?_)
              · refine ar_iload_n 71 d_210_70 rfl rfl ?_
                refine ar_iconst 72 (v := 2) d_210_71 rfl (by decide) ?_
                refine ar_icmp_ne 84 75 d_210_72 (by decide) rfl (fun c8 => ?_) (fun c8 => ?_)
                · refine ar_aload_n 85 d_210_84 rfl rfl ?_
                  refine ar_iload_n 86 d_210_85 rfl rfl ?_
                  refine ar_call (r := []) (na := 0) (kd := 0) (cm := 207) (fr2 := fr - 1) (lo2 := lo - 23) 89 d_210_86 (ar_hoV (as := [.int (nI fi)]) rfl rfl rfl (hF.at 0 rfl)) rfl (by omega) (show lo - 23 + (19 + 4) = lo by omega) (Nat.le_of_ble_eq_true rfl) (Nat.le_of_ble_eq_true rfl) (n_207 hog2 (hF.at 0 rfl) rfl (hF.at 11 rfl)) ?_
                  intro v hh hq
                  obtain ⟨rfl, ehh⟩ := hq
                  rw [ehh]
                  clear ehh
                  have hS9 : RS m p al AL h0 h M := ⟨hF, hf, hn, hs, hp0⟩
                  exact ar_iret d_210_89 rfl rfl (⟨_, rfl, hS9⟩)
                · refine ar_aload_n 76 d_210_75 rfl rfl ?_
                  refine ar_getf 79 d_210_76 rfl (ci := 11) (k := 15) rfl (hF.at 0 rfl) (show _ = some (.ref (p + 6)) from rfl) ?_
                  refine ar_iload_n 80 d_210_79 rfl rfl ?_
                  refine ar_iald 81 d_210_80 rfl (hF.at 7 rfl) (vin (by omega) (by omega)) ?_
                  refine ar_goto 89 d_210_81 (by decide) ?_
                  have hS9 : RS m p al AL h0 h M := ⟨hF, hf, hn, hs, hp0⟩
                  exact ar_iret d_210_89 rfl rfl (⟨_, rfl, hS9⟩)
              · refine ar_aload_n 62 d_210_61 rfl rfl ?_
                refine ar_getf 65 d_210_62 rfl (ci := 11) (k := 16) rfl (hF.at 0 rfl) (show _ = some (.ref (p + 7)) from rfl) ?_
                refine ar_iload_n 66 d_210_65 rfl rfl ?_
                refine ar_iald 67 d_210_66 rfl (hF.at 8 rfl) (vin (by omega) (by omega)) ?_
                refine ar_goto 89 d_210_67 (by decide) ?_
                have hS9 : RS m p al AL h0 h M := ⟨hF, hf, hn, hs, hp0⟩
                exact ar_iret d_210_89 rfl rfl (⟨_, rfl, hS9⟩)
            · refine ar_aload_n 48 d_210_47 rfl rfl ?_
              refine ar_getf 51 d_210_48 rfl (ci := 11) (k := 17) rfl (hF.at 0 rfl) (show _ = some (.ref (p + 8)) from rfl) ?_
              refine ar_iload_n 52 d_210_51 rfl rfl ?_
              refine ar_iald 53 d_210_52 rfl (hF.at 9 rfl) (vin (by omega) (by omega)) ?_
              refine ar_goto 89 d_210_53 (by decide) ?_
              have hS9 : RS m p al AL h0 h M := ⟨hF, hf, hn, hs, hp0⟩
              exact ar_iret d_210_89 rfl rfl (⟨_, rfl, hS9⟩)
          · refine ar_bipush 35 (v := -2) d_210_33 rfl (by decide) ?_
            have hS9 : RS m p al AL h0 h M := ⟨hF, hf, hn, hs, hp0⟩
            exact ar_iret d_210_35 rfl rfl (⟨_, rfl, hS9⟩)
      · refine ar_bipush 20 (v := -6) d_210_18 rfl (by decide) ?_
        have hS9 : RS m p al AL h0 h M := ⟨hF, hf, hn, hs, hp0⟩
        exact ar_iret d_210_20 rfl rfl (⟨_, rfl, hS9⟩)
    · refine ar_iconst 10 (v := -1) d_210_9 rfl (by decide) ?_
      have hS9 : RS m p al AL h0 h M := ⟨hF, hf, hn, hs, hp0⟩
      exact ar_iret d_210_10 rfl rfl (⟨_, rfl, hS9⟩)
def bts (y : Int32) (i x : Nat) : Prop := drw y (nI x) < drw y (nI i) ∨ (drw y (nI i) = drw y (nI x) ∧ nI i < nI x)
theorem bts_tot {y : Int32} {i x : Nat} (hi : i < 2 ^ 31) (hx : x < 2 ^ 31) (h : i ≠ x) : bts y i x ∨ bts y x i := by
  by_cases h1 : drw y (nI x) < drw y (nI i)
  · exact Or.inl (Or.inl h1)
  · by_cases h2 : drw y (nI i) < drw y (nI x)
    · exact Or.inr (Or.inl h2)
    · have e : drw y (nI i) = drw y (nI x) := Int32.le_antisymm (Int32.not_lt.mp h1) (Int32.not_lt.mp h2)
      rcases Nat.lt_or_gt_of_ne h with q | q
      · exact Or.inl (Or.inr ⟨e, nI_lt q hx⟩)
      · exact Or.inr (Or.inr ⟨e.symm, nI_lt q hi⟩)
theorem bts_tr {y : Int32} {i j x : Nat} (h1 : bts y i j) (h2 : bts y j x) : bts y i x := by
  rcases h1 with h1 | ⟨e1, h1⟩ <;> rcases h2 with h2 | ⟨e2, h2⟩
  · exact Or.inl (Int32.lt_trans h2 h1)
  · exact Or.inl (by rw [← e2]; exact h1)
  · exact Or.inl (by rw [e1]; exact h2)
  · exact Or.inr ⟨e1.trans e2, Int32.lt_trans h1 h2⟩
theorem bts_irr {y : Int32} {i : Nat} : ¬ bts y i i := fun h => by
  rcases h with h | ⟨-, h⟩ <;> exact Int32.lt_irrefl h
theorem rkS_add (y x : Int32) : ∀ (k i r : Nat), rkS y x k i r = r + rkS y x k i 0 := by
  intro k
  induction k with
  | zero => intro i r; rfl
  | succ k ih =>
    intro i r
    unfold rkS
    split
    · rw [ih (i + 1) (r + 1), ih (i + 1) (0 + 1)]; omega
    · exact ih (i + 1) r
theorem rkS_le (y x : Int32) : ∀ (k i : Nat), rkS y x k i 0 ≤ k := by
  intro k
  induction k with
  | zero => intro i; exact Nat.le_refl _
  | succ k ih =>
    intro i
    unfold rkS
    split
    · rw [rkS_add]; have := ih (i + 1); omega
    · have := ih (i + 1); omega
theorem rkS_mono {y : Int32} {a b : Nat} (h : bts y a b) : ∀ (k i : Nat), rkS y (nI a) k i 0 + (if i ≤ a ∧ a < i + k then 1 else 0) ≤ rkS y (nI b) k i 0 := by
  intro k
  induction k with
  | zero =>
    intro i
    rw [if_neg (by omega)]
    exact Nat.le_refl _
  | succ k ih =>
    intro i
    have h1 := ih (i + 1)
    unfold rkS
    by_cases ha : i = a
    · subst ha
      rw [if_neg (show ¬ (drw y (nI i) < drw y (nI i) ∨ (drw y (nI i) = drw y (nI i) ∧ nI i < nI i)) from bts_irr), if_pos (show drw y (nI b) < drw y (nI i) ∨ (drw y (nI i) = drw y (nI b) ∧ nI i < nI b) from h), rkS_add y (nI b), if_pos (by omega)]
      rw [if_neg (by omega)] at h1
      omega
    · have h2 : (if i ≤ a ∧ a < i + (k + 1) then 1 else 0) = (if i + 1 ≤ a ∧ a < i + 1 + k then 1 else 0) := by
        by_cases q : i ≤ a ∧ a < i + (k + 1)
        · rw [if_pos q, if_pos (by omega)]
        · rw [if_neg q, if_neg (by omega)]
      rw [h2]
      by_cases q : bts y i a
      · rw [if_pos (show drw y (nI a) < drw y (nI i) ∨ (drw y (nI i) = drw y (nI a) ∧ nI i < nI a) from q), if_pos (show drw y (nI b) < drw y (nI i) ∨ (drw y (nI i) = drw y (nI b) ∧ nI i < nI b) from bts_tr q h), rkS_add y (nI a), rkS_add y (nI b)]
        omega
      · rw [if_neg (show ¬ (drw y (nI a) < drw y (nI i) ∨ (drw y (nI i) = drw y (nI a) ∧ nI i < nI a)) from q)]
        by_cases q2 : bts y i b
        · rw [if_pos (show drw y (nI b) < drw y (nI i) ∨ (drw y (nI i) = drw y (nI b) ∧ nI i < nI b) from q2), rkS_add y (nI b)]
          omega
        · rw [if_neg (show ¬ (drw y (nI b) < drw y (nI i) ∨ (drw y (nI i) = drw y (nI b) ∧ nI i < nI b)) from q2)]
          exact h1
theorem rk_lt {y : Int32} {a N : Nat} (ha : a < N) : rkS y (nI a) N 0 0 < N := by
  have key : ∀ (k i : Nat), i ≤ a → a < i + k → rkS y (nI a) k i 0 < k := by
    intro k
    induction k with
    | zero => intro i h1 h2; omega
    | succ k ih =>
      intro i h1 h2
      unfold rkS
      by_cases e : i = a
      · subst e
        rw [if_neg (show ¬ (drw y (nI i) < drw y (nI i) ∨ (drw y (nI i) = drw y (nI i) ∧ nI i < nI i)) from bts_irr)]
        have := rkS_le y (nI i) k (i + 1)
        omega
      · have := ih (i + 1) (by omega) (by omega)
        split
        · rw [rkS_add]; omega
        · omega
  exact key N 0 (by omega) (by omega)
theorem rk_inj {y : Int32} {a b N : Nat} (ha : a < N) (hb : b < N) (hN : N < 2 ^ 31) (e : rkS y (nI a) N 0 0 = rkS y (nI b) N 0 0) : a = b := by
  refine Classical.byContradiction (fun h => ?_)
  rcases bts_tot (y := y) (show a < 2 ^ 31 by omega) (show b < 2 ^ 31 by omega) h with q | q
  · have := rkS_mono q N 0
    rw [if_pos (by omega)] at this
    omega
  · have := rkS_mono q N 0
    rw [if_pos (by omega)] at this
    omega
/-- each rank is that of some NODE -/
theorem rk_sur {y : Int32} {N r : Nat} (hN : N < 2 ^ 31) (hr : r < N) : ∃ a, a < N ∧ rkS y (nI a) N 0 0 = r := by
  refine Classical.byContradiction (fun h => ?_)
  have h1 : ∀ a, a < N → rkS y (nI a) N 0 0 ≠ r := fun a ha e => h ⟨a, ha, e⟩
  have h2 : (((List.range N).map (fun a => rkS y (nI a) N 0 0)) ++ [r]).Nodup := by
    rw [List.nodup_append]
    refine ⟨?_, by simp, fun x hx z hz e => ?_⟩
    · rw [List.Nodup, List.pairwise_map]
      refine List.Pairwise.imp_of_mem (fun {a b} ha hb hab e => hab (rk_inj (List.mem_range.mp ha) (List.mem_range.mp hb) hN e)) List.nodup_range
    · obtain ⟨a, ha, rfl⟩ := List.mem_map.mp hx
      rw [List.mem_singleton.mp hz] at e
      exact h1 a (List.mem_range.mp ha) e
  have h3 := nd_len N _ h2 (fun x hx => by
    rcases List.mem_append.mp hx with hx | hx
    · obtain ⟨a, ha, rfl⟩ := List.mem_map.mp hx
      exact rk_lt (List.mem_range.mp ha)
    · rw [List.mem_singleton.mp hx]; exact hr)
  simp at h3
  omega
set_option maxRecDepth 100000 in
theorem r_211 {L : Nat} {xs : Nat → Int32} {fr lo : Nat} {m p al AL : Nat} {h0 h : ax_H} {M : Nat → Nat → Int32} {x y z : Int32} (hfr : 2 ≤ fr) (hlo : 80 ≤ lo) (hC : RC m p al) (hS : RS m p al AL h0 h M) {nn cc gg : Nat} (e0 : M 0 0 = nI nn) (e1 : M 0 1 = nI cc) (e2 : M 0 2 = nI gg) (hcc : cc ≤ nn) (hnn : nn ≤ 6) (hgg1 : 1 ≤ gg) (hgg : gg ≤ 16) (hFL : FLM M) : ax_M L xs 211 fr lo [.ref m, .int x, .int y, .int z] h (fun r h' => ∃ v : Int32, r = some (.int v) ∧ (v < 0 ∨ (∃ c k : Nat, (M 0 20 = nI c ∧ c ≤ 48) ∧ k < c ∧ k < 48 ∧ x = nI k) ∧ ∃ s : Nat, s < 19 ∧ y = nI s) ∧ RS m p al AL h0 h' M) := by
  have hC0 := hC
  show ax_A (ax_step L xs) ((211, 0, fr, lo), [(0, .ref m), (1, .int x), (2, .int y), (3, .int z)], [], h) _
  obtain ⟨hmp, hal, hm0⟩ := hC
  obtain ⟨hF, hf, hn, hs, hp0⟩ := hS
  replace hF : ax_hs h [cRo m p al M, cRB p 2048 (M 8), cRB (p + 1) 400 (M 10), cRI (p + 2) 2 (M 11), cRI (p + 3) 48 (M 12), cRZ (p + 4) 48 (M 13), cRB (p + 5) 9600 (M 14), cRI (p + 6) 48 (M 15), cRI (p + 7) 48 (M 16), cRI (p + 8) 48 (M 17), cRB (p + 9) 393216 (M 18), cRZ (p + 10) 912 (M 19), cRI (p + 11) 12 (M 27), cRI (p + 12) 12 (M 28), cRI (p + 13) 12 (M 29), cRB (p + 14) 4800 (M 30), cRI (p + 15) 24 (M 31), cRB (p + 16) 24576 (M 32), cRI (p + 17) 12 (M 33), cRI al AL (M 34), cRI (p + 19) 24576 (M 35), cRI (p + 20) 12 (M 36)] := hF
  obtain ⟨c0, to, e20, e21, hI⟩ := hFL
  have hc48 := hI.1
  have q0 : (RV p al (M 0))[0]? = some (.int (nI nn)) := by rw [← e0]; rfl
  have q2 : (RV p al (M 0))[2]? = some (.int (nI gg)) := by rw [← e2]; rfl
  refine ar_aload_n 1 d_211_0 rfl rfl ?_
  refine ar_getf 4 d_211_1 rfl (ci := 11) (k := 7) rfl (hF.at 0 rfl) (show _ = some (.int ((M 0) 7)) from rfl) ?_
  refine ar_if_ne 10 7 d_211_4 (by decide) rfl (fun c1 => ?_) (fun c1 => ?_)
  · refine ar_iload_n 11 d_211_10 rfl rfl ?_
    refine ar_if_lt 63 14 d_211_11 (by decide) rfl (fun c2 => ?_) (fun c2 => ?_)
    · refine ar_bipush 65 (v := -2) d_211_63 rfl (by decide) ?_
      have hS9 : RS m p al AL h0 h M := ⟨hF, hf, hn, hs, hp0⟩
      exact ar_iret d_211_65 rfl rfl (⟨_, rfl, Or.inl (by decide), hS9⟩)
    · refine ar_iload_n 15 d_211_14 rfl rfl ?_
      refine ar_aload_n 16 d_211_15 rfl rfl ?_
      refine ar_getf 19 d_211_16 rfl (ci := 11) (k := 20) rfl (hF.at 0 rfl) (show _ = some (.int ((M 0) 20)) from rfl) ?_
      refine ar_top (x' := nI c0) (e20) ?_
      refine ar_icmp_ge 63 22 d_211_19 (by decide) rfl (fun c3 => ?_) (fun c3 => ?_)
      · refine ar_bipush 65 (v := -2) d_211_63 rfl (by decide) ?_
        have hS9 : RS m p al AL h0 h M := ⟨hF, hf, hn, hs, hp0⟩
        exact ar_iret d_211_65 rfl rfl (⟨_, rfl, Or.inl (by decide), hS9⟩)
      · refine ar_iload_n 23 d_211_22 rfl rfl ?_
        refine ar_if_lt 63 26 d_211_23 (by decide) rfl (fun c4 => ?_) (fun c4 => ?_)
        · refine ar_bipush 65 (v := -2) d_211_63 rfl (by decide) ?_
          have hS9 : RS m p al AL h0 h M := ⟨hF, hf, hn, hs, hp0⟩
          exact ar_iret d_211_65 rfl rfl (⟨_, rfl, Or.inl (by decide), hS9⟩)
        · refine ar_iload_n 27 d_211_26 rfl rfl ?_
          refine ar_bipush 29 (v := 18) d_211_27 rfl (by decide) ?_
          refine ar_icmp_gt 63 32 d_211_29 (by decide) rfl (fun c5 => ?_) (fun c5 => ?_)
          · refine ar_bipush 65 (v := -2) d_211_63 rfl (by decide) ?_
            have hS9 : RS m p al AL h0 h M := ⟨hF, hf, hn, hs, hp0⟩
            exact ar_iret d_211_65 rfl rfl (⟨_, rfl, Or.inl (by decide), hS9⟩)
          · refine ar_iload_n 33 d_211_32 rfl rfl ?_
            refine ar_if_lt 63 36 d_211_33 (by decide) rfl (fun c6 => ?_) (fun c6 => ?_)
            · refine ar_bipush 65 (v := -2) d_211_63 rfl (by decide) ?_
              have hS9 : RS m p al AL h0 h M := ⟨hF, hf, hn, hs, hp0⟩
              exact ar_iret d_211_65 rfl rfl (⟨_, rfl, Or.inl (by decide), hS9⟩)
            · refine ar_iload_n 37 d_211_36 rfl rfl ?_
              refine ar_aload_n 38 d_211_37 rfl rfl ?_
              refine ar_getf 41 d_211_38 rfl (ci := 11) (k := 1) rfl (hF.at 0 rfl) (show _ = some (.int ((M 0) 1)) from rfl) ?_
              refine ar_top (x' := nI cc) (e1) ?_
              refine ar_icmp_ge 63 44 d_211_41 (by decide) rfl (fun c7 => ?_) (fun c7 => ?_)
              · refine ar_bipush 65 (v := -2) d_211_63 rfl (by decide) ?_
                have hS9 : RS m p al AL h0 h M := ⟨hF, hf, hn, hs, hp0⟩
                exact ar_iret d_211_65 rfl rfl (⟨_, rfl, Or.inl (by decide), hS9⟩)
              · obtain ⟨k, hk, rfl⟩ := natLt c2 (by omega) (Int32.not_le.mp c3)
                obtain ⟨sv, hsv, rfl⟩ := natLt (x := y) (c := 19) c4 (by decide) (by
                    refine Int32.lt_of_le_of_lt (Int32.not_lt.mp c5) ?_
                    decide)
                obtain ⟨rv, hrv, rfl⟩ := natLt c6 (by omega) (Int32.not_le.mp c7)
                obtain ⟨hog1, hog2⟩ := hI.2.1 k hk
                have eog : M 12 k = nI (M 12 k).toNatClampNeg := nI_cl hog1
                generalize (M 12 k).toNatClampNeg = fi at hog2 eog
                obtain ⟨d0, hd0, ed0⟩ := hI.2.2.2.2.2.1 fi hog2
                refine ar_aload_n 45 d_211_44 rfl rfl ?_
                refine ar_getf 48 d_211_45 rfl (ci := 11) (k := 19) rfl (hF.at 0 rfl) (show _ = some (.ref (p + 10)) from rfl) ?_
                refine ar_bipush 50 (v := 19) d_211_48 rfl (by decide) ?_
                refine ar_aload_n 51 d_211_50 rfl rfl ?_
                refine ar_getf 54 d_211_51 rfl (ci := 11) (k := 12) rfl (hF.at 0 rfl) (show _ = some (.ref (p + 3)) from rfl) ?_
                refine ar_iload_n 55 d_211_54 rfl rfl ?_
                refine ar_iald 56 d_211_55 rfl (hF.at 4 rfl) (vin (by omega) (by omega)) ?_
                refine ar_top (x' := nI fi) (by rw [nI_clamp (show k < 2 ^ 31 by omega)]; exact eog) ?_
                refine ar_imul 57 d_211_56 rfl ?_
                refine ar_top (x' := nI (19 * fi)) (pk_mul 19 fi) ?_
                refine ar_iload_n 58 d_211_57 rfl rfl ?_
                refine ar_iadd 59 d_211_58 rfl ?_
                refine ar_top (x' := nI (19 * fi + sv)) (nI_add _ _) ?_
                refine ar_zald 60 d_211_59 rfl (hF.at 11 rfl) (vin (by omega) (by omega)) ?_
                refine ar_if_ne 66 63 d_211_60 (by decide) rfl (fun c8 => ?_) (fun c8 => ?_)
                · refine ar_iconst 67 (v := 0) d_211_66 rfl (by decide) ?_
                  refine ar_istore 69 [(0, .ref m), (1, .int (nI k)), (2, .int (nI sv)), (3, .int (nI rv)), (4, .int 0)] d_211_67 rfl (by decide) rfl ?_
                  obtain ⟨av, hav, eav⟩ := rk_sur (y := nI ((d0 * 31 + sv * 7) % gg)) (show nn < 2 ^ 31 by omega) (show rv < nn by omega)
                  have key : ∀ (k9 jv : Nat), jv + k9 = av → ax_A (ax_step L xs) ((211, 69, fr, lo), [(0, .ref m), (1, .int (nI k)), (2, .int (nI sv)), (3, .int (nI rv)), (4, .int (nI jv))], [], h) (fun r h' => ∃ y : Int32, r = some (.int y) ∧ (y < 0 ∨ (∃ c k1 : Nat, (M 0 20 = nI c ∧ c ≤ 48) ∧ k1 < c ∧ k1 < 48 ∧ nI k = nI k1) ∧ ∃ s1 : Nat, s1 < 19 ∧ nI sv = nI s1) ∧ RS m p al AL h0 h' M) := by
                    intro k9
                    induction k9 with
                    | zero =>
                      intro jv hj
                      have e0 : av = jv := by omega
                      subst e0
                      refine ar_aload_n 70 d_211_69 rfl rfl ?_
                      refine ar_aload_n 71 d_211_70 rfl rfl ?_
                      refine ar_getf 74 d_211_71 rfl (ci := 11) (k := 12) rfl (hF.at 0 rfl) (show _ = some (.ref (p + 3)) from rfl) ?_
                      refine ar_iload_n 75 d_211_74 rfl rfl ?_
                      refine ar_iald 76 d_211_75 rfl (hF.at 4 rfl) (vin (by omega) (by omega)) ?_
                      refine ar_top (x' := nI fi) (by rw [nI_clamp (show k < 2 ^ 31 by omega)]; exact eog) ?_
                      refine ar_iload_n 77 d_211_76 rfl rfl ?_
                      refine ar_iload 79 d_211_77 rfl rfl ?_
                      refine ar_call (r := []) (na := 0) (kd := 0) (cm := 212) (fr2 := fr - 1) (lo2 := lo - 26) 82 d_211_79 (ar_hoV (as := [.int (nI fi), .int (nI sv), .int (nI av)]) rfl rfl rfl (hF.at 0 rfl)) rfl (by omega) (show lo - 26 + (19 + 7) = lo by omega) (Nat.le_of_ble_eq_true rfl) (Nat.le_of_ble_eq_true rfl) (n_212 (by omega) (by omega) hog2 hsv ed0 hd0 (by omega) hgg hnn (hF.at 0 rfl) q0 q2 rfl (hF.at 8 rfl)) ?_
                      intro v hh hq
                      obtain ⟨rfl, ehh⟩ := hq
                      rw [ehh]
                      clear ehh
                      refine ar_iload_n 83 d_211_82 rfl rfl ?_
                      refine ar_icmp_eq 92 86 d_211_83 (by decide) rfl (fun _ => ?_) (fun c => absurd (by rw [eav]) c)
                      refine ar_iload 94 d_211_92 rfl rfl ?_
                      have hS9 : RS m p al AL h0 h M := ⟨hF, hf, hn, hs, hp0⟩
                      exact ar_iret d_211_94 rfl rfl (⟨_, rfl, Or.inr ⟨⟨c0, k, ⟨e20, hc48⟩, hk, by omega, rfl⟩, sv, hsv, rfl⟩, hS9⟩)
                    | succ k9 ih =>
                      intro jv hj
                      refine ar_aload_n 70 d_211_69 rfl rfl ?_
                      refine ar_aload_n 71 d_211_70 rfl rfl ?_
                      refine ar_getf 74 d_211_71 rfl (ci := 11) (k := 12) rfl (hF.at 0 rfl) (show _ = some (.ref (p + 3)) from rfl) ?_
                      refine ar_iload_n 75 d_211_74 rfl rfl ?_
                      refine ar_iald 76 d_211_75 rfl (hF.at 4 rfl) (vin (by omega) (by omega)) ?_
                      refine ar_top (x' := nI fi) (by rw [nI_clamp (show k < 2 ^ 31 by omega)]; exact eog) ?_
                      refine ar_iload_n 77 d_211_76 rfl rfl ?_
                      refine ar_iload 79 d_211_77 rfl rfl ?_
                      refine ar_call (r := []) (na := 0) (kd := 0) (cm := 212) (fr2 := fr - 1) (lo2 := lo - 26) 82 d_211_79 (ar_hoV (as := [.int (nI fi), .int (nI sv), .int (nI jv)]) rfl rfl rfl (hF.at 0 rfl)) rfl (by omega) (show lo - 26 + (19 + 7) = lo by omega) (Nat.le_of_ble_eq_true rfl) (Nat.le_of_ble_eq_true rfl) (n_212 (by omega) (by omega) hog2 hsv ed0 hd0 (by omega) hgg hnn (hF.at 0 rfl) q0 q2 rfl (hF.at 8 rfl)) ?_
                      intro v hh hq
                      obtain ⟨rfl, ehh⟩ := hq
                      rw [ehh]
                      clear ehh
                      refine ar_iload_n 83 d_211_82 rfl rfl ?_
                      refine ar_icmp_eq 92 86 d_211_83 (by decide) rfl (fun c9 => ?_) (fun c9 => ?_)
                      · refine ar_iload 94 d_211_92 rfl rfl ?_
                        have hS9 : RS m p al AL h0 h M := ⟨hF, hf, hn, hs, hp0⟩
                        exact ar_iret d_211_94 rfl rfl (⟨_, rfl, Or.inr ⟨⟨c0, k, ⟨e20, hc48⟩, hk, by omega, rfl⟩, sv, hsv, rfl⟩, hS9⟩)
                      · refine ar_iinc 89 [(0, .ref m), (1, .int (nI k)), (2, .int (nI sv)), (3, .int (nI rv)), (4, .int (nI (jv + 1)))] d_211_86 rfl rfl (nI_1 jv) (by decide) rfl ?_
                        refine ar_goto 69 d_211_89 (by decide) ?_
                        exact ih (jv + 1) (by omega)
                  exact key av 0 (by omega)
                · refine ar_bipush 65 (v := -2) d_211_63 rfl (by decide) ?_
                  have hS9 : RS m p al AL h0 h M := ⟨hF, hf, hn, hs, hp0⟩
                  exact ar_iret d_211_65 rfl rfl (⟨_, rfl, Or.inl (by decide), hS9⟩)
  · refine ar_bipush 9 (v := -6) d_211_7 rfl (by decide) ?_
    have hS9 : RS m p al AL h0 h M := ⟨hF, hf, hn, hs, hp0⟩
    exact ar_iret d_211_9 rfl rfl (⟨_, rfl, Or.inl (by decide), hS9⟩)


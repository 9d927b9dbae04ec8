/-! the reference: onDisk, holds, count -/

set_option maxRecDepth 100000 in
theorem r_214 {L : Nat} {xs : Nat → Int32} {fr lo : Nat} {m p al AL : Nat} {h0 h : ax_H} {M : Nat → Nat → Int32} {x y z v : Int32} (hfr : 3 ≤ fr) (hlo : 110 ≤ lo) (hC : RC m p al) (hS : RS m p al AL h0 h M) {nn cc gg : Nat} (e0 : M 0 0 = nI nn) (e1 : M 0 1 = nI cc) (e2 : M 0 2 = nI gg) (hcc : cc ≤ nn) (hnn : nn ≤ 6) (hgg1 : 1 ≤ gg) (hgg : gg ≤ 16) (hFL : FLM M) : ax_M L xs 214 fr lo [.ref m, .int x, .int y, .int z, .int v] h (fun r h' => ∃ y : Int32, r = some (.int y) ∧ RS m p al AL h0 h' M) := by
  have hC0 := hC
  show ax_A (ax_step L xs) ((214, 0, fr, lo), [(0, .ref m), (1, .int x), (2, .int y), (3, .int z), (4, .int v)], [], h) _
  obtain ⟨hmp, hal, hm0⟩ := hC
  obtain ⟨hF, hf, hn, hs, hp0⟩ := hS
  replace hF : ax_hs h [cRo m p al M, cRB p 2048 (M 8), cRB (p + 1) 400 (M 10), cRI (p + 2) 2 (M 11), cRI (p + 3) 48 (M 12), cRZ (p + 4) 48 (M 13), cRB (p + 5) 9600 (M 14), cRI (p + 6) 48 (M 15), cRI (p + 7) 48 (M 16), cRI (p + 8) 48 (M 17), cRB (p + 9) 393216 (M 18), cRZ (p + 10) 912 (M 19), cRI (p + 11) 12 (M 27), cRI (p + 12) 12 (M 28), cRI (p + 13) 12 (M 29), cRB (p + 14) 4800 (M 30), cRI (p + 15) 24 (M 31), cRB (p + 16) 24576 (M 32), cRI (p + 17) 12 (M 33), cRI al AL (M 34), cRI (p + 19) 24576 (M 35), cRI (p + 20) 12 (M 36)] := hF
  have hFL0 := hFL
  obtain ⟨c0, to, e20, e21, hI⟩ := hFL
  have hc48 := hI.1
  have hBc : ∀ k c1 : Nat, (M 0 20 = nI c1 ∧ c1 ≤ 48) → k < c1 ∧ k < 48 → k < c0 := fun k c1 e hk => by
    have := nI_inj (show c0 < 2 ^ 31 by omega) (show c1 < 2 ^ 31 by omega) (e20.symm.trans e.1)
    omega
  refine ar_aload_n 1 d_214_0 rfl rfl ?_
  refine ar_iload_n 2 d_214_1 rfl rfl ?_
  refine ar_iload_n 3 d_214_2 rfl rfl ?_
  refine ar_iload_n 4 d_214_3 rfl rfl ?_
  have hS1 : RS m p al AL h0 h M := ⟨hF, hf, hn, hs, hp0⟩
  refine ar_call (r := []) (na := 0) (kd := 0) (cm := 211) (fr2 := fr - 1) (lo2 := lo - 24) 7 d_214_4 (ar_hoV (as := [.int x, .int y, .int z]) rfl rfl rfl (hF.at 0 rfl)) rfl (by omega) (show lo - 24 + (19 + 5) = lo by omega) (Nat.le_of_ble_eq_true rfl) (Nat.le_of_ble_eq_true rfl) (r_211 (by omega) (by omega) hC0 hS1 e0 e1 e2 hcc hnn hgg1 hgg hFL0) ?_
  intro v hp_1 hq
  obtain ⟨wv, rfl, hwv, hS2⟩ := hq
  clear hS1 hF hf hn hs hp0
  obtain ⟨hF, hf, hn, hs, hp0⟩ := hS2
  replace hF : ax_hs hp_1 [cRo m p al M, cRB p 2048 (M 8), cRB (p + 1) 400 (M 10), cRI (p + 2) 2 (M 11), cRI (p + 3) 48 (M 12), cRZ (p + 4) 48 (M 13), cRB (p + 5) 9600 (M 14), cRI (p + 6) 48 (M 15), cRI (p + 7) 48 (M 16), cRI (p + 8) 48 (M 17), cRB (p + 9) 393216 (M 18), cRZ (p + 10) 912 (M 19), cRI (p + 11) 12 (M 27), cRI (p + 12) 12 (M 28), cRI (p + 13) 12 (M 29), cRB (p + 14) 4800 (M 30), cRI (p + 15) 24 (M 31), cRB (p + 16) 24576 (M 32), cRI (p + 17) 12 (M 33), cRI al AL (M 34), cRI (p + 19) 24576 (M 35), cRI (p + 20) 12 (M 36)] := hF
  by_cases hw0 : wv < 0
  · refine ar_istore 9 [(0, .ref m), (1, .int x), (2, .int y), (3, .int z), (4, .int v), (5, .int wv)] d_214_7 rfl (by decide) rfl ?_
    refine ar_iload 11 d_214_9 rfl rfl ?_
    refine ar_if_ge 17 14 d_214_11 (by decide) rfl (fun c => absurd c (Int32.not_le.mpr hw0)) (fun _ => ?_)
    refine ar_iload 16 d_214_14 rfl rfl ?_
    have hS9 : RS m p al AL h0 hp_1 M := ⟨hF, hf, hn, hs, hp0⟩
    exact ar_iret d_214_16 rfl rfl (⟨_, rfl, hS9⟩)
  · obtain ⟨⟨c1, k, e20b, hk, hk48, rfl⟩, sv, hsv, rfl⟩ := hwv.resolve_left hw0
    have hcc1 : c1 = c0 ∨ True := Or.inr trivial
    obtain ⟨hog1, hog2⟩ := hI.2.1 k (hBc k c1 e20b ⟨hk, hk48⟩)
    have eog : M 12 k = nI (M 12 k).toNatClampNeg := nI_cl hog1
    generalize (M 12 k).toNatClampNeg = fi at hog2 eog
    obtain ⟨zz, hzz, ezz⟩ := hI.2.2.2.2.2.2.1 fi hog2
    refine ar_istore 9 [(0, .ref m), (1, .int (nI k)), (2, .int (nI sv)), (3, .int z), (4, .int v), (5, .int wv)] d_214_7 rfl (by decide) rfl ?_
    refine ar_iload 11 d_214_9 rfl rfl ?_
    refine ar_if_ge 17 14 d_214_11 (by decide) rfl (fun _ => ?_) (fun c => absurd (Int32.not_lt.mp hw0) c)
    refine ar_sipush 20 (v := 448) d_214_17 rfl (by decide) ?_
    refine ar_iload_n 21 d_214_20 rfl rfl ?_
    refine ar_imul 22 d_214_21 rfl ?_
    refine ar_top (x' := nI (448 * sv)) (pk_mul 448 sv) ?_
    refine ar_iload 24 d_214_22 rfl rfl ?_
    refine ar_iadd 25 d_214_24 rfl ?_
    refine ar_istore 27 [(0, .ref m), (1, .int (nI k)), (2, .int (nI sv)), (3, .int z), (4, .int v), (5, .int wv), (6, .int ((nI (448 * sv)) + v))] d_214_25 rfl (by decide) rfl ?_
    refine ar_iload 29 d_214_27 rfl rfl ?_
    refine ar_if_lt 56 32 d_214_29 (by decide) rfl (fun c1 => ?_) (fun c1 => ?_)
    · refine ar_bipush 58 (v := -2) d_214_56 rfl (by decide) ?_
      have hS9 : RS m p al AL h0 hp_1 M := ⟨hF, hf, hn, hs, hp0⟩
      exact ar_iret d_214_58 rfl rfl (⟨_, rfl, hS9⟩)
    · obtain ⟨iv, hiv, rfl⟩ := natOf c1
      refine ar_iload 34 d_214_32 rfl rfl ?_
      refine ar_sipush 37 (v := 448) d_214_34 rfl (by decide) ?_
      refine ar_icmp_ge 56 40 d_214_37 (by decide) rfl (fun c2 => ?_) (fun c2 => ?_)
      · refine ar_bipush 58 (v := -2) d_214_56 rfl (by decide) ?_
        have hS9 : RS m p al AL h0 hp_1 M := ⟨hF, hf, hn, hs, hp0⟩
        exact ar_iret d_214_58 rfl rfl (⟨_, rfl, hS9⟩)
      · have hi4 : iv < 448 := (nI_ltI hiv (by decide)).mp (show nI iv < nI 448 from Int32.not_le.mp c2)
        rw [nI_add]
        refine ar_iload 42 d_214_40 rfl rfl ?_
        refine ar_aload_n 43 d_214_42 rfl rfl ?_
        refine ar_getf 46 d_214_43 rfl (ci := 11) (k := 17) rfl (hF.at 0 rfl) (show _ = some (.ref (p + 8)) from rfl) ?_
        refine ar_aload_n 47 d_214_46 rfl rfl ?_
        refine ar_getf 50 d_214_47 rfl (ci := 11) (k := 12) rfl (hF.at 0 rfl) (show _ = some (.ref (p + 3)) from rfl) ?_
        refine ar_iload_n 51 d_214_50 rfl rfl ?_
        refine ar_iald 52 d_214_51 rfl (hF.at 4 rfl) (vin (by omega) (by omega)) ?_
        refine ar_top (x' := nI fi) (by rw [nI_clamp (show k < 2 ^ 31 by omega)]; exact eog) ?_
        refine ar_iald 53 d_214_52 rfl (hF.at 9 rfl) (vin (by omega) (by omega)) ?_
        refine ar_top (x' := nI zz) (by rw [nI_clamp (show fi < 2 ^ 31 by omega)]; exact ezz) ?_
        refine ar_icmp_lt 59 56 d_214_53 (by decide) rfl (fun c3 => ?_) (fun c3 => ?_)
        · have hz8 : 448 * sv + iv < zz := (nI_ltI (by omega) (by omega)).mp c3
          refine ar_aload_n 60 d_214_59 rfl rfl ?_
          refine ar_getf 63 d_214_60 rfl (ci := 11) (k := 18) rfl (hF.at 0 rfl) (show _ = some (.ref (p + 9)) from rfl) ?_
          refine ar_sipush 66 (v := 8192) d_214_63 rfl (by decide) ?_
          refine ar_aload_n 67 d_214_66 rfl rfl ?_
          refine ar_getf 70 d_214_67 rfl (ci := 11) (k := 12) rfl (hF.at 0 rfl) (show _ = some (.ref (p + 3)) from rfl) ?_
          refine ar_iload_n 71 d_214_70 rfl rfl ?_
          refine ar_iald 72 d_214_71 rfl (hF.at 4 rfl) (vin (by omega) (by omega)) ?_
          refine ar_top (x' := nI fi) (by rw [nI_clamp (show k < 2 ^ 31 by omega)]; exact eog) ?_
          refine ar_imul 73 d_214_72 rfl ?_
          refine ar_top (x' := nI (8192 * fi)) (pk_mul 8192 fi) ?_
          refine ar_iload 75 d_214_73 rfl rfl ?_
          refine ar_iadd 76 d_214_75 rfl ?_
          refine ar_top (x' := nI (8192 * fi + (448 * sv + iv))) (nI_add _ _) ?_
          refine ar_bald 77 d_214_76 rfl (hF.at 10 rfl) (vin (by omega) (by omega)) ?_
          refine ar_sipush 80 (v := 255) d_214_77 rfl (by decide) ?_
          refine ar_iand 81 d_214_80 rfl ?_
          have hS9 : RS m p al AL h0 hp_1 M := ⟨hF, hf, hn, hs, hp0⟩
          exact ar_iret d_214_81 rfl rfl (⟨_, rfl, hS9⟩)
        · refine ar_bipush 58 (v := -2) d_214_56 rfl (by decide) ?_
          have hS9 : RS m p al AL h0 hp_1 M := ⟨hF, hf, hn, hs, hp0⟩
          exact ar_iret d_214_58 rfl rfl (⟨_, rfl, hS9⟩)
def rcnV (M : Nat → Nat → Int32) (x y : Int32) : Int32 := if x = 0 then M 0 22 else if x = 1 then M 0 23 else if x = 2 then M 0 24 else if x = 3 then M 0 25 else if x = 4 then M 0 26 else if x = 5 then M 0 5 else if x = 6 then y else if x = 7 then M 0 4 else if x = 8 then M 0 6 else if x = 9 then M 0 9 else if x = 10 then M 0 7 else -1
theorem rcnV_out {M : Nat → Nat → Int32} {x y : Int32} (h : x.toInt < 0 ∨ (10 : Int) < x.toInt) : rcnV M x y = -1 := by
  have key : ∀ y : Int32, 0 ≤ y.toInt → y.toInt ≤ 10 → ¬ x = y := fun y h1 h2 e => by rw [e] at h; omega
  unfold rcnV
  rw [if_neg (key 0 (by decide) (by decide)), if_neg (key 1 (by decide) (by decide)), if_neg (key 2 (by decide) (by decide)), if_neg (key 3 (by decide) (by decide)), if_neg (key 4 (by decide) (by decide)), if_neg (key 5 (by decide) (by decide)), if_neg (key 6 (by decide) (by decide)), if_neg (key 7 (by decide) (by decide)), if_neg (key 8 (by decide) (by decide)), if_neg (key 9 (by decide) (by decide)), if_neg (key 10 (by decide) (by decide))]
theorem r_217 {L : Nat} {xs : Nat → Int32} {fr lo : Nat} {m p al AL : Nat} {h0 h : ax_H} {M : Nat → Nat → Int32} {x : Int32} (hfr : 1 ≤ fr) (hlo : 40 ≤ lo) (hC : RC m p al) (hS : RS m p al AL h0 h M) (h7 : M 0 7 = 0 ∨ M 0 7 = 1) : ax_M L xs 217 fr lo [.ref m, .int x] h (fun r h' => ∃ y : Int32, r = some (.int (rcnV M x y)) ∧ RS m p al AL h0 h' M) := by
  have hC0 := hC
  show ax_A (ax_step L xs) ((217, 0, fr, lo), [(0, .ref m), (1, .int x)], [], h) _
  obtain ⟨hmp, hal, hm0⟩ := hC
  obtain ⟨hF, hf, hn, hs, hp0⟩ := hS
  replace hF : ax_hs h [cRo m p al M, cRB p 2048 (M 8), cRB (p + 1) 400 (M 10), cRI (p + 2) 2 (M 11), cRI (p + 3) 48 (M 12), cRZ (p + 4) 48 (M 13), cRB (p + 5) 9600 (M 14), cRI (p + 6) 48 (M 15), cRI (p + 7) 48 (M 16), cRI (p + 8) 48 (M 17), cRB (p + 9) 393216 (M 18), cRZ (p + 10) 912 (M 19), cRI (p + 11) 12 (M 27), cRI (p + 12) 12 (M 28), cRI (p + 13) 12 (M 29), cRB (p + 14) 4800 (M 30), cRI (p + 15) 24 (M 31), cRB (p + 16) 24576 (M 32), cRI (p + 17) 12 (M 33), cRI al AL (M 34), cRI (p + 19) 24576 (M 35), cRI (p + 20) 12 (M 36)] := hF
  refine ar_iload_n 1 d_217_0 rfl rfl ?_
  by_cases hr : x.toInt < 0 ∨ (10 : Int) < x.toInt
  · refine ar_tabOut 126 d_217_1 hr (by decide) ?_
    refine ar_iconst 127 (v := -1) d_217_126 rfl (by decide) ?_
    have hS9 : RS m p al AL h0 h M := ⟨hF, hf, hn, hs, hp0⟩
    exact ar_iret d_217_127 rfl rfl (⟨0, by rw [rcnV_out hr], hS9⟩)
  · obtain ⟨k, hk, rfl⟩ := cnt_in hr
    have hk2 : k = 0 ∨ k = 1 ∨ k = 2 ∨ k = 3 ∨ k = 4 ∨ k = 5 ∨ k = 6 ∨ k = 7 ∨ k = 8 ∨ k = 9 ∨ k = 10 := by omega
    rcases hk2 with rfl | rfl | rfl | rfl | rfl | rfl | rfl | rfl | rfl | rfl | rfl
    · refine ar_tabIn 60 d_217_1 (by decide) (off := 59) rfl (by decide) ?_
      refine ar_aload_n 61 d_217_60 rfl rfl ?_
      refine ar_getf 64 d_217_61 rfl (ci := 11) (k := 22) rfl (hF.at 0 rfl) (show _ = some (.int ((M 0) 22)) from rfl) ?_
      have hS9 : RS m p al AL h0 h M := ⟨hF, hf, hn, hs, hp0⟩
      exact ar_iret d_217_64 rfl rfl (⟨0, rfl, hS9⟩)
    · refine ar_tabIn 65 d_217_1 (by decide) (off := 64) rfl (by decide) ?_
      refine ar_aload_n 66 d_217_65 rfl rfl ?_
      refine ar_getf 69 d_217_66 rfl (ci := 11) (k := 23) rfl (hF.at 0 rfl) (show _ = some (.int ((M 0) 23)) from rfl) ?_
      have hS9 : RS m p al AL h0 h M := ⟨hF, hf, hn, hs, hp0⟩
      exact ar_iret d_217_69 rfl rfl (⟨0, rfl, hS9⟩)
    · refine ar_tabIn 70 d_217_1 (by decide) (off := 69) rfl (by decide) ?_
      refine ar_aload_n 71 d_217_70 rfl rfl ?_
      refine ar_getf 74 d_217_71 rfl (ci := 11) (k := 24) rfl (hF.at 0 rfl) (show _ = some (.int ((M 0) 24)) from rfl) ?_
      have hS9 : RS m p al AL h0 h M := ⟨hF, hf, hn, hs, hp0⟩
      exact ar_iret d_217_74 rfl rfl (⟨0, rfl, hS9⟩)
    · refine ar_tabIn 75 d_217_1 (by decide) (off := 74) rfl (by decide) ?_
      refine ar_aload_n 76 d_217_75 rfl rfl ?_
      refine ar_getf 79 d_217_76 rfl (ci := 11) (k := 25) rfl (hF.at 0 rfl) (show _ = some (.int ((M 0) 25)) from rfl) ?_
      have hS9 : RS m p al AL h0 h M := ⟨hF, hf, hn, hs, hp0⟩
      exact ar_iret d_217_79 rfl rfl (⟨0, rfl, hS9⟩)
    · refine ar_tabIn 80 d_217_1 (by decide) (off := 79) rfl (by decide) ?_
      refine ar_aload_n 81 d_217_80 rfl rfl ?_
      refine ar_getf 84 d_217_81 rfl (ci := 11) (k := 26) rfl (hF.at 0 rfl) (show _ = some (.int ((M 0) 26)) from rfl) ?_
      have hS9 : RS m p al AL h0 h M := ⟨hF, hf, hn, hs, hp0⟩
      exact ar_iret d_217_84 rfl rfl (⟨0, rfl, hS9⟩)
    · refine ar_tabIn 85 d_217_1 (by decide) (off := 84) rfl (by decide) ?_
      refine ar_aload_n 86 d_217_85 rfl rfl ?_
      refine ar_getf 89 d_217_86 rfl (ci := 11) (k := 5) rfl (hF.at 0 rfl) (show _ = some (.int ((M 0) 5)) from rfl) ?_
      have hS9 : RS m p al AL h0 h M := ⟨hF, hf, hn, hs, hp0⟩
      exact ar_iret d_217_89 rfl rfl (⟨0, rfl, hS9⟩)
    · refine ar_tabIn 90 d_217_1 (by decide) (off := 89) rfl (by decide) ?_
      refine ar_aload_n 91 d_217_90 rfl rfl ?_
      refine ar_getf 94 d_217_91 rfl (ci := 11) (k := 3) rfl (hF.at 0 rfl) (show _ = some (.int ((M 0) 3)) from rfl) ?_
      refine ar_call (r := []) (na := 0) (kd := 0) (cm := 218) (fr2 := fr - 1) (lo2 := lo - 22) 97 d_217_94 (ar_hoS (as := [.int ((M 0) 3)]) rfl rfl rfl) rfl (by omega) (show lo - 22 + (19 + 3) = lo by omega) (Nat.le_of_ble_eq_true rfl) (Nat.le_of_ble_eq_true rfl) (r_218) ?_
      intro v hh hq
      obtain ⟨y1, rfl, ehh⟩ := hq
      rw [ehh]
      clear ehh
      have hS9 : RS m p al AL h0 h M := ⟨hF, hf, hn, hs, hp0⟩
      exact ar_iret d_217_97 rfl rfl (⟨y1, rfl, hS9⟩)
    · refine ar_tabIn 98 d_217_1 (by decide) (off := 97) rfl (by decide) ?_
      refine ar_aload_n 99 d_217_98 rfl rfl ?_
      refine ar_getf 102 d_217_99 rfl (ci := 11) (k := 4) rfl (hF.at 0 rfl) (show _ = some (.int ((M 0) 4)) from rfl) ?_
      have hS9 : RS m p al AL h0 h M := ⟨hF, hf, hn, hs, hp0⟩
      exact ar_iret d_217_102 rfl rfl (⟨0, rfl, hS9⟩)
    · refine ar_tabIn 103 d_217_1 (by decide) (off := 102) rfl (by decide) ?_
      refine ar_aload_n 104 d_217_103 rfl rfl ?_
      refine ar_getf 107 d_217_104 rfl (ci := 11) (k := 6) rfl (hF.at 0 rfl) (show _ = some (.int ((M 0) 6)) from rfl) ?_
      have hS9 : RS m p al AL h0 h M := ⟨hF, hf, hn, hs, hp0⟩
      exact ar_iret d_217_107 rfl rfl (⟨0, rfl, hS9⟩)
    · refine ar_tabIn 108 d_217_1 (by decide) (off := 107) rfl (by decide) ?_
      refine ar_aload_n 109 d_217_108 rfl rfl ?_
      refine ar_getf 112 d_217_109 rfl (ci := 11) (k := 9) rfl (hF.at 0 rfl) (show _ = some (.int ((M 0) 9)) from rfl) ?_
      have hS9 : RS m p al AL h0 h M := ⟨hF, hf, hn, hs, hp0⟩
      exact ar_iret d_217_112 rfl rfl (⟨0, rfl, hS9⟩)
    · refine ar_tabIn 113 d_217_1 (by decide) (off := 112) rfl (by decide) ?_
      refine ar_aload_n 114 d_217_113 rfl rfl ?_
      refine ar_getf 117 d_217_114 rfl (ci := 11) (k := 7) rfl (hF.at 0 rfl) (show _ = some (.int ((M 0) 7)) from rfl) ?_
      refine ar_if_eq 124 120 d_217_117 (by decide) rfl (fun q1 => ?_) (fun q1 => ?_)
      · refine ar_iconst 125 (v := 0) d_217_124 rfl (by decide) ?_
        have hS9 : RS m p al AL h0 h M := ⟨hF, hf, hn, hs, hp0⟩
        exact ar_iret d_217_125 rfl rfl (⟨0, by rw [show rcnV M (nI 10) 0 = M 0 7 from rfl, q1], hS9⟩)
      · refine ar_iconst 121 (v := 1) d_217_120 rfl (by decide) ?_
        refine ar_goto 125 d_217_121 (by decide) ?_
        have hS9 : RS m p al AL h0 h M := ⟨hF, hf, hn, hs, hp0⟩
        exact ar_iret d_217_125 rfl rfl (⟨0, by rw [show rcnV M (nI 10) 0 = M 0 7 from rfl, h7.resolve_left q1], hS9⟩)
set_option maxRecDepth 100000 in
theorem r_215 {L : Nat} {xs : Nat → Int32} {fr lo : Nat} {m p al AL : Nat} {h0 h : ax_H} {M : Nat → Nat → Int32} {x : Int32} (hfr : 2 ≤ fr) (hlo : 80 ≤ lo) (hC : RC m p al) (hS : RS m p al AL h0 h M) {nn cc gg : Nat} (e0 : M 0 0 = nI nn) (e1 : M 0 1 = nI cc) (e2 : M 0 2 = nI gg) (hcc : cc ≤ nn) (hnn : nn ≤ 6) (hgg1 : 1 ≤ gg) (hgg : gg ≤ 16) (hFL : FLM M) : ax_M L xs 215 fr lo [.ref m, .int x] h (fun r h' => ∃ y : Int32, r = some (.int y) ∧ RS m p al AL h0 h' M) := by
  have hC0 := hC
  have hS0 := hS
  obtain ⟨hmp, hal, hm0⟩ := hC
  obtain ⟨c0, to, e20, e21, hI⟩ := hFL
  have hc48 := hI.1
  have q0 : (RV p al (M 0))[0]? = some (.int (nI nn)) := by rw [← e0]; rfl
  have q2 : (RV p al (M 0))[2]? = some (.int (nI gg)) := by rw [← e2]; rfl
  have key : ∀ (k i : Nat) (cv : Int32), i + k = c0 → ax_A (ax_step L xs) ((215, 28, fr, lo), [(0, .ref m), (1, .int x), (2, .int cv), (3, .int (nI i))], [], h) (fun r h' => ∃ y : Int32, r = some (.int y) ∧ RS m p al AL h0 h' M) := by
    intro k
    induction k with
    | zero =>
      intro i cv hi
      have e9 : c0 = i := by omega
      subst e9
      obtain ⟨hF, hf, hn, hs, hp0⟩ := hS0
      replace hF : ax_hs h [cRo m p al M, cRB p 2048 (M 8), cRB (p + 1) 400 (M 10), cRI (p + 2) 2 (M 11), cRI (p + 3) 48 (M 12), cRZ (p + 4) 48 (M 13), cRB (p + 5) 9600 (M 14), cRI (p + 6) 48 (M 15), cRI (p + 7) 48 (M 16), cRI (p + 8) 48 (M 17), cRB (p + 9) 393216 (M 18), cRZ (p + 10) 912 (M 19), cRI (p + 11) 12 (M 27), cRI (p + 12) 12 (M 28), cRI (p + 13) 12 (M 29), cRB (p + 14) 4800 (M 30), cRI (p + 15) 24 (M 31), cRB (p + 16) 24576 (M 32), cRI (p + 17) 12 (M 33), cRI al AL (M 34), cRI (p + 19) 24576 (M 35), cRI (p + 20) 12 (M 36)] := hF
      refine ar_iload_n 29 d_215_28 rfl rfl ?_
      refine ar_aload_n 30 d_215_29 rfl rfl ?_
      refine ar_getf 33 d_215_30 rfl (ci := 11) (k := 20) rfl (hF.at 0 rfl) (show _ = some (.int ((M 0) 20)) from rfl) ?_
      refine ar_top (x' := nI c0) (e20) ?_
      refine ar_icmp_ge 106 36 d_215_33 (by decide) rfl (fun _ => ?_) (fun c => absurd (Int32.le_refl _) c)
      refine ar_iload_n 107 d_215_106 rfl rfl ?_
      have hS9 : RS m p al AL h0 h M := ⟨hF, hf, hn, hs, hp0⟩
      exact ar_iret d_215_107 rfl rfl (⟨_, rfl, hS9⟩)
    | succ k ih =>
      intro i cv hi
      have hic : i < c0 := by omega
      obtain ⟨hog1, hog2⟩ := hI.2.1 i hic
      have eog : M 12 i = nI (M 12 i).toNatClampNeg := nI_cl hog1
      generalize (M 12 i).toNatClampNeg = fi at hog2 eog
      obtain ⟨d0, hd0, ed0⟩ := hI.2.2.2.2.2.1 fi hog2
      have key2 : ∀ (k2 j : Nat) (cv : Int32), j + k2 = 19 → ax_A (ax_step L xs) ((215, 39, fr, lo), [(0, .ref m), (1, .int x), (2, .int cv), (3, .int (nI i)), (4, .int (nI j))], [], h) (fun r h' => ∃ y : Int32, r = some (.int y) ∧ RS m p al AL h0 h' M) := by
        intro k2
        induction k2 with
        | zero =>
          intro j cv hj
          have e9 : 19 = j := by omega
          subst e9
          obtain ⟨hF, hf, hn, hs, hp0⟩ := hS0
          replace hF : ax_hs h [cRo m p al M, cRB p 2048 (M 8), cRB (p + 1) 400 (M 10), cRI (p + 2) 2 (M 11), cRI (p + 3) 48 (M 12), cRZ (p + 4) 48 (M 13), cRB (p + 5) 9600 (M 14), cRI (p + 6) 48 (M 15), cRI (p + 7) 48 (M 16), cRI (p + 8) 48 (M 17), cRB (p + 9) 393216 (M 18), cRZ (p + 10) 912 (M 19), cRI (p + 11) 12 (M 27), cRI (p + 12) 12 (M 28), cRI (p + 13) 12 (M 29), cRB (p + 14) 4800 (M 30), cRI (p + 15) 24 (M 31), cRB (p + 16) 24576 (M 32), cRI (p + 17) 12 (M 33), cRI al AL (M 34), cRI (p + 19) 24576 (M 35), cRI (p + 20) 12 (M 36)] := hF
          refine ar_iload 41 d_215_39 rfl rfl ?_
          refine ar_bipush 43 (v := 19) d_215_41 rfl (by decide) ?_
          refine ar_icmp_ge 100 46 d_215_43 (by decide) rfl (fun _ => ?_) (fun c => absurd (Int32.le_refl _) c)
          refine ar_iinc 103 [(0, .ref m), (1, .int x), (2, .int cv), (3, .int (nI (i + 1))), (4, .int (nI 19))] d_215_100 rfl rfl (nI_1 i) (by decide) rfl ?_
          refine ar_goto 28 d_215_103 (by decide) ?_
          refine ar_wk [0, 1, 2, 3] rfl (by simp) ?_
          exact ih (i + 1) cv (by omega)
        | succ k2 ih2 =>
          intro j cv hj
          have hjc : j < 19 := by omega
          obtain ⟨hF, hf, hn, hs, hp0⟩ := hS0
          replace hF : ax_hs h [cRo m p al M, cRB p 2048 (M 8), cRB (p + 1) 400 (M 10), cRI (p + 2) 2 (M 11), cRI (p + 3) 48 (M 12), cRZ (p + 4) 48 (M 13), cRB (p + 5) 9600 (M 14), cRI (p + 6) 48 (M 15), cRI (p + 7) 48 (M 16), cRI (p + 8) 48 (M 17), cRB (p + 9) 393216 (M 18), cRZ (p + 10) 912 (M 19), cRI (p + 11) 12 (M 27), cRI (p + 12) 12 (M 28), cRI (p + 13) 12 (M 29), cRB (p + 14) 4800 (M 30), cRI (p + 15) 24 (M 31), cRB (p + 16) 24576 (M 32), cRI (p + 17) 12 (M 33), cRI al AL (M 34), cRI (p + 19) 24576 (M 35), cRI (p + 20) 12 (M 36)] := hF
          refine ar_iload 41 d_215_39 rfl rfl ?_
          refine ar_bipush 43 (v := 19) d_215_41 rfl (by decide) ?_
          refine ar_icmp_ge 100 46 d_215_43 (by decide) rfl (fun c => absurd c (nI_ge hjc (by decide))) (fun _ => ?_)
          refine ar_iload_n 47 d_215_46 rfl rfl ?_
          refine ar_aload_n 48 d_215_47 rfl rfl ?_
          refine ar_getf 51 d_215_48 rfl (ci := 11) (k := 19) rfl (hF.at 0 rfl) (show _ = some (.ref (p + 10)) from rfl) ?_
          refine ar_bipush 53 (v := 19) d_215_51 rfl (by decide) ?_
          refine ar_aload_n 54 d_215_53 rfl rfl ?_
          refine ar_getf 57 d_215_54 rfl (ci := 11) (k := 12) rfl (hF.at 0 rfl) (show _ = some (.ref (p + 3)) from rfl) ?_
          refine ar_iload_n 58 d_215_57 rfl rfl ?_
          refine ar_iald 59 d_215_58 rfl (hF.at 4 rfl) (vin (by omega) (by omega)) ?_
          refine ar_top (x' := nI fi) (by rw [nI_clamp (show i < 2 ^ 31 by omega)]; exact eog) ?_
          refine ar_imul 60 d_215_59 rfl ?_
          refine ar_top (x' := nI (19 * fi)) (pk_mul 19 fi) ?_
          refine ar_iload 62 d_215_60 rfl rfl ?_
          refine ar_iadd 63 d_215_62 rfl ?_
          refine ar_top (x' := nI (19 * fi + j)) (nI_add _ _) ?_
          refine ar_zald 64 d_215_63 rfl (hF.at 11 rfl) (vin (by omega) (by omega)) ?_
          refine ar_if_eq 91 67 d_215_64 (by decide) rfl (fun c1 => ?_) (fun c1 => ?_)
          · refine ar_iconst 92 (v := 0) d_215_91 rfl (by decide) ?_
            refine ar_iadd 93 d_215_92 rfl ?_
            refine ar_istore_n 94 [(0, .ref m), (1, .int x), (2, .int (cv + 0)), (3, .int (nI i)), (4, .int (nI j))] d_215_93 rfl (by decide) rfl ?_
            refine ar_iinc 97 [(0, .ref m), (1, .int x), (2, .int (cv + 0)), (3, .int (nI i)), (4, .int (nI (j + 1)))] d_215_94 rfl rfl (nI_1 j) (by decide) rfl ?_
            refine ar_goto 39 d_215_97 (by decide) ?_
            exact ih2 (j + 1) _ (by omega)
          · refine ar_aload_n 68 d_215_67 rfl rfl ?_
            refine ar_aload_n 69 d_215_68 rfl rfl ?_
            refine ar_getf 72 d_215_69 rfl (ci := 11) (k := 12) rfl (hF.at 0 rfl) (show _ = some (.ref (p + 3)) from rfl) ?_
            refine ar_iload_n 73 d_215_72 rfl rfl ?_
            refine ar_iald 74 d_215_73 rfl (hF.at 4 rfl) (vin (by omega) (by omega)) ?_
            refine ar_top (x' := nI fi) (by rw [nI_clamp (show i < 2 ^ 31 by omega)]; exact eog) ?_
            refine ar_iload 76 d_215_74 rfl rfl ?_
            refine ar_iload_n 77 d_215_76 rfl rfl ?_
            refine ar_call (r := [.int cv]) (na := 0) (kd := 0) (cm := 212) (fr2 := fr - 1) (lo2 := lo - 26) 80 d_215_77 (ar_hoV (as := [.int (nI fi), .int (nI j), .int x]) rfl rfl rfl (hF.at 0 rfl)) rfl (by omega) (show lo - 26 + (19 + 7) = lo by omega) (Nat.le_of_ble_eq_true rfl) (Nat.le_of_ble_eq_true rfl) (n_212 (by omega) (by omega) hog2 hjc ed0 hd0 (by omega) hgg hnn (hF.at 0 rfl) q0 q2 rfl (hF.at 8 rfl)) ?_
            intro v hh hq
            obtain ⟨rfl, ehh⟩ := hq
            rw [ehh]
            clear ehh
            refine ar_aload_n 81 d_215_80 rfl rfl ?_
            refine ar_getf 84 d_215_81 rfl (ci := 11) (k := 1) rfl (hF.at 0 rfl) (show _ = some (.int ((M 0) 1)) from rfl) ?_
            refine ar_icmp_ge 91 87 d_215_84 (by decide) rfl (fun c2 => ?_) (fun c2 => ?_)
            · refine ar_iconst 92 (v := 0) d_215_91 rfl (by decide) ?_
              refine ar_iadd 93 d_215_92 rfl ?_
              refine ar_istore_n 94 [(0, .ref m), (1, .int x), (2, .int (cv + 0)), (3, .int (nI i)), (4, .int (nI j))] d_215_93 rfl (by decide) rfl ?_
              refine ar_iinc 97 [(0, .ref m), (1, .int x), (2, .int (cv + 0)), (3, .int (nI i)), (4, .int (nI (j + 1)))] d_215_94 rfl rfl (nI_1 j) (by decide) rfl ?_
              refine ar_goto 39 d_215_97 (by decide) ?_
              exact ih2 (j + 1) _ (by omega)
            · refine ar_iconst 88 (v := 1) d_215_87 rfl (by decide) ?_
              refine ar_goto 92 d_215_88 (by decide) ?_
              refine ar_iadd 93 d_215_92 rfl ?_
              refine ar_istore_n 94 [(0, .ref m), (1, .int x), (2, .int (cv + 1)), (3, .int (nI i)), (4, .int (nI j))] d_215_93 rfl (by decide) rfl ?_
              refine ar_iinc 97 [(0, .ref m), (1, .int x), (2, .int (cv + 1)), (3, .int (nI i)), (4, .int (nI (j + 1)))] d_215_94 rfl rfl (nI_1 j) (by decide) rfl ?_
              refine ar_goto 39 d_215_97 (by decide) ?_
              exact ih2 (j + 1) _ (by omega)
      obtain ⟨hF, hf, hn, hs, hp0⟩ := hS0
      replace hF : ax_hs h [cRo m p al M, cRB p 2048 (M 8), cRB (p + 1) 400 (M 10), cRI (p + 2) 2 (M 11), cRI (p + 3) 48 (M 12), cRZ (p + 4) 48 (M 13), cRB (p + 5) 9600 (M 14), cRI (p + 6) 48 (M 15), cRI (p + 7) 48 (M 16), cRI (p + 8) 48 (M 17), cRB (p + 9) 393216 (M 18), cRZ (p + 10) 912 (M 19), cRI (p + 11) 12 (M 27), cRI (p + 12) 12 (M 28), cRI (p + 13) 12 (M 29), cRB (p + 14) 4800 (M 30), cRI (p + 15) 24 (M 31), cRB (p + 16) 24576 (M 32), cRI (p + 17) 12 (M 33), cRI al AL (M 34), cRI (p + 19) 24576 (M 35), cRI (p + 20) 12 (M 36)] := hF
      refine ar_iload_n 29 d_215_28 rfl rfl ?_
      refine ar_aload_n 30 d_215_29 rfl rfl ?_
      refine ar_getf 33 d_215_30 rfl (ci := 11) (k := 20) rfl (hF.at 0 rfl) (show _ = some (.int ((M 0) 20)) from rfl) ?_
      refine ar_top (x' := nI c0) (e20) ?_
      refine ar_icmp_ge 106 36 d_215_33 (by decide) rfl (fun c => absurd c (nI_ge hic (by omega))) (fun _ => ?_)
      refine ar_iconst 37 (v := 0) d_215_36 rfl (by decide) ?_
      refine ar_istore 39 [(0, .ref m), (1, .int x), (2, .int cv), (3, .int (nI i)), (4, .int 0)] d_215_37 rfl (by decide) rfl ?_
      exact key2 19 0 cv (by omega)
  show ax_A (ax_step L xs) ((215, 0, fr, lo), [(0, .ref m), (1, .int x)], [], h) _
  obtain ⟨hF, hf, hn, hs, hp0⟩ := hS
  replace hF : ax_hs h [cRo m p al M, cRB p 2048 (M 8), cRB (p + 1) 400 (M 10), cRI (p + 2) 2 (M 11), cRI (p + 3) 48 (M 12), cRZ (p + 4) 48 (M 13), cRB (p + 5) 9600 (M 14), cRI (p + 6) 48 (M 15), cRI (p + 7) 48 (M 16), cRI (p + 8) 48 (M 17), cRB (p + 9) 393216 (M 18), cRZ (p + 10) 912 (M 19), cRI (p + 11) 12 (M 27), cRI (p + 12) 12 (M 28), cRI (p + 13) 12 (M 29), cRB (p + 14) 4800 (M 30), cRI (p + 15) 24 (M 31), cRB (p + 16) 24576 (M 32), cRI (p + 17) 12 (M 33), cRI al AL (M 34), cRI (p + 19) 24576 (M 35), cRI (p + 20) 12 (M 36)] := hF
  refine ar_iload_n 1 d_215_0 rfl rfl ?_
  refine ar_if_lt 12 4 d_215_1 (by decide) rfl (fun c1 => ?_) (fun c1 => ?_)
  · refine ar_iconst 13 (v := -1) d_215_12 rfl (by decide) ?_
    have hS9 : RS m p al AL h0 h M := ⟨hF, hf, hn, hs, hp0⟩
    exact ar_iret d_215_13 rfl rfl (⟨_, rfl, hS9⟩)
  · refine ar_iload_n 5 d_215_4 rfl rfl ?_
    refine ar_aload_n 6 d_215_5 rfl rfl ?_
    refine ar_getf 9 d_215_6 rfl (ci := 11) (k := 0) rfl (hF.at 0 rfl) (show _ = some (.int ((M 0) 0)) from rfl) ?_
    refine ar_icmp_lt 14 12 d_215_9 (by decide) rfl (fun c2 => ?_) (fun c2 => ?_)
    · refine ar_aload_n 15 d_215_14 rfl rfl ?_
      refine ar_getf 18 d_215_15 rfl (ci := 11) (k := 7) rfl (hF.at 0 rfl) (show _ = some (.int ((M 0) 7)) from rfl) ?_
      refine ar_if_ne 24 21 d_215_18 (by decide) rfl (fun c3 => ?_) (fun c3 => ?_)
      · refine ar_iconst 25 (v := 0) d_215_24 rfl (by decide) ?_
        refine ar_istore_n 26 [(0, .ref m), (1, .int x), (2, .int 0)] d_215_25 rfl (by decide) rfl ?_
        refine ar_iconst 27 (v := 0) d_215_26 rfl (by decide) ?_
        refine ar_istore_n 28 [(0, .ref m), (1, .int x), (2, .int 0), (3, .int 0)] d_215_27 rfl (by decide) rfl ?_
        exact key c0 0 0 (by omega)
      · refine ar_bipush 23 (v := -6) d_215_21 rfl (by decide) ?_
        have hS9 : RS m p al AL h0 h M := ⟨hF, hf, hn, hs, hp0⟩
        exact ar_iret d_215_23 rfl rfl (⟨_, rfl, hS9⟩)
    · refine ar_iconst 13 (v := -1) d_215_12 rfl (by decide) ?_
      have hS9 : RS m p al AL h0 h M := ⟨hF, hf, hn, hs, hp0⟩
      exact ar_iret d_215_13 rfl rfl (⟨_, rfl, hS9⟩)


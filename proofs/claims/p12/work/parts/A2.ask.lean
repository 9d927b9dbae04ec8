/-! answer, told, file, where, count for every state: what they answer -/
theorem d_165_0 : decode (axt_b 165) 0 = .ok (.iload_n 1, 1) := by decide +kernel
theorem d_165_1 : decode (axt_b 165) 1 = .ok (.ifCond .lt 24, 3) := by decide +kernel
theorem d_165_4 : decode (axt_b 165) 4 = .ok (.iload_n 1, 1) := by decide +kernel
theorem d_165_5 : decode (axt_b 165) 5 = .ok (.aload_n 0, 1) := by decide +kernel
theorem d_165_6 : decode (axt_b 165) 6 = .ok (.getfield 54, 3) := by decide +kernel
theorem d_165_9 : decode (axt_b 165) 9 = .ok (.getfield 194, 3) := by decide +kernel
theorem d_165_12 : decode (axt_b 165) 12 = .ok (.if_icmp .ge 13, 3) := by decide +kernel
theorem d_165_15 : decode (axt_b 165) 15 = .ok (.iload_n 2, 1) := by decide +kernel
theorem d_165_16 : decode (axt_b 165) 16 = .ok (.ifCond .lt 9, 3) := by decide +kernel
theorem d_165_19 : decode (axt_b 165) 19 = .ok (.iload_n 2, 1) := by decide +kernel
theorem d_165_20 : decode (axt_b 165) 20 = .ok (.bipush 19, 2) := by decide +kernel
theorem d_165_22 : decode (axt_b 165) 22 = .ok (.if_icmp .lt 5, 3) := by decide +kernel
theorem d_165_25 : decode (axt_b 165) 25 = .ok (.iconst (-1), 1) := by decide +kernel
theorem d_165_26 : decode (axt_b 165) 26 = .ok (.ireturn, 1) := by decide +kernel
theorem d_165_27 : decode (axt_b 165) 27 = .ok (.aload_n 0, 1) := by decide +kernel
theorem d_165_28 : decode (axt_b 165) 28 = .ok (.getfield 16, 3) := by decide +kernel
theorem d_165_31 : decode (axt_b 165) 31 = .ok (.iload_n 1, 1) := by decide +kernel
theorem d_165_32 : decode (axt_b 165) 32 = .ok (.iaload, 1) := by decide +kernel
theorem d_165_33 : decode (axt_b 165) 33 = .ok (.bipush 20, 2) := by decide +kernel
theorem d_165_35 : decode (axt_b 165) 35 = .ok (.imul, 1) := by decide +kernel
theorem d_165_36 : decode (axt_b 165) 36 = .ok (.iload_n 2, 1) := by decide +kernel
theorem d_165_37 : decode (axt_b 165) 37 = .ok (.iadd, 1) := by decide +kernel
theorem d_165_38 : decode (axt_b 165) 38 = .ok (.istore_n 3, 1) := by decide +kernel
theorem d_165_39 : decode (axt_b 165) 39 = .ok (.aload_n 0, 1) := by decide +kernel
theorem d_165_40 : decode (axt_b 165) 40 = .ok (.getfield 54, 3) := by decide +kernel
theorem d_165_43 : decode (axt_b 165) 43 = .ok (.getfield 253, 3) := by decide +kernel
theorem d_165_46 : decode (axt_b 165) 46 = .ok (.iload_n 3, 1) := by decide +kernel
theorem d_165_47 : decode (axt_b 165) 47 = .ok (.iaload, 1) := by decide +kernel
theorem d_165_48 : decode (axt_b 165) 48 = .ok (.ifCond .ge 7, 3) := by decide +kernel
theorem d_165_51 : decode (axt_b 165) 51 = .ok (.iconst (-1), 1) := by decide +kernel
theorem d_165_52 : decode (axt_b 165) 52 = .ok (.goto 4, 3) := by decide +kernel
theorem d_165_55 : decode (axt_b 165) 55 = .ok (.iload_n 3, 1) := by decide +kernel
theorem d_165_56 : decode (axt_b 165) 56 = .ok (.ireturn, 1) := by decide +kernel
def ansV (E : Nat → Nat → Int32) (x : Int32) : Int32 := if x < 0 ∨ E 4 8 ≤ x then -1 else if x < E 4 10 then E 9 x.toNatClampNeg else -5
def tldV (E : Nat → Nat → Int32) (Q : Nat → Mg) (x i : Int32) : Int32 := if x < E 4 11 ∨ E 4 10 ≤ x then -2 else if i < 0 ∨ (Q (x.toNatClampNeg % 24)).1 6 ≤ i then -2 else bytA (Q (x.toNatClampNeg % 24)).2 (400 + i.toNatClampNeg)
def filV (E : Nat → Nat → Int32) (k v : Int32) : Int32 := if v < 0 ∨ 3 < v then -1 else if E 100 10 = 0 then -6 else if k < 0 ∨ E 58 9 ≤ k then -2 else if v = 0 then E 60 (E 0 k.toNatClampNeg).toNatClampNeg else if v = 1 then E 59 (E 0 k.toNatClampNeg).toNatClampNeg else if v = 2 then E 61 (E 0 k.toNatClampNeg).toNatClampNeg else nI (laidS (E 64) ((E 0 k.toNatClampNeg).toNatClampNeg * 20) 19 0 0)
def stpV (E : Nat → Nat → Int32) (k s : Int32) : Int32 := if k < 0 ∨ E 58 9 ≤ k ∨ s < 0 ∨ 19 ≤ s then -1 else if E 64 ((E 0 k.toNatClampNeg).toNatClampNeg * 20 + s.toNatClampNeg) < 0 then -1 else nI ((E 0 k.toNatClampNeg).toNatClampNeg * 20 + s.toNatClampNeg)
def whrV (f : Nat → Int32) (nn gg : Nat) (C : Int32) (E : Nat → Nat → Int32) (k s r : Int32) : Int32 := if E 100 10 = 0 then -6 else if stpV E k s < 0 ∨ r < 0 ∨ C ≤ r then -2 else nof f r (E 4 14) nn (grp (E 59) gg (stpV E k s).toNatClampNeg * nn) 0
theorem g_160 {L : Nat} {xs : Nat → Int32} {fr lo : Nat} {s0 n nn gg : Nat} {C : Int32} {f : Nat → Int32} {q : Nat} {u b : Nat → Int32} {h0 h : ax_H} {Z : ZT} {D : Nat → Nat → Nat → Int32} {K A : Nat → Int64} {E : Nat → Nat → Int32} {TK : Int64} {Q : Nat → Mg} {ms : List Mg} {x : Int32} (hfr : 0 ≤ fr) (hlo : 0 ≤ lo) (hC : CG s0 n nn gg f) (hG : GS Z s0 n nn gg C f q u b h0 h E TK Q ms D K A) : ax_M L xs 160 fr lo [.ref s0, .int x] h (fun r h' => r = some (.int (ansV E x)) ∧ h' = h) := by
  have hC0 := hC
  show ax_A (ax_step L xs) ((160, 0, fr, lo), [(0, .ref s0), (1, .int x)], [], h) _
  obtain ⟨hs0, hsn, hnn3, hnn, hgg1, hgg, hRg⟩ := hC
  have hGG := hG
  obtain ⟨hS, hG0, hM, hE, hK, hz⟩ := hG
  have hM0 := hM
  obtain ⟨hF, hA, hN, hf, hn, hs, hp0⟩ := hS
  replace hF : ax_hs h [cSt s0 n E, cRk n nn gg C, cOr n nn gg f, cAs n E, cEr n 5 512 E, cEr n 6 100 E, cEr n 7 2 E, cAk n, cEr n 9 512 E, cNa n nn, cEr n 0 48 E, cEr n 1 961 E, cTs n gg E TK, cEr n 59 48 E, cEr n 60 48 E, cEr n 61 48 E, cEr n 62 2400 E, cEr n 63 512 E, cEr n 64 961 E, cEr n 65 961 E] := hF
  obtain ⟨bg, he, se, si, ⟨a1, a2, a3, a4⟩, ⟨b1, b2, b3, b4, b5, b6⟩, c, d, e, g⟩ := hE
  refine ar_iload_n 1 d_160_0 rfl rfl ?_
  refine ar_if_lt 15 4 d_160_1 (by decide) rfl (fun c1 => ?_) (fun c1 => ?_)
  · refine ar_iconst 16 (v := -1) d_160_15 rfl (by decide) ?_
    exact ar_iret d_160_16 rfl rfl (⟨by unfold ansV; rw [if_pos (Or.inl c1)], rfl⟩)
  · refine ar_iload_n 5 d_160_4 rfl rfl ?_
    refine ar_aload_n 6 d_160_5 rfl rfl ?_
    refine ar_getf 9 d_160_6 rfl (ci := 0) (k := 2) rfl (hF.at 0 rfl) rfl ?_
    refine ar_getf 12 d_160_9 rfl (ci := 4) (k := 8) rfl (hF.at 3 rfl) rfl ?_
    refine ar_icmp_lt 17 15 d_160_12 (by decide) rfl (fun c2 => ?_) (fun c2 => ?_)
    · refine ar_iload_n 18 d_160_17 rfl rfl ?_
      refine ar_aload_n 19 d_160_18 rfl rfl ?_
      refine ar_getf 22 d_160_19 rfl (ci := 0) (k := 2) rfl (hF.at 0 rfl) rfl ?_
      refine ar_getf 25 d_160_22 rfl (ci := 4) (k := 10) rfl (hF.at 3 rfl) rfl ?_
      refine ar_icmp_ge 40 28 d_160_25 (by decide) rfl (fun c3 => ?_) (fun c3 => ?_)
      · refine ar_bipush 42 (v := -5) d_160_40 rfl (by decide) ?_
        exact ar_iret d_160_42 rfl rfl (⟨by unfold ansV; rw [if_neg (fun z => z.elim c1 (fun z => absurd c2 (Int32.not_lt.mpr z))), if_neg (Int32.not_lt.mpr c3)], rfl⟩)
      · obtain ⟨o, ho, rfl⟩ := natLt c1 (by omega) (show x < nI bg by rw [← a1]; exact c2)
        refine ar_aload_n 29 d_160_28 rfl rfl ?_
        refine ar_getf 32 d_160_29 rfl (ci := 0) (k := 2) rfl (hF.at 0 rfl) rfl ?_
        refine ar_getf 35 d_160_32 rfl (ci := 4) (k := 7) rfl (hF.at 3 rfl) rfl ?_
        refine ar_iload_n 36 d_160_35 rfl rfl ?_
        refine ar_iald 37 d_160_36 rfl (hF.at 8 rfl) (vin (by omega) (by decide)) ?_
        refine ar_goto 42 d_160_37 (by decide) ?_
        exact ar_iret d_160_42 rfl rfl (⟨by unfold ansV; rw [if_neg (fun z => z.elim c1 (fun z => absurd c2 (Int32.not_lt.mpr z))), if_pos (Int32.not_le.mp c3)], rfl⟩)
    · refine ar_iconst 16 (v := -1) d_160_15 rfl (by decide) ?_
      exact ar_iret d_160_16 rfl rfl (⟨by unfold ansV; rw [if_pos (Or.inr (Int32.not_lt.mp c2))], rfl⟩)
theorem g_161 {L : Nat} {xs : Nat → Int32} {fr lo : Nat} {s0 n nn gg : Nat} {C : Int32} {f : Nat → Int32} {q : Nat} {u b : Nat → Int32} {h0 h : ax_H} {Z : ZT} {D : Nat → Nat → Nat → Int32} {K A : Nat → Int64} {E : Nat → Nat → Int32} {TK : Int64} {Q : Nat → Mg} {ms : List Mg} {x y : Int32} (hfr : 1 ≤ fr) (hlo : 40 ≤ lo) (hC : CG s0 n nn gg f) (hG : GS Z s0 n nn gg C f q u b h0 h E TK Q ms D K A) : ax_M L xs 161 fr lo [.ref s0, .int x, .int y] h (fun r h' => r = some (.int (tldV E Q x y)) ∧ h' = h) := by
  have hC0 := hC
  show ax_A (ax_step L xs) ((161, 0, fr, lo), [(0, .ref s0), (1, .int x), (2, .int y)], [], h) _
  obtain ⟨hs0, hsn, hnn3, hnn, hgg1, hgg, hRg⟩ := hC
  have hGG := hG
  obtain ⟨hS, hG0, hM, hE, hK, hz⟩ := hG
  have hM0 := hM
  obtain ⟨hF, hA, hN, hf, hn, hs, hp0⟩ := hS
  replace hF : ax_hs h [cSt s0 n E, cRk n nn gg C, cOr n nn gg f, cAs n E, cEr n 5 512 E, cEr n 6 100 E, cEr n 7 2 E, cAk n, cEr n 9 512 E, cNa n nn, cEr n 0 48 E, cEr n 1 961 E, cTs n gg E TK, cEr n 59 48 E, cEr n 60 48 E, cEr n 61 48 E, cEr n 62 2400 E, cEr n 63 512 E, cEr n 64 961 E, cEr n 65 961 E] := hF
  obtain ⟨bg, he, se, si, ⟨a1, a2, a3, a4⟩, ⟨b1, b2, b3, b4, b5, b6⟩, c, d, e, g⟩ := hE
  refine ar_iload_n 1 d_161_0 rfl rfl ?_
  refine ar_aload_n 2 d_161_1 rfl rfl ?_
  refine ar_getf 5 d_161_2 rfl (ci := 0) (k := 2) rfl (hF.at 0 rfl) rfl ?_
  refine ar_getf 8 d_161_5 rfl (ci := 4) (k := 11) rfl (hF.at 3 rfl) rfl ?_
  refine ar_icmp_lt 22 11 d_161_8 (by decide) rfl (fun c1 => ?_) (fun c1 => ?_)
  · refine ar_bipush 24 (v := -2) d_161_22 rfl (by decide) ?_
    exact ar_iret d_161_24 rfl rfl (⟨by unfold tldV; rw [if_pos (Or.inl c1)], rfl⟩)
  · refine ar_iload_n 12 d_161_11 rfl rfl ?_
    refine ar_aload_n 13 d_161_12 rfl rfl ?_
    refine ar_getf 16 d_161_13 rfl (ci := 0) (k := 2) rfl (hF.at 0 rfl) rfl ?_
    refine ar_getf 19 d_161_16 rfl (ci := 4) (k := 10) rfl (hF.at 3 rfl) rfl ?_
    refine ar_icmp_lt 25 22 d_161_19 (by decide) rfl (fun c2 => ?_) (fun c2 => ?_)
    · have hx0 : ¬ x < 0 := fun z => c1 (Int32.lt_of_lt_of_le z (by rw [a4]; exact nI_pos' (by omega)))
      obtain ⟨o, ho, rfl⟩ := natLt hx0 (by omega) (show x < nI se by rw [← a3]; exact c2)
      have haj : o % 24 < 24 := Nat.mod_lt _ (by omega)
      refine ar_aload_n 26 d_161_25 rfl rfl ?_
      refine ar_getf 29 d_161_26 rfl (ci := 0) (k := 2) rfl (hF.at 0 rfl) rfl ?_
      refine ar_getf 32 d_161_29 rfl (ci := 4) (k := 6) rfl (hF.at 3 rfl) rfl ?_
      refine ar_iload_n 33 d_161_32 rfl rfl ?_
      refine ar_aload_n 34 d_161_33 rfl rfl ?_
      refine ar_getf 37 d_161_34 rfl (ci := 0) (k := 2) rfl (hF.at 0 rfl) rfl ?_
      refine ar_getf 40 d_161_37 rfl (ci := 4) (k := 6) rfl (hF.at 3 rfl) rfl ?_
      refine ar_alen 41 d_161_40 rfl (hF.at 7 rfl) (by decide) ?_
      refine ar_top (x' := 24) (rfl) ?_
      refine ar_irem 42 d_161_41 rfl (by decide) ?_
      refine ar_top (x' := nI (o % 24)) (pk_rem (d := 24) (by omega) (by omega) (by omega)) ?_
      refine ar_aald 43 d_161_42 rfl (hF.at 7 rfl) rfl (vin (by omega) (by omega)) ?_
      refine ar_tv (v' := .ref (n + 272 + 2 * (o % 24))) (akr haj) ?_
      have ex : (nI o).toNatClampNeg = o := nI_clamp (by omega)
      refine ar_astore_n 44 [(0, .ref s0), (1, .int (nI o)), (2, .int y), (3, .ref (n + 272 + 2 * (o % 24)))] d_161_43 rfl (by decide) rfl ?_
      refine ar_iload_n 45 d_161_44 rfl rfl ?_
      refine ar_if_lt 56 48 d_161_45 (by decide) rfl (fun c3 => ?_) (fun c3 => ?_)
      · refine ar_bipush 58 (v := -2) d_161_56 rfl (by decide) ?_
        exact ar_iret d_161_58 rfl rfl (⟨by unfold tldV; rw [if_neg (fun z => z.elim c1 (fun z => absurd c2 (Int32.not_lt.mpr z))), if_pos (Or.inl c3)], rfl⟩)
      · refine ar_iload_n 49 d_161_48 rfl rfl ?_
        refine ar_aload_n 50 d_161_49 rfl rfl ?_
        refine ar_getf 53 d_161_50 rfl (ci := 5) (k := 6) rfl (hA (o % 24) haj).1 rfl ?_
        refine ar_icmp_lt 59 56 d_161_53 (by decide) rfl (fun c4 => ?_) (fun c4 => ?_)
        · obtain ⟨tl, htl, etl⟩ := e (o % 24) haj
          obtain ⟨i, hi, rfl⟩ := natLt c3 (by omega) (show y < nI tl by rw [← etl]; exact c4)
          refine ar_aload_n 60 d_161_59 rfl rfl ?_
          refine ar_getf 63 d_161_60 rfl (ci := 5) (k := 7) rfl (hA (o % 24) haj).1 rfl ?_
          refine ar_sipush 66 (v := 400) d_161_63 rfl (by decide) ?_
          refine ar_iload_n 67 d_161_66 rfl rfl ?_
          refine ar_iadd 68 d_161_67 rfl ?_
          refine ar_top (x' := nI (400 + i)) (nI_add 400 i) ?_
          refine ar_call (r := []) (na := 0) (kd := 0) (cm := 162) (fr2 := fr - 1) (lo2 := lo - 21) 71 d_161_68 (ar_hoS (as := [.ref (n + 272 + 2 * (o % 24) + 1), .int (nI (400 + i))]) rfl rfl rfl) rfl (by omega) (show lo - 21 + (19 + 2) = lo by omega) (Nat.le_of_ble_eq_true rfl) (Nat.le_of_ble_eq_true rfl) (c_162 (N := 612) (by decide) (by omega) (hA (o % 24) haj).2) ?_
          intro v hh hq
          obtain ⟨rfl, ehh⟩ := hq
          rw [ehh]
          clear ehh
          exact ar_iret d_161_71 rfl rfl (⟨by unfold tldV; rw [if_neg (fun z => z.elim c1 (fun z => absurd c2 (Int32.not_lt.mpr z))), ex, if_neg (fun z => z.elim c3 (fun z => absurd c4 (Int32.not_lt.mpr z))), nI_clamp (show i < 2 ^ 31 by omega)], rfl⟩)
        · refine ar_bipush 58 (v := -2) d_161_56 rfl (by decide) ?_
          exact ar_iret d_161_58 rfl rfl (⟨by unfold tldV; rw [if_neg (fun z => z.elim c1 (fun z => absurd c2 (Int32.not_lt.mpr z))), ex, if_pos (Or.inr (Int32.not_lt.mp c4))], rfl⟩)
    · refine ar_bipush 24 (v := -2) d_161_22 rfl (by decide) ?_
      exact ar_iret d_161_24 rfl rfl (⟨by unfold tldV; rw [if_pos (Or.inr (Int32.not_lt.mp c2))], rfl⟩)
theorem flN {Z : ZT} {E : Nat → Nat → Int32} (hK : CI Z E) {x : Int32} (h1 : ¬ x < 0) (h2 : x < E 58 9) : ∃ k : Nat, k < 48 ∧ x = nI k := by
  have e := hK.1.2.2.2.2.1
  have hc := cN_le (jf := E 59) 48
  rw [e] at h2
  obtain ⟨k, hk, rfl⟩ := natLt h1 (by omega) h2
  exact ⟨k, by omega, rfl⟩
theorem g_163 {L : Nat} {xs : Nat → Int32} {fr lo : Nat} {s0 n nn gg : Nat} {C : Int32} {f : Nat → Int32} {q : Nat} {u b : Nat → Int32} {h0 h : ax_H} {Z : ZT} {D : Nat → Nat → Nat → Int32} {K A : Nat → Int64} {E : Nat → Nat → Int32} {TK : Int64} {Q : Nat → Mg} {ms : List Mg} {x y : Int32} (hfr : 1 ≤ fr) (hlo : 40 ≤ lo) (hC : CG s0 n nn gg f) (hG : GS Z s0 n nn gg C f q u b h0 h E TK Q ms D K A) : ax_M L xs 163 fr lo [.ref s0, .int x, .int y] h (fun r h' => r = some (.int (filV E x y)) ∧ h' = h) := by
  have hC0 := hC
  show ax_A (ax_step L xs) ((163, 0, fr, lo), [(0, .ref s0), (1, .int x), (2, .int y)], [], h) _
  obtain ⟨hs0, hsn, hnn3, hnn, hgg1, hgg, hRg⟩ := hC
  have hGG := hG
  obtain ⟨hS, hG0, hM, hE, hK, hz⟩ := hG
  have hM0 := hM
  obtain ⟨hF, hA, hN, hf, hn, hs, hp0⟩ := hS
  replace hF : ax_hs h [cSt s0 n E, cRk n nn gg C, cOr n nn gg f, cAs n E, cEr n 5 512 E, cEr n 6 100 E, cEr n 7 2 E, cAk n, cEr n 9 512 E, cNa n nn, cEr n 0 48 E, cEr n 1 961 E, cTs n gg E TK, cEr n 59 48 E, cEr n 60 48 E, cEr n 61 48 E, cEr n 62 2400 E, cEr n 63 512 E, cEr n 64 961 E, cEr n 65 961 E] := hF
  refine ar_iload_n 1 d_163_0 rfl rfl ?_
  refine ar_if_lt 9 4 d_163_1 (by decide) rfl (fun c1 => ?_) (fun c1 => ?_)
  · refine ar_iconst 10 (v := -1) d_163_9 rfl (by decide) ?_
    exact ar_iret d_163_10 rfl rfl (⟨by unfold filV; rw [if_pos (Or.inl c1)], rfl⟩)
  · refine ar_iload_n 5 d_163_4 rfl rfl ?_
    refine ar_iconst 6 (v := 3) d_163_5 rfl (by decide) ?_
    refine ar_icmp_le 11 9 d_163_6 (by decide) rfl (fun c2 => ?_) (fun c2 => ?_)
    · refine ar_aload_n 12 d_163_11 rfl rfl ?_
      refine ar_getf 15 d_163_12 rfl (ci := 0) (k := 10) rfl (hF.at 0 rfl) rfl ?_
      refine ar_if_ne 21 18 d_163_15 (by decide) rfl (fun c3 => ?_) (fun c3 => ?_)
      · refine ar_iload_n 22 d_163_21 rfl rfl ?_
        refine ar_if_lt 36 25 d_163_22 (by decide) rfl (fun c4 => ?_) (fun c4 => ?_)
        · refine ar_bipush 38 (v := -2) d_163_36 rfl (by decide) ?_
          exact ar_iret d_163_38 rfl rfl (⟨by unfold filV; rw [if_neg (fun z => z.elim c1 (fun z => absurd c2 (Int32.not_le.mpr z))), if_neg c3, if_pos (Or.inl c4)], rfl⟩)
        · refine ar_iload_n 26 d_163_25 rfl rfl ?_
          refine ar_aload_n 27 d_163_26 rfl rfl ?_
          refine ar_getf 30 d_163_27 rfl (ci := 0) (k := 4) rfl (hF.at 0 rfl) rfl ?_
          refine ar_getf 33 d_163_30 rfl (ci := 6) (k := 9) rfl (hF.at 12 rfl) rfl ?_
          refine ar_icmp_lt 39 36 d_163_33 (by decide) rfl (fun c5 => ?_) (fun c5 => ?_)
          · obtain ⟨k, hk, rfl⟩ := flN hK c4 c5
            obtain ⟨fi, hfi, efi⟩ := hK.2.1 k hk
            have ek : (nI k).toNatClampNeg = k := nI_clamp (by omega)
            have ef : (nI fi).toNatClampNeg = fi := nI_clamp (by omega)
            refine ar_aload_n 40 d_163_39 rfl rfl ?_
            refine ar_getf 43 d_163_40 rfl (ci := 0) (k := 5) rfl (hF.at 0 rfl) rfl ?_
            refine ar_iload_n 44 d_163_43 rfl rfl ?_
            refine ar_iald 45 d_163_44 rfl (hF.at 10 rfl) (vin (by omega) (by omega)) ?_
            refine ar_top (x' := nI fi) (by rw [ek]; exact efi) ?_
            refine ar_istore_n 46 [(0, .ref s0), (1, .int (nI k)), (2, .int y), (3, .int (nI fi))] d_163_45 rfl (by decide) rfl ?_
            refine ar_iload_n 47 d_163_46 rfl rfl ?_
            refine ar_if_ne 60 50 d_163_47 (by decide) rfl (fun c6 => ?_) (fun c6 => ?_)
            · refine ar_iload_n 61 d_163_60 rfl rfl ?_
              refine ar_iconst 62 (v := 1) d_163_61 rfl (by decide) ?_
              refine ar_icmp_ne 75 65 d_163_62 (by decide) rfl (fun c7 => ?_) (fun c7 => ?_)
              · refine ar_iload_n 76 d_163_75 rfl rfl ?_
                refine ar_iconst 77 (v := 2) d_163_76 rfl (by decide) ?_
                refine ar_icmp_ne 92 80 d_163_77 (by decide) rfl (fun c8 => ?_) (fun c8 => ?_)
                · refine ar_aload_n 93 d_163_92 rfl rfl ?_
                  refine ar_getf 96 d_163_93 rfl (ci := 0) (k := 4) rfl (hF.at 0 rfl) rfl ?_
                  refine ar_iload_n 97 d_163_96 rfl rfl ?_
                  refine ar_call (r := []) (na := 0) (kd := 0) (cm := 157) (fr2 := fr - 1) (lo2 := lo - 23) 100 d_163_97 (ar_hoV (as := [.int (nI fi)]) rfl rfl rfl (hF.at 12 rfl)) rfl (by omega) (show lo - 23 + (19 + 4) = lo by omega) (Nat.le_of_ble_eq_true rfl) (Nat.le_of_ble_eq_true rfl) (c_157 hfi (hF.at 12 rfl) (hF.at 18 rfl)) ?_
                  intro v hh hq
                  obtain ⟨rfl, ehh⟩ := hq
                  rw [ehh]
                  clear ehh
                  exact ar_iret d_163_100 rfl rfl (⟨by unfold filV; rw [if_neg (fun z => z.elim c1 (fun z => absurd c2 (Int32.not_le.mpr z))), if_neg c3, if_neg (fun z => z.elim c4 (fun z => absurd c5 (Int32.not_lt.mpr z))), if_neg c6, if_neg c7, if_neg c8, ek, efi, ef], rfl⟩)
                · refine ar_aload_n 81 d_163_80 rfl rfl ?_
                  refine ar_getf 84 d_163_81 rfl (ci := 0) (k := 4) rfl (hF.at 0 rfl) rfl ?_
                  refine ar_getf 87 d_163_84 rfl (ci := 6) (k := 3) rfl (hF.at 12 rfl) rfl ?_
                  refine ar_iload_n 88 d_163_87 rfl rfl ?_
                  refine ar_iald 89 d_163_88 rfl (hF.at 15 rfl) (vin (by omega) (by omega)) ?_
                  refine ar_goto 100 d_163_89 (by decide) ?_
                  exact ar_iret d_163_100 rfl rfl (⟨by unfold filV; rw [if_neg (fun z => z.elim c1 (fun z => absurd c2 (Int32.not_le.mpr z))), if_neg c3, if_neg (fun z => z.elim c4 (fun z => absurd c5 (Int32.not_lt.mpr z))), if_neg c6, if_neg c7, if_pos (Decidable.not_not.mp c8), ek, efi], rfl⟩)
              · refine ar_aload_n 66 d_163_65 rfl rfl ?_
                refine ar_getf 69 d_163_66 rfl (ci := 0) (k := 4) rfl (hF.at 0 rfl) rfl ?_
                refine ar_getf 72 d_163_69 rfl (ci := 6) (k := 1) rfl (hF.at 12 rfl) rfl ?_
                refine ar_iload_n 73 d_163_72 rfl rfl ?_
                refine ar_iald 74 d_163_73 rfl (hF.at 13 rfl) (vin (by omega) (by omega)) ?_
                exact ar_iret d_163_74 rfl rfl (⟨by unfold filV; rw [if_neg (fun z => z.elim c1 (fun z => absurd c2 (Int32.not_le.mpr z))), if_neg c3, if_neg (fun z => z.elim c4 (fun z => absurd c5 (Int32.not_lt.mpr z))), if_neg c6, if_pos (Decidable.not_not.mp c7), ek, efi], rfl⟩)
            · refine ar_aload_n 51 d_163_50 rfl rfl ?_
              refine ar_getf 54 d_163_51 rfl (ci := 0) (k := 4) rfl (hF.at 0 rfl) rfl ?_
              refine ar_getf 57 d_163_54 rfl (ci := 6) (k := 2) rfl (hF.at 12 rfl) rfl ?_
              refine ar_iload_n 58 d_163_57 rfl rfl ?_
              refine ar_iald 59 d_163_58 rfl (hF.at 14 rfl) (vin (by omega) (by omega)) ?_
              exact ar_iret d_163_59 rfl rfl (⟨by unfold filV; rw [if_neg (fun z => z.elim c1 (fun z => absurd c2 (Int32.not_le.mpr z))), if_neg c3, if_neg (fun z => z.elim c4 (fun z => absurd c5 (Int32.not_lt.mpr z))), if_pos (Decidable.not_not.mp c6), ek, efi], rfl⟩)
          · refine ar_bipush 38 (v := -2) d_163_36 rfl (by decide) ?_
            exact ar_iret d_163_38 rfl rfl (⟨by unfold filV; rw [if_neg (fun z => z.elim c1 (fun z => absurd c2 (Int32.not_le.mpr z))), if_neg c3, if_pos (Or.inr (Int32.not_lt.mp c5))], rfl⟩)
      · refine ar_bipush 20 (v := -6) d_163_18 rfl (by decide) ?_
        exact ar_iret d_163_20 rfl rfl (⟨by unfold filV; rw [if_neg (fun z => z.elim c1 (fun z => absurd c2 (Int32.not_le.mpr z))), if_pos (Decidable.not_not.mp c3)], rfl⟩)
    · refine ar_iconst 10 (v := -1) d_163_9 rfl (by decide) ?_
      exact ar_iret d_163_10 rfl rfl (⟨by unfold filV; rw [if_pos (Or.inr (Int32.not_le.mp c2))], rfl⟩)
theorem g_165 {L : Nat} {xs : Nat → Int32} {fr lo : Nat} {s0 n nn gg : Nat} {C : Int32} {f : Nat → Int32} {q : Nat} {u b : Nat → Int32} {h0 h : ax_H} {Z : ZT} {D : Nat → Nat → Nat → Int32} {K A : Nat → Int64} {E : Nat → Nat → Int32} {TK : Int64} {Q : Nat → Mg} {ms : List Mg} {x y : Int32} (hfr : 0 ≤ fr) (hlo : 0 ≤ lo) (hC : CG s0 n nn gg f) (hG : GS Z s0 n nn gg C f q u b h0 h E TK Q ms D K A) : ax_M L xs 165 fr lo [.ref s0, .int x, .int y] h (fun r h' => r = some (.int (stpV E x y)) ∧ h' = h) := by
  have hC0 := hC
  show ax_A (ax_step L xs) ((165, 0, fr, lo), [(0, .ref s0), (1, .int x), (2, .int y)], [], h) _
  obtain ⟨hs0, hsn, hnn3, hnn, hgg1, hgg, hRg⟩ := hC
  have hGG := hG
  obtain ⟨hS, hG0, hM, hE, hK, hz⟩ := hG
  have hM0 := hM
  obtain ⟨hF, hA, hN, hf, hn, hs, hp0⟩ := hS
  replace hF : ax_hs h [cSt s0 n E, cRk n nn gg C, cOr n nn gg f, cAs n E, cEr n 5 512 E, cEr n 6 100 E, cEr n 7 2 E, cAk n, cEr n 9 512 E, cNa n nn, cEr n 0 48 E, cEr n 1 961 E, cTs n gg E TK, cEr n 59 48 E, cEr n 60 48 E, cEr n 61 48 E, cEr n 62 2400 E, cEr n 63 512 E, cEr n 64 961 E, cEr n 65 961 E] := hF
  refine ar_iload_n 1 d_165_0 rfl rfl ?_
  refine ar_if_lt 25 4 d_165_1 (by decide) rfl (fun c1 => ?_) (fun c1 => ?_)
  · refine ar_iconst 26 (v := -1) d_165_25 rfl (by decide) ?_
    exact ar_iret d_165_26 rfl rfl (⟨by unfold stpV; rw [if_pos (Or.inl c1)], rfl⟩)
  · refine ar_iload_n 5 d_165_4 rfl rfl ?_
    refine ar_aload_n 6 d_165_5 rfl rfl ?_
    refine ar_getf 9 d_165_6 rfl (ci := 0) (k := 4) rfl (hF.at 0 rfl) rfl ?_
    refine ar_getf 12 d_165_9 rfl (ci := 6) (k := 9) rfl (hF.at 12 rfl) rfl ?_
    refine ar_icmp_ge 25 15 d_165_12 (by decide) rfl (fun c2 => ?_) (fun c2 => ?_)
    · refine ar_iconst 26 (v := -1) d_165_25 rfl (by decide) ?_
      exact ar_iret d_165_26 rfl rfl (⟨by unfold stpV; rw [if_pos (Or.inr (Or.inl c2))], rfl⟩)
    · refine ar_iload_n 16 d_165_15 rfl rfl ?_
      refine ar_if_lt 25 19 d_165_16 (by decide) rfl (fun c3 => ?_) (fun c3 => ?_)
      · refine ar_iconst 26 (v := -1) d_165_25 rfl (by decide) ?_
        exact ar_iret d_165_26 rfl rfl (⟨by unfold stpV; rw [if_pos (Or.inr (Or.inr (Or.inl c3)))], rfl⟩)
      · refine ar_iload_n 20 d_165_19 rfl rfl ?_
        refine ar_bipush 22 (v := 19) d_165_20 rfl (by decide) ?_
        refine ar_icmp_lt 27 25 d_165_22 (by decide) rfl (fun c4 => ?_) (fun c4 => ?_)
        · obtain ⟨k, hk, rfl⟩ := flN hK c1 (Int32.not_le.mp c2)
          obtain ⟨si, hsi, rfl⟩ := natLt (c := 19) c3 (by decide) c4
          obtain ⟨fi, hfi, efi⟩ := hK.2.1 k hk
          have ek : (nI k).toNatClampNeg = k := nI_clamp (by omega)
          have ef : (nI fi).toNatClampNeg = fi := nI_clamp (by omega)
          have es : (nI si).toNatClampNeg = si := nI_clamp (by omega)
          refine ar_aload_n 28 d_165_27 rfl rfl ?_
          refine ar_getf 31 d_165_28 rfl (ci := 0) (k := 5) rfl (hF.at 0 rfl) rfl ?_
          refine ar_iload_n 32 d_165_31 rfl rfl ?_
          refine ar_iald 33 d_165_32 rfl (hF.at 10 rfl) (vin (by omega) (by omega)) ?_
          refine ar_top (x' := nI fi) (by rw [ek]; exact efi) ?_
          refine ar_bipush 35 (v := 20) d_165_33 rfl (by decide) ?_
          refine ar_imul 36 d_165_35 rfl ?_
          refine ar_top (x' := nI (fi * 20)) (pk_mul fi 20) ?_
          refine ar_iload_n 37 d_165_36 rfl rfl ?_
          refine ar_iadd 38 d_165_37 rfl ?_
          refine ar_top (x' := nI (fi * 20 + si)) (nI_add _ _) ?_
          refine ar_istore_n 39 [(0, .ref s0), (1, .int (nI k)), (2, .int (nI si)), (3, .int (nI (fi * 20 + si)))] d_165_38 rfl (by decide) rfl ?_
          refine ar_aload_n 40 d_165_39 rfl rfl ?_
          refine ar_getf 43 d_165_40 rfl (ci := 0) (k := 4) rfl (hF.at 0 rfl) rfl ?_
          refine ar_getf 46 d_165_43 rfl (ci := 6) (k := 6) rfl (hF.at 12 rfl) rfl ?_
          refine ar_iload_n 47 d_165_46 rfl rfl ?_
          refine ar_iald 48 d_165_47 rfl (hF.at 18 rfl) (vin (by omega) (by omega)) ?_
          refine ar_top (x' := E 64 (fi * 20 + si)) (by rw [nI_clamp (show fi * 20 + si < 2 ^ 31 by omega)]) ?_
          refine ar_if_ge 55 51 d_165_48 (by decide) rfl (fun c5 => ?_) (fun c5 => ?_)
          · refine ar_iload_n 56 d_165_55 rfl rfl ?_
            exact ar_iret d_165_56 rfl rfl (⟨by unfold stpV; rw [if_neg (fun z => z.elim c1 (fun z => z.elim c2 (fun z => z.elim c3 (fun z => absurd c4 (Int32.not_lt.mpr z))))), ek, efi, ef, es, if_neg (Int32.not_lt.mpr c5)], rfl⟩)
          · refine ar_iconst 52 (v := -1) d_165_51 rfl (by decide) ?_
            refine ar_goto 56 d_165_52 (by decide) ?_
            exact ar_iret d_165_56 rfl rfl (⟨by unfold stpV; rw [if_neg (fun z => z.elim c1 (fun z => z.elim c2 (fun z => z.elim c3 (fun z => absurd c4 (Int32.not_lt.mpr z))))), ek, efi, ef, es, if_pos (Int32.not_le.mp c5)], rfl⟩)
        · refine ar_iconst 26 (v := -1) d_165_25 rfl (by decide) ?_
          exact ar_iret d_165_26 rfl rfl (⟨by unfold stpV; rw [if_pos (Or.inr (Or.inr (Or.inr (Int32.not_lt.mp c4))))], rfl⟩)
theorem stp_c {Z : ZT} {E : Nat → Nat → Int32} (hK : CI Z E) (x y : Int32) : stpV E x y = -1 ∨ ∃ k s fi : Nat, k < 48 ∧ s < 19 ∧ fi < 48 ∧ x = nI k ∧ y = nI s ∧ E 0 k = nI fi ∧ stpV E x y = nI (fi * 20 + s) ∧ ¬ E 64 (fi * 20 + s) < 0 := by
  by_cases h1 : x < 0 ∨ E 58 9 ≤ x ∨ y < 0 ∨ 19 ≤ y
  · exact Or.inl (by unfold stpV; rw [if_pos h1])
  · obtain ⟨k, hk, rfl⟩ := flN hK (fun z => h1 (Or.inl z)) (Int32.not_le.mp (fun z => h1 (Or.inr (Or.inl z))))
    obtain ⟨s, hs, rfl⟩ := natLt (x := y) (c := 19) (fun z => h1 (Or.inr (Or.inr (Or.inl z)))) (by decide) (Int32.not_le.mp (fun z => h1 (Or.inr (Or.inr (Or.inr z)))))
    obtain ⟨fi, hfi, efi⟩ := hK.2.1 k hk
    have ek : (nI k).toNatClampNeg = k := nI_clamp (by omega)
    have ef : (nI fi).toNatClampNeg = fi := nI_clamp (by omega)
    have es : (nI s).toNatClampNeg = s := nI_clamp (by omega)
    by_cases h2 : E 64 (fi * 20 + s) < 0
    · exact Or.inl (by unfold stpV; rw [if_neg h1, ek, efi, ef, es, if_pos h2])
    · exact Or.inr ⟨k, s, fi, hk, hs, hfi, rfl, rfl, efi, by unfold stpV; rw [if_neg h1, ek, efi, ef, es, if_neg h2], h2⟩
theorem g_164 {L : Nat} {xs : Nat → Int32} {fr lo : Nat} {s0 n nn gg : Nat} {C : Int32} {f : Nat → Int32} {q : Nat} {u b : Nat → Int32} {h0 h : ax_H} {Z : ZT} {D : Nat → Nat → Nat → Int32} {K A : Nat → Int64} {E : Nat → Nat → Int32} {TK : Int64} {Q : Nat → Mg} {ms : List Mg} {x y z : Int32} (hfr : 2 ≤ fr) (hlo : 70 ≤ lo) (hC : CG s0 n nn gg f) (hG : GS Z s0 n nn gg C f q u b h0 h E TK Q ms D K A) : ax_M L xs 164 fr lo [.ref s0, .int x, .int y, .int z] h (fun r h' => r = some (.int (whrV f nn gg C E x y z)) ∧ h' = h) := by
  have hC0 := hC
  have hGk := hG
  show ax_A (ax_step L xs) ((164, 0, fr, lo), [(0, .ref s0), (1, .int x), (2, .int y), (3, .int z)], [], h) _
  obtain ⟨hs0, hsn, hnn3, hnn, hgg1, hgg, hRg⟩ := hC
  have hGG := hG
  obtain ⟨hS, hG0, hM, hE, hK, hz⟩ := hG
  have hM0 := hM
  obtain ⟨hF, hA, hN, hf, hn, hs, hp0⟩ := hS
  replace hF : ax_hs h [cSt s0 n E, cRk n nn gg C, cOr n nn gg f, cAs n E, cEr n 5 512 E, cEr n 6 100 E, cEr n 7 2 E, cAk n, cEr n 9 512 E, cNa n nn, cEr n 0 48 E, cEr n 1 961 E, cTs n gg E TK, cEr n 59 48 E, cEr n 60 48 E, cEr n 61 48 E, cEr n 62 2400 E, cEr n 63 512 E, cEr n 64 961 E, cEr n 65 961 E] := hF
  refine ar_aload_n 1 d_164_0 rfl rfl ?_
  refine ar_getf 4 d_164_1 rfl (ci := 0) (k := 10) rfl (hF.at 0 rfl) rfl ?_
  refine ar_if_ne 10 7 d_164_4 (by decide) rfl (fun c1 => ?_) (fun c1 => ?_)
  · refine ar_aload_n 11 d_164_10 rfl rfl ?_
    refine ar_iload_n 12 d_164_11 rfl rfl ?_
    refine ar_iload_n 13 d_164_12 rfl rfl ?_
    refine ar_call (r := []) (na := 0) (kd := 0) (cm := 165) (fr2 := fr - 1) (lo2 := lo - 23) 16 d_164_13 (ar_hoV (as := [.int x, .int y]) rfl rfl rfl (hF.at 0 rfl)) rfl (by omega) (show lo - 23 + (19 + 4) = lo by omega) (Nat.le_of_ble_eq_true rfl) (Nat.le_of_ble_eq_true rfl) (g_165 (by omega) (by omega) hC0 hGk) ?_
    intro v hh hq
    obtain ⟨rfl, ehh⟩ := hq
    rw [ehh]
    clear ehh
    rcases stp_c hK x y with e1 | ⟨k, sx, fi, hk, hsx, hfi, ex, ey, efi, e1, hv⟩
    · refine ar_top (x' := -1) e1 ?_
      refine ar_istore 18 [(0, .ref s0), (1, .int x), (2, .int y), (3, .int z), (4, .int (-1))] d_164_16 rfl (by decide) rfl ?_
      refine ar_iload 20 d_164_18 rfl rfl ?_
      refine ar_if_lt 38 23 d_164_20 (by decide) rfl (fun _ => ?_) (fun c => absurd (by decide) c)
      refine ar_bipush 40 (v := -2) d_164_38 rfl (by decide) ?_
      exact ar_iret d_164_40 rfl rfl (⟨by unfold whrV; rw [if_neg c1, if_pos (Or.inl (by rw [e1]; decide))], rfl⟩)
    · refine ar_top (x' := nI (fi * 20 + sx)) e1 ?_
      refine ar_istore 18 [(0, .ref s0), (1, .int x), (2, .int y), (3, .int z), (4, .int (nI (fi * 20 + sx)))] d_164_16 rfl (by decide) rfl ?_
      refine ar_iload 20 d_164_18 rfl rfl ?_
      refine ar_if_lt 38 23 d_164_20 (by decide) rfl (fun c => absurd c (nI_pos (by omega))) (fun _ => ?_)
      refine ar_iload_n 24 d_164_23 rfl rfl ?_
      refine ar_if_lt 38 27 d_164_24 (by decide) rfl (fun c2 => ?_) (fun c2 => ?_)
      · refine ar_bipush 40 (v := -2) d_164_38 rfl (by decide) ?_
        exact ar_iret d_164_40 rfl rfl (⟨by unfold whrV; rw [if_neg c1, if_pos (Or.inr (Or.inl c2))], rfl⟩)
      · refine ar_iload_n 28 d_164_27 rfl rfl ?_
        refine ar_aload_n 29 d_164_28 rfl rfl ?_
        refine ar_getf 32 d_164_29 rfl (ci := 0) (k := 0) rfl (hF.at 0 rfl) rfl ?_
        refine ar_getf 35 d_164_32 rfl (ci := 3) (k := 1) rfl (hF.at 1 rfl) rfl ?_
        refine ar_icmp_lt 41 38 d_164_35 (by decide) rfl (fun c3 => ?_) (fun c3 => ?_)
        · have hgj := hK.1.grp (a := fi * 20 + sx) (by omega) (Or.inr (hK.1.2.2.1 _ (by omega) hv))
          refine ar_aload_n 42 d_164_41 rfl rfl ?_
          refine ar_getf 45 d_164_42 rfl (ci := 0) (k := 0) rfl (hF.at 0 rfl) rfl ?_
          refine ar_aload_n 46 d_164_45 rfl rfl ?_
          refine ar_getf 49 d_164_46 rfl (ci := 0) (k := 4) rfl (hF.at 0 rfl) rfl ?_
          refine ar_iload 51 d_164_49 rfl rfl ?_
          refine ar_call (r := [.ref (n + 264)]) (na := 0) (kd := 0) (cm := 75) (fr2 := fr - 1) (lo2 := lo - 22) 54 d_164_51 (ar_hoV (as := [.int (nI (fi * 20 + sx))]) rfl rfl rfl (hF.at 12 rfl)) rfl (by omega) (show lo - 22 + (19 + 3) = lo by omega) (Nat.le_of_ble_eq_true rfl) (Nat.le_of_ble_eq_true rfl) (c_75 (a := fi * 20 + sx) (by omega) (by omega) hgg hgj (hF.at 12 rfl) (hF.at 13 rfl)) ?_
          intro v hh hq
          obtain ⟨rfl, ehh⟩ := hq
          rw [ehh]
          clear ehh
          refine ar_iload_n 55 d_164_54 rfl rfl ?_
          refine ar_aload_n 56 d_164_55 rfl rfl ?_
          refine ar_getf 59 d_164_56 rfl (ci := 0) (k := 2) rfl (hF.at 0 rfl) rfl ?_
          refine ar_getf 62 d_164_59 rfl (ci := 4) (k := 14) rfl (hF.at 3 rfl) rfl ?_
          refine ar_call (r := []) (na := 0) (kd := 0) (cm := 31) (fr2 := fr - 1) (lo2 := lo - 26) 65 d_164_62 (ar_hoV (as := [.int (nI (grp (E 59) gg (fi * 20 + sx))), .int z, .int (E 4 14)]) rfl rfl rfl (hF.at 1 rfl)) rfl (by omega) (show lo - 26 + (19 + 7) = lo by omega) (Nat.le_of_ble_eq_true rfl) (Nat.le_of_ble_eq_true rfl) (c_31 hgg hnn (g := grp (E 59) gg (fi * 20 + sx)) (grp_lt (E 59) (show 0 < gg by omega) _) (hF.sub (F' := [cRk n nn gg C, cOr n nn gg f]) [1, 2] rfl rfl)) ?_
          intro v hh hq
          obtain ⟨rfl, ehh⟩ := hq
          rw [ehh]
          clear ehh
          exact ar_iret d_164_65 rfl rfl (⟨by unfold whrV; rw [if_neg c1, if_neg (fun w => w.elim (fun w => absurd w (by rw [e1]; exact nI_pos (by omega))) (fun w => w.elim c2 (fun w => absurd c3 (Int32.not_lt.mpr w)))), e1, nI_clamp (show fi * 20 + sx < 2 ^ 31 by omega)], rfl⟩)
        · refine ar_bipush 40 (v := -2) d_164_38 rfl (by decide) ?_
          exact ar_iret d_164_40 rfl rfl (⟨by unfold whrV; rw [if_neg c1, if_pos (Or.inr (Or.inr (Int32.not_lt.mp c3)))], rfl⟩)
  · refine ar_bipush 9 (v := -6) d_164_7 rfl (by decide) ?_
    exact ar_iret d_164_9 rfl rfl (⟨by unfold whrV; rw [if_pos (Decidable.not_not.mp c1)], rfl⟩)
def upS (D : Nat → Nat → Nat → Int32) : Nat → Nat → Nat → Nat
  | 0, _, c => c
  | k + 1, i, c => if D i 0 6 = 0 then upS D k (i + 1) c else upS D k (i + 1) (c + 1)
theorem g_173 {L : Nat} {xs : Nat → Int32} {fr lo : Nat} {s0 n nn gg : Nat} {C : Int32} {f : Nat → Int32} {q : Nat} {u b : Nat → Int32} {h0 h : ax_H} {Z : ZT} {D : Nat → Nat → Nat → Int32} {K A : Nat → Int64} {E : Nat → Nat → Int32} {TK : Int64} {Q : Nat → Mg} {ms : List Mg}  (hfr : 0 ≤ fr) (hlo : 0 ≤ lo) (hC : CG s0 n nn gg f) (hG : GS Z s0 n nn gg C f q u b h0 h E TK Q ms D K A) : ax_M L xs 173 fr lo [.ref s0] h (fun r h' => r = some (.int (nI (upS D nn 0 0))) ∧ h' = h) := by
  have hC0 := hC
  obtain ⟨hs0, hsn, hnn3, hnn, hgg1, hgg, hRg⟩ := hC
  have key : ∀ (k i c1 : Nat), i + k = nn → upS D k i c1 = upS D nn 0 0 → ax_A (ax_step L xs) ((173, 4, fr, lo), [(0, .ref s0), (1, .int (nI c1)), (2, .int (nI i))], [], h) (fun r h' => r = some (.int (nI (upS D nn 0 0))) ∧ h' = h) := by
    intro k
    induction k with
    | zero =>
      intro i c1 hi hc
      have e0 : nn = i := by omega
      subst e0
      have hGG := hG
      obtain ⟨hS, hG0, hM, hE, hK, hz⟩ := hG
      have hM0 := hM
      obtain ⟨hF, hA, hN, hf, hn, hs, hp0⟩ := hS
      replace hF : ax_hs h [cSt s0 n E, cRk n nn gg C, cOr n nn gg f, cAs n E, cEr n 5 512 E, cEr n 6 100 E, cEr n 7 2 E, cAk n, cEr n 9 512 E, cNa n nn, cEr n 0 48 E, cEr n 1 961 E, cTs n gg E TK, cEr n 59 48 E, cEr n 60 48 E, cEr n 61 48 E, cEr n 62 2400 E, cEr n 63 512 E, cEr n 64 961 E, cEr n 65 961 E] := hF
      refine ar_iload_n 5 d_173_4 rfl rfl ?_
      refine ar_aload_n 6 d_173_5 rfl rfl ?_
      refine ar_getf 9 d_173_6 rfl (ci := 0) (k := 3) rfl (hF.at 0 rfl) rfl ?_
      refine ar_alen 10 d_173_9 rfl (hF.at 9 rfl) (by decide) ?_
      refine ar_icmp_ge 34 13 d_173_10 (by decide) rfl (fun _ => ?_) (fun c => absurd (Int32.le_refl _) c)
      refine ar_iload_n 35 d_173_34 rfl rfl ?_
      exact ar_iret d_173_35 rfl rfl (⟨by rw [← hc]; rfl, rfl⟩)
    | succ k ih =>
      intro i c1 hi hc
      have hic : i < nn := by omega
      have hGG := hG
      obtain ⟨hS, hG0, hM, hE, hK, hz⟩ := hG
      have hM0 := hM
      obtain ⟨hF, hA, hN, hf, hn, hs, hp0⟩ := hS
      replace hF : ax_hs h [cSt s0 n E, cRk n nn gg C, cOr n nn gg f, cAs n E, cEr n 5 512 E, cEr n 6 100 E, cEr n 7 2 E, cAk n, cEr n 9 512 E, cNa n nn, cEr n 0 48 E, cEr n 1 961 E, cTs n gg E TK, cEr n 59 48 E, cEr n 60 48 E, cEr n 61 48 E, cEr n 62 2400 E, cEr n 63 512 E, cEr n 64 961 E, cEr n 65 961 E] := hF
      refine ar_iload_n 5 d_173_4 rfl rfl ?_
      refine ar_aload_n 6 d_173_5 rfl rfl ?_
      refine ar_getf 9 d_173_6 rfl (ci := 0) (k := 3) rfl (hF.at 0 rfl) rfl ?_
      refine ar_alen 10 d_173_9 rfl (hF.at 9 rfl) (by decide) ?_
      refine ar_icmp_ge 34 13 d_173_10 (by decide) rfl (fun c => absurd c (nI_ge hic (by omega))) (fun _ => ?_)
      refine ar_aload_n 14 d_173_13 rfl rfl ?_
      refine ar_getf 17 d_173_14 rfl (ci := 0) (k := 3) rfl (hF.at 0 rfl) rfl ?_
      refine ar_iload_n 18 d_173_17 rfl rfl ?_
      refine ar_aald 19 d_173_18 rfl (hF.at 9 rfl) rfl (vin hic (by omega)) ?_
      refine ar_tv (v' := .ref (n + 329 + 22 * i)) (ndr hnn hic) ?_
      refine ar_getf 22 d_173_19 rfl (ci := 7) (k := 6) rfl (hf.g ((hG0 i hic).1.at 0 rfl) (by unfold ASA NTA; omega)) rfl ?_
      refine ar_if_eq 28 25 d_173_22 (by decide) rfl (fun q1 => ?_) (fun q1 => ?_)
      · refine ar_iinc 31 [(0, .ref s0), (1, .int (nI c1)), (2, .int (nI (i + 1)))] d_173_28 rfl rfl (nI_1 i) (by decide) rfl ?_
        refine ar_goto 4 d_173_31 (by decide) ?_
        exact ih (i + 1) c1 (by omega) (by rw [← hc]; exact (if_pos q1).symm)
      · refine ar_iinc 28 [(0, .ref s0), (1, .int (nI (c1 + 1))), (2, .int (nI i))] d_173_25 rfl rfl (nI_1 c1) (by decide) rfl ?_
        refine ar_iinc 31 [(0, .ref s0), (1, .int (nI (c1 + 1))), (2, .int (nI (i + 1)))] d_173_28 rfl rfl (nI_1 i) (by decide) rfl ?_
        refine ar_goto 4 d_173_31 (by decide) ?_
        exact ih (i + 1) (c1 + 1) (by omega) (by rw [← hc]; exact (if_neg q1).symm)
  show ax_A (ax_step L xs) ((173, 0, fr, lo), [(0, .ref s0)], [], h) _
  refine ar_iconst 1 (v := 0) d_173_0 rfl (by decide) ?_
  refine ar_istore_n 2 [(0, .ref s0), (1, .int 0)] d_173_1 rfl (by decide) rfl ?_
  refine ar_iconst 3 (v := 0) d_173_2 rfl (by decide) ?_
  refine ar_istore_n 4 [(0, .ref s0), (1, .int 0), (2, .int 0)] d_173_3 rfl (by decide) rfl ?_
  exact key nn 0 0 (by omega) rfl
def cntV (nn : Nat) (E : Nat → Nat → Int32) (D : Nat → Nat → Nat → Int32) (x : Int32) : Int32 := if x = 0 then E 58 9 else if x = 1 then E 100 7 else if x = 2 then E 100 8 else if x = 3 then E 4 8 else if x = 4 then E 4 8 - E 4 10 else if x = 5 then E 4 13 else if x = 6 then nI (upS D nn 0 0) else if x = 7 then E 4 14 else if x = 8 then E 100 9 else if x = 9 then E 4 3 else if x = 10 then E 100 10 else -1
theorem cntV_out {nn : Nat} {E : Nat → Nat → Int32} {D : Nat → Nat → Nat → Int32} {x : Int32} (h : x.toInt < 0 ∨ (10 : Int) < x.toInt) : cntV nn E D x = -1 := by
  have key : ∀ y : Int32, 0 ≤ y.toInt → y.toInt ≤ 10 → ¬ x = y := fun y h1 h2 e => by rw [e] at h; omega
  unfold cntV
  rw [if_neg (key 0 (by decide) (by decide)), if_neg (key 1 (by decide) (by decide)), if_neg (key 2 (by decide) (by decide)), if_neg (key 3 (by decide) (by decide)), if_neg (key 4 (by decide) (by decide)), if_neg (key 5 (by decide) (by decide)), if_neg (key 6 (by decide) (by decide)), if_neg (key 7 (by decide) (by decide)), if_neg (key 8 (by decide) (by decide)), if_neg (key 9 (by decide) (by decide)), if_neg (key 10 (by decide) (by decide))]
theorem g_172 {L : Nat} {xs : Nat → Int32} {fr lo : Nat} {s0 n nn gg : Nat} {C : Int32} {f : Nat → Int32} {q : Nat} {u b : Nat → Int32} {h0 h : ax_H} {Z : ZT} {D : Nat → Nat → Nat → Int32} {K A : Nat → Int64} {E : Nat → Nat → Int32} {TK : Int64} {Q : Nat → Mg} {ms : List Mg} {x : Int32} (hfr : 1 ≤ fr) (hlo : 40 ≤ lo) (hC : CG s0 n nn gg f) (hG : GS Z s0 n nn gg C f q u b h0 h E TK Q ms D K A) : ax_M L xs 172 fr lo [.ref s0, .int x] h (fun r h' => r = some (.int (cntV nn E D x)) ∧ h' = h) := by
  have hC0 := hC
  have hGk := hG
  show ax_A (ax_step L xs) ((172, 0, fr, lo), [(0, .ref s0), (1, .int x)], [], h) _
  obtain ⟨hs0, hsn, hnn3, hnn, hgg1, hgg, hRg⟩ := hC
  have hGG := hG
  obtain ⟨hS, hG0, hM, hE, hK, hz⟩ := hG
  have hM0 := hM
  obtain ⟨hF, hA, hN, hf, hn, hs, hp0⟩ := hS
  replace hF : ax_hs h [cSt s0 n E, cRk n nn gg C, cOr n nn gg f, cAs n E, cEr n 5 512 E, cEr n 6 100 E, cEr n 7 2 E, cAk n, cEr n 9 512 E, cNa n nn, cEr n 0 48 E, cEr n 1 961 E, cTs n gg E TK, cEr n 59 48 E, cEr n 60 48 E, cEr n 61 48 E, cEr n 62 2400 E, cEr n 63 512 E, cEr n 64 961 E, cEr n 65 961 E] := hF
  refine ar_iload_n 1 d_172_0 rfl rfl ?_
  by_cases hr : x.toInt < 0 ∨ (10 : Int) < x.toInt
  · refine ar_tabOut 149 d_172_1 hr (by decide) ?_
    refine ar_iconst 150 (v := -1) d_172_149 rfl (by decide) ?_
    exact ar_iret d_172_150 rfl rfl (⟨by rw [cntV_out hr], rfl⟩)
  · obtain ⟨k, hk, rfl⟩ := cnt_in hr
    have hk2 : k = 0 ∨ k = 1 ∨ k = 2 ∨ k = 3 ∨ k = 4 ∨ k = 5 ∨ k = 6 ∨ k = 7 ∨ k = 8 ∨ k = 9 ∨ k = 10 := by omega
    rcases hk2 with rfl | rfl | rfl | rfl | rfl | rfl | rfl | rfl | rfl | rfl | rfl
    · refine ar_tabIn 60 d_172_1 (by decide) (off := 59) rfl (by decide) ?_
      refine ar_aload_n 61 d_172_60 rfl rfl ?_
      refine ar_getf 64 d_172_61 rfl (ci := 0) (k := 4) rfl (hF.at 0 rfl) rfl ?_
      refine ar_getf 67 d_172_64 rfl (ci := 6) (k := 9) rfl (hF.at 12 rfl) rfl ?_
      exact ar_iret d_172_67 rfl rfl (⟨rfl, rfl⟩)
    · refine ar_tabIn 68 d_172_1 (by decide) (off := 67) rfl (by decide) ?_
      refine ar_aload_n 69 d_172_68 rfl rfl ?_
      refine ar_getf 72 d_172_69 rfl (ci := 0) (k := 7) rfl (hF.at 0 rfl) rfl ?_
      exact ar_iret d_172_72 rfl rfl (⟨rfl, rfl⟩)
    · refine ar_tabIn 73 d_172_1 (by decide) (off := 72) rfl (by decide) ?_
      refine ar_aload_n 74 d_172_73 rfl rfl ?_
      refine ar_getf 77 d_172_74 rfl (ci := 0) (k := 8) rfl (hF.at 0 rfl) rfl ?_
      exact ar_iret d_172_77 rfl rfl (⟨rfl, rfl⟩)
    · refine ar_tabIn 78 d_172_1 (by decide) (off := 77) rfl (by decide) ?_
      refine ar_aload_n 79 d_172_78 rfl rfl ?_
      refine ar_getf 82 d_172_79 rfl (ci := 0) (k := 2) rfl (hF.at 0 rfl) rfl ?_
      refine ar_getf 85 d_172_82 rfl (ci := 4) (k := 8) rfl (hF.at 3 rfl) rfl ?_
      exact ar_iret d_172_85 rfl rfl (⟨rfl, rfl⟩)
    · refine ar_tabIn 86 d_172_1 (by decide) (off := 85) rfl (by decide) ?_
      refine ar_aload_n 87 d_172_86 rfl rfl ?_
      refine ar_getf 90 d_172_87 rfl (ci := 0) (k := 2) rfl (hF.at 0 rfl) rfl ?_
      refine ar_getf 93 d_172_90 rfl (ci := 4) (k := 8) rfl (hF.at 3 rfl) rfl ?_
      refine ar_aload_n 94 d_172_93 rfl rfl ?_
      refine ar_getf 97 d_172_94 rfl (ci := 0) (k := 2) rfl (hF.at 0 rfl) rfl ?_
      refine ar_getf 100 d_172_97 rfl (ci := 4) (k := 10) rfl (hF.at 3 rfl) rfl ?_
      refine ar_isub 101 d_172_100 rfl ?_
      exact ar_iret d_172_101 rfl rfl (⟨rfl, rfl⟩)
    · refine ar_tabIn 102 d_172_1 (by decide) (off := 101) rfl (by decide) ?_
      refine ar_aload_n 103 d_172_102 rfl rfl ?_
      refine ar_getf 106 d_172_103 rfl (ci := 0) (k := 2) rfl (hF.at 0 rfl) rfl ?_
      refine ar_getf 109 d_172_106 rfl (ci := 4) (k := 13) rfl (hF.at 3 rfl) rfl ?_
      exact ar_iret d_172_109 rfl rfl (⟨rfl, rfl⟩)
    · refine ar_tabIn 110 d_172_1 (by decide) (off := 109) rfl (by decide) ?_
      refine ar_aload_n 111 d_172_110 rfl rfl ?_
      refine ar_call (r := []) (na := 0) (kd := 0) (cm := 173) (fr2 := fr - 1) (lo2 := lo - 22) 114 d_172_111 (ar_hoV (as := []) rfl rfl rfl (hF.at 0 rfl)) rfl (by omega) (show lo - 22 + (19 + 3) = lo by omega) (Nat.le_of_ble_eq_true rfl) (Nat.le_of_ble_eq_true rfl) (g_173 (by omega) (by omega) hC0 hGk) ?_
      intro v hh hq
      obtain ⟨rfl, ehh⟩ := hq
      rw [ehh]
      clear ehh
      exact ar_iret d_172_114 rfl rfl (⟨rfl, rfl⟩)
    · refine ar_tabIn 115 d_172_1 (by decide) (off := 114) rfl (by decide) ?_
      refine ar_aload_n 116 d_172_115 rfl rfl ?_
      refine ar_getf 119 d_172_116 rfl (ci := 0) (k := 2) rfl (hF.at 0 rfl) rfl ?_
      refine ar_getf 122 d_172_119 rfl (ci := 4) (k := 14) rfl (hF.at 3 rfl) rfl ?_
      exact ar_iret d_172_122 rfl rfl (⟨rfl, rfl⟩)
    · refine ar_tabIn 123 d_172_1 (by decide) (off := 122) rfl (by decide) ?_
      refine ar_aload_n 124 d_172_123 rfl rfl ?_
      refine ar_getf 127 d_172_124 rfl (ci := 0) (k := 9) rfl (hF.at 0 rfl) rfl ?_
      exact ar_iret d_172_127 rfl rfl (⟨rfl, rfl⟩)
    · refine ar_tabIn 128 d_172_1 (by decide) (off := 127) rfl (by decide) ?_
      refine ar_aload_n 129 d_172_128 rfl rfl ?_
      refine ar_getf 132 d_172_129 rfl (ci := 0) (k := 2) rfl (hF.at 0 rfl) rfl ?_
      refine ar_getf 135 d_172_132 rfl (ci := 4) (k := 3) rfl (hF.at 3 rfl) rfl ?_
      exact ar_iret d_172_135 rfl rfl (⟨rfl, rfl⟩)
    · refine ar_tabIn 136 d_172_1 (by decide) (off := 135) rfl (by decide) ?_
      refine ar_aload_n 137 d_172_136 rfl rfl ?_
      refine ar_getf 140 d_172_137 rfl (ci := 0) (k := 10) rfl (hF.at 0 rfl) rfl ?_
      refine ar_if_eq 147 143 d_172_140 (by decide) rfl (fun q1 => ?_) (fun q1 => ?_)
      · refine ar_iconst 148 (v := 0) d_172_147 rfl (by decide) ?_
        exact ar_iret d_172_148 rfl rfl (⟨by rw [show cntV nn E D (nI 10) = E 100 10 from rfl, q1], rfl⟩)
      · refine ar_iconst 144 (v := 1) d_172_143 rfl (by decide) ?_
        refine ar_goto 148 d_172_144 (by decide) ?_
        exact ar_iret d_172_148 rfl rfl (⟨by rw [show cntV nn E D (nI 10) = E 100 10 from rfl, hK.2.2.resolve_left q1], rfl⟩)


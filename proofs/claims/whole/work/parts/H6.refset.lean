/-! the reference's settle, with any property that each act keeps -/
def stT (M : Nat → Nat → Int32) : Nat → Nat
  | 0 => 0
  | i + 1 => stT M i + strS (M 19) (19 * (M 12 i).toNatClampNeg) 19 0 0
theorem stT_cg {M M' : Nat → Nat → Int32} (h19 : M' 19 = M 19) (h12 : M' 12 = M 12) : ∀ i, stT M' i = stT M i
  | 0 => rfl
  | i + 1 => by show stT M' i + strS (M' 19) (19 * (M' 12 i).toNatClampNeg) 19 0 0 = _; rw [stT_cg h19 h12 i, h19, h12]; rfl
def SMx (i : Nat) (M1 M : Nat → Nat → Int32) : Prop := (∀ k, k ≠ 0 → M k = M1 k) ∧ M 0 20 = M1 0 20 ∧ M 0 21 = M1 0 21 ∧ M 0 24 = nI (stT M1 i)
/-- what J must stand -/
def JH (wt tf : Nat) (J : Nat → (Nat → Nat → Int32) → Prop) : Prop := (∀ w M y M', w < wt → J w M → ACT w (tf + w) M y M' → KM M M' → FLM M' → J (w + 1) (va_up M' 34 (upd (M' 34) (tf + w) y))) ∧ ∀ w M g, J w M → (∀ o, o < tf + w → g o = M 34 o) → J w (va_up M 34 g)
set_option maxRecDepth 100000 in
theorem rB_192X {L : Nat} {xs : Nat → Int32} {fr lo : Nat} {m p : Nat} {wt tf w : Nat} {post : ax_Po} {al AL : Nat} {h0 h : ax_H} {M : Nat → Nat → Int32} {J : Nat → (Nat → Nat → Int32) → Prop} (hJ : JH wt tf J) (hwt : w < wt) (hJ0 : J w M) (hfr : 6 ≤ fr) (hlo : 210 ≤ lo) (hC : RC m p al) (hS : RS m p al AL h0 h M) (hw : w < 12) (htf : tf + w < 512) (hA : tf + w < AL) (hA5 : AL ≤ 512) (hFL : FLM M) (hO : OPI w M) (h36 : ∀ x, x < 12 → inR 2049 (M 36 x)) (kk : ∀ (h' : ax_H) (M' : Nat → Nat → Int32), RS m p al AL h0 h' M' → FLM M' → (∀ x, x < 12 → inR 2049 (M' 36 x)) → KS M M' → J (w + 1) M' → ax_A (ax_step L xs) ((192, 22, fr, lo), [(0, .ref m), (1, .int (nI wt)), (2, .int (nI (w + 1)))], [], h') post) : ax_A (ax_step L xs) ((192, 87, fr, lo), [(0, .ref m), (1, .int (nI wt)), (2, .int (nI w)), (3, .int (nI (tf + w)))], [], h) post := by
  have hC0 := hC
  obtain ⟨hmp, hal, hm0⟩ := hC
  obtain ⟨hF, hf, hn, hs, hp0⟩ := hS
  replace hF : ax_hs h [cRo m p al M, cRB p 2048 (M 8), cRB (p + 1) 400 (M 10), cRI (p + 2) 2 (M 11), cRI (p + 3) 48 (M 12), cRZ (p + 4) 48 (M 13), cRB (p + 5) 9600 (M 14), cRI (p + 6) 48 (M 15), cRI (p + 7) 48 (M 16), cRI (p + 8) 48 (M 17), cRB (p + 9) 393216 (M 18), cRZ (p + 10) 912 (M 19), cRI (p + 11) 12 (M 27), cRI (p + 12) 12 (M 28), cRI (p + 13) 12 (M 29), cRB (p + 14) 4800 (M 30), cRI (p + 15) 24 (M 31), cRB (p + 16) 24576 (M 32), cRI (p + 17) 12 (M 33), cRI al AL (M 34), cRI (p + 19) 24576 (M 35), cRI (p + 20) 12 (M 36)] := hF
  refine ar_aload_n 88 d_192_87 rfl rfl ?_
  refine ar_getf 91 d_192_88 rfl (ci := 11) (k := 34) rfl (hF.at 0 rfl) (show _ = some (.ref al) from rfl) ?_
  refine ar_iload_n 92 d_192_91 rfl rfl ?_
  refine ar_aload_n 93 d_192_92 rfl rfl ?_
  refine ar_iload_n 94 d_192_93 rfl rfl ?_
  refine ar_iload_n 95 d_192_94 rfl rfl ?_
  have hS1 : RS m p al AL h0 h M := ⟨hF, hf, hn, hs, hp0⟩
  refine ar_call (r := [.int (nI (tf + w)), .ref al]) (na := 0) (kd := 0) (cm := 193) (fr2 := fr - 1) (lo2 := lo - 23) 98 d_192_95 (ar_hoV (as := [.int (nI w), .int (nI (tf + w))]) rfl rfl rfl (hF.at 0 rfl)) rfl (by omega) (show lo - 23 + (19 + 4) = lo by omega) (Nat.le_of_ble_eq_true rfl) (Nat.le_of_ble_eq_true rfl) (r_193X (by omega) (by omega) hC0 hS1 hw htf hFL hO) ?_
  intro v hp_1 hq
  obtain ⟨y1, M1, rfl, hS2, hAC, hFL1, hKM, hT⟩ := hq
  clear hS1 hF hf hn hs hp0
  obtain ⟨hF, hf, hn, hs, hp0⟩ := hS2
  replace hF : ax_hs hp_1 [cRo m p al M1, cRB p 2048 (M1 8), cRB (p + 1) 400 (M1 10), cRI (p + 2) 2 (M1 11), cRI (p + 3) 48 (M1 12), cRZ (p + 4) 48 (M1 13), cRB (p + 5) 9600 (M1 14), cRI (p + 6) 48 (M1 15), cRI (p + 7) 48 (M1 16), cRI (p + 8) 48 (M1 17), cRB (p + 9) 393216 (M1 18), cRZ (p + 10) 912 (M1 19), cRI (p + 11) 12 (M1 27), cRI (p + 12) 12 (M1 28), cRI (p + 13) 12 (M1 29), cRB (p + 14) 4800 (M1 30), cRI (p + 15) 24 (M1 31), cRB (p + 16) 24576 (M1 32), cRI (p + 17) 12 (M1 33), cRI al AL (M1 34), cRI (p + 19) 24576 (M1 35), cRI (p + 20) 12 (M1 36)] := hF
  refine ar_iast 99 d_192_98 rfl (hF.at 19 rfl) (vin (by omega) (by omega)) ?_
  replace hF : ax_hs (ax_put hp_1 al (.inl (0, AL, .inl (upd (M1 34) (nI (tf + w)).toNatClampNeg y1)))) [cRo m p al M1, cRB p 2048 (M1 8), cRB (p + 1) 400 (M1 10), cRI (p + 2) 2 (M1 11), cRI (p + 3) 48 (M1 12), cRZ (p + 4) 48 (M1 13), cRB (p + 5) 9600 (M1 14), cRI (p + 6) 48 (M1 15), cRI (p + 7) 48 (M1 16), cRI (p + 8) 48 (M1 17), cRB (p + 9) 393216 (M1 18), cRZ (p + 10) 912 (M1 19), cRI (p + 11) 12 (M1 27), cRI (p + 12) 12 (M1 28), cRI (p + 13) 12 (M1 29), cRB (p + 14) 4800 (M1 30), cRI (p + 15) 24 (M1 31), cRB (p + 16) 24576 (M1 32), cRI (p + 17) 12 (M1 33), (al, .inl (0, AL, .inl (upd (M1 34) (nI (tf + w)).toNatClampNeg y1))), cRI (p + 19) 24576 (M1 35), cRI (p + 20) 12 (M1 36)] := hF.put 19 _ rfl rfl
  replace hf := hf.put (a := al) (c := .inl (0, AL, .inl (upd (M1 34) (nI (tf + w)).toNatClampNeg y1))) (show m ≤ al by omega)
  replace hn : (ax_put hp_1 al (.inl (0, AL, .inl (upd (M1 34) (nI (tf + w)).toNatClampNeg y1)))).1 = h0.1 := hn
  replace hs : (ax_put hp_1 al (.inl (0, AL, .inl (upd (M1 34) (nI (tf + w)).toNatClampNeg y1)))).2.1 = h0.2.1 := hs
  generalize ax_put hp_1 al (.inl (0, AL, .inl (upd (M1 34) (nI (tf + w)).toNatClampNeg y1))) = hp_2 at hF hf hn hs ⊢
  refine ar_iinc 102 [(0, .ref m), (1, .int (nI wt)), (2, .int (nI (w + 1))), (3, .int (nI (tf + w)))] d_192_99 rfl rfl (nI_1 w) (by decide) rfl ?_
  refine ar_goto 22 d_192_102 (by decide) ?_
  replace hF : ax_hs hp_2 [cRo m p al M1, cRB p 2048 (M1 8), cRB (p + 1) 400 (M1 10), cRI (p + 2) 2 (M1 11), cRI (p + 3) 48 (M1 12), cRZ (p + 4) 48 (M1 13), cRB (p + 5) 9600 (M1 14), cRI (p + 6) 48 (M1 15), cRI (p + 7) 48 (M1 16), cRI (p + 8) 48 (M1 17), cRB (p + 9) 393216 (M1 18), cRZ (p + 10) 912 (M1 19), cRI (p + 11) 12 (M1 27), cRI (p + 12) 12 (M1 28), cRI (p + 13) 12 (M1 29), cRB (p + 14) 4800 (M1 30), cRI (p + 15) 24 (M1 31), cRB (p + 16) 24576 (M1 32), cRI (p + 17) 12 (M1 33), (al, .inl (0, AL, .inl (upd (M1 34) (tf + w) y1))), cRI (p + 19) 24576 (M1 35), cRI (p + 20) 12 (M1 36)] := by
    have e := hF
    rw [nI_clamp (show tf + w < 2 ^ 31 by omega)] at e
    exact e
  refine ar_wk [0, 1, 2] rfl (by simp) ?_
  have hS3 : RS m p al AL h0 hp_2 (va_up M1 34 (upd (M1 34) (tf + w) y1)) := ⟨hF, hf, hn, hs, hp0⟩
  exact kk hp_2 _ hS3 hFL1 (hT h36) hKM.ks (hJ.1 w M y1 M1 hwt hJ0 hAC hKM hFL1)
set_option maxRecDepth 100000 in
theorem rE_192X {L : Nat} {xs : Nat → Int32} {fr lo : Nat} {m p nn A0 wt tf : Nat} {hB : ax_H} {M0 M1 : Nat → Nat → Int32} {al AL c : Nat} (hfr : 2 ≤ fr) (hlo : 60 ≤ lo) (hC : RC m p al) (hAo : AOK AL) (hAL : tf + wt ≤ AL) (hc48 : c ≤ 48) : ∀ (k i : Nat) (h : ax_H) (M : Nat → Nat → Int32), i + k = c → M 0 20 = nI c → RT m p al AL A0 hB h M → FLM M → (∀ x, x < 12 → inR 2049 (M 36 x)) → SMr nn wt tf M0 M → SMx i M1 M → ax_A (ax_step L xs) ((192, 173, fr, lo), [(0, .ref m), (1, .int (nI wt)), (2, .int (nI i))], [], h) (fun r h' => ∃ (al' AL' : Nat) (M' : Nat → Nat → Int32), r = some (.int (nI wt)) ∧ RC m p al' ∧ RT m p al' AL' A0 hB h' M' ∧ AOK AL' ∧ tf + wt ≤ AL' ∧ FLM M' ∧ (∀ x, x < 12 → inR 2049 (M' 36 x)) ∧ SMr nn wt tf M0 M' ∧ SMx c M1 M') := by
    have hC0 := hC
    obtain ⟨hmp, hal, hm0⟩ := hC
    intro k
    induction k with
    | zero =>
      intro i h M hi e20 hR hFL h36 hSM hX
      have e0 : c = i := by omega
      subst e0
      have hS := hR.rs
      obtain ⟨h0, eh⟩ : ∃ h0 : ax_H, h0 = h := ⟨h, rfl⟩
      rw [show RS m p al AL h h M = RS m p al AL h0 h M by rw [eh]] at hS

      obtain ⟨hF, hf, hn, hs, hp0⟩ := hS
      replace hF : ax_hs h [cRo m p al M, cRB p 2048 (M 8), cRB (p + 1) 400 (M 10), cRI (p + 2) 2 (M 11), cRI (p + 3) 48 (M 12), cRZ (p + 4) 48 (M 13), cRB (p + 5) 9600 (M 14), cRI (p + 6) 48 (M 15), cRI (p + 7) 48 (M 16), cRI (p + 8) 48 (M 17), cRB (p + 9) 393216 (M 18), cRZ (p + 10) 912 (M 19), cRI (p + 11) 12 (M 27), cRI (p + 12) 12 (M 28), cRI (p + 13) 12 (M 29), cRB (p + 14) 4800 (M 30), cRI (p + 15) 24 (M 31), cRB (p + 16) 24576 (M 32), cRI (p + 17) 12 (M 33), cRI al AL (M 34), cRI (p + 19) 24576 (M 35), cRI (p + 20) 12 (M 36)] := hF
      refine ar_iload_n 174 d_192_173 rfl rfl ?_
      refine ar_aload_n 175 d_192_174 rfl rfl ?_
      refine ar_getf 178 d_192_175 rfl (ci := 11) (k := 20) rfl (hF.at 0 rfl) (show _ = some (.int ((M 0) 20)) from rfl) ?_
      refine ar_top (x' := nI c) (e20) ?_
      refine ar_icmp_ge 206 181 d_192_178 (by decide) rfl (fun _ => ?_) (fun c => absurd (Int32.le_refl _) c)
      refine ar_iload_n 207 d_192_206 rfl rfl ?_
      exact ar_iret d_192_207 rfl rfl (⟨al, AL, M, rfl, hC0, hR, hAo, hAL, hFL, h36, hSM, hX⟩)
    | succ k ih =>
      intro i h M hi e20 hR hFL h36 hSM hX
      have hic : i < c := by omega
      have hS := hR.rs
      obtain ⟨h0, eh⟩ : ∃ h0 : ax_H, h0 = h := ⟨h, rfl⟩
      rw [show RS m p al AL h h M = RS m p al AL h0 h M by rw [eh]] at hS
      have hFL0 := hFL
      obtain ⟨c2, to, e2, e21, hI⟩ := hFL
      have hc2 : c2 = c := nI_inj (by have := hI.1; omega) (by omega) (e2.symm.trans e20)
      subst hc2
      obtain ⟨hog1, hog2⟩ := hI.2.1 i hic
      have eog : M 12 i = nI (M 12 i).toNatClampNeg := nI_cl hog1
      generalize efi : (M 12 i).toNatClampNeg = fi at hog2 eog
      obtain ⟨hF, hf, hn, hs, hp0⟩ := hS
      replace hF : ax_hs h [cRo m p al M, cRB p 2048 (M 8), cRB (p + 1) 400 (M 10), cRI (p + 2) 2 (M 11), cRI (p + 3) 48 (M 12), cRZ (p + 4) 48 (M 13), cRB (p + 5) 9600 (M 14), cRI (p + 6) 48 (M 15), cRI (p + 7) 48 (M 16), cRI (p + 8) 48 (M 17), cRB (p + 9) 393216 (M 18), cRZ (p + 10) 912 (M 19), cRI (p + 11) 12 (M 27), cRI (p + 12) 12 (M 28), cRI (p + 13) 12 (M 29), cRB (p + 14) 4800 (M 30), cRI (p + 15) 24 (M 31), cRB (p + 16) 24576 (M 32), cRI (p + 17) 12 (M 33), cRI al AL (M 34), cRI (p + 19) 24576 (M 35), cRI (p + 20) 12 (M 36)] := hF
      refine ar_iload_n 174 d_192_173 rfl rfl ?_
      refine ar_aload_n 175 d_192_174 rfl rfl ?_
      refine ar_getf 178 d_192_175 rfl (ci := 11) (k := 20) rfl (hF.at 0 rfl) (show _ = some (.int ((M 0) 20)) from rfl) ?_
      refine ar_top (x' := nI c2) (e2) ?_
      refine ar_icmp_ge 206 181 d_192_178 (by decide) rfl (fun c => absurd c (nI_ge hic (by omega))) (fun _ => ?_)
      refine ar_aload_n 182 d_192_181 rfl rfl ?_
      refine ar_dup 183 d_192_182 rfl rfl ?_
      refine ar_getf 186 d_192_183 rfl (ci := 11) (k := 24) rfl (hF.at 0 rfl) (show _ = some (.int ((M 0) 24)) from rfl) ?_
      refine ar_aload_n 187 d_192_186 rfl rfl ?_
      refine ar_aload_n 188 d_192_187 rfl rfl ?_
      refine ar_getf 191 d_192_188 rfl (ci := 11) (k := 12) rfl (hF.at 0 rfl) (show _ = some (.ref (p + 3)) from rfl) ?_
      refine ar_iload_n 192 d_192_191 rfl rfl ?_
      refine ar_iald 193 d_192_192 rfl (hF.at 4 rfl) (vin (by omega) (by omega)) ?_
      refine ar_top (x' := nI fi) (by rw [nI_clamp (show i < 2 ^ 31 by omega)]; exact eog) ?_
      refine ar_call (r := [.int ((M 0) 24), .ref m]) (na := 0) (kd := 0) (cm := 207) (fr2 := fr - 1) (lo2 := lo - 23) 196 d_192_193 (ar_hoV (as := [.int (nI fi)]) rfl rfl rfl (hF.at 0 rfl)) rfl (by omega) (show lo - 23 + (19 + 4) = lo by omega) (Nat.le_of_ble_eq_true rfl) (Nat.le_of_ble_eq_true rfl) (n_207 hog2 (hF.at 0 rfl) rfl (hF.at 11 rfl)) ?_
      intro v hh hq
      obtain ⟨rfl, ehh⟩ := hq
      rw [ehh]
      clear ehh
      refine ar_iadd 197 d_192_196 rfl ?_
      refine ar_putf 200 (RV p al (upd (M 0) 24 (((M 0) 24) + (nI (strS (M 19) (19 * fi) 19 0 0))))) d_192_197 rfl (ci := 11) (k := 24) rfl rfl (hF.at 0 rfl) (Nat.le_of_ble_eq_true rfl) rfl rfl rfl ?_
      replace hF : ax_hs (ax_put h m (.inr (11, RV p al (upd (M 0) 24 (((M 0) 24) + (nI (strS (M 19) (19 * fi) 19 0 0))))))) [(m, .inr (11, RV p al (upd (M 0) 24 (((M 0) 24) + (nI (strS (M 19) (19 * fi) 19 0 0)))))), cRB p 2048 (M 8), cRB (p + 1) 400 (M 10), cRI (p + 2) 2 (M 11), cRI (p + 3) 48 (M 12), cRZ (p + 4) 48 (M 13), cRB (p + 5) 9600 (M 14), cRI (p + 6) 48 (M 15), cRI (p + 7) 48 (M 16), cRI (p + 8) 48 (M 17), cRB (p + 9) 393216 (M 18), cRZ (p + 10) 912 (M 19), cRI (p + 11) 12 (M 27), cRI (p + 12) 12 (M 28), cRI (p + 13) 12 (M 29), cRB (p + 14) 4800 (M 30), cRI (p + 15) 24 (M 31), cRB (p + 16) 24576 (M 32), cRI (p + 17) 12 (M 33), cRI al AL (M 34), cRI (p + 19) 24576 (M 35), cRI (p + 20) 12 (M 36)] := hF.put 0 _ rfl rfl
      replace hf := hf.put (a := m) (c := .inr (11, RV p al (upd (M 0) 24 (((M 0) 24) + (nI (strS (M 19) (19 * fi) 19 0 0)))))) (show m ≤ m by omega)
      replace hn : (ax_put h m (.inr (11, RV p al (upd (M 0) 24 (((M 0) 24) + (nI (strS (M 19) (19 * fi) 19 0 0))))))).1 = h0.1 := hn
      replace hs : (ax_put h m (.inr (11, RV p al (upd (M 0) 24 (((M 0) 24) + (nI (strS (M 19) (19 * fi) 19 0 0))))))).2.1 = h0.2.1 := hs
      generalize ax_put h m (.inr (11, RV p al (upd (M 0) 24 (((M 0) 24) + (nI (strS (M 19) (19 * fi) 19 0 0)))))) = hp_1 at hF hf hn hs ⊢
      refine ar_iinc 203 [(0, .ref m), (1, .int (nI wt)), (2, .int (nI (i + 1)))] d_192_200 rfl rfl (nI_1 i) (by decide) rfl ?_
      refine ar_goto 173 d_192_203 (by decide) ?_
      have hS1 : RS m p al AL h0 hp_1 (va_up M 0 (upd (M 0) 24 (((M 0) 24) + (nI (strS (M 19) (19 * fi) 19 0 0))))) := ⟨hF, hf, hn, hs, hp0⟩
      rw [eh] at hS1
      exact ih (i + 1) hp_1 (va_up M 0 (upd (M 0) 24 (((M 0) 24) + (nI (strS (M 19) (19 * fi) 19 0 0))))) (by omega) e2 (hR.st hS1) ⟨c2, to, e2, e21, hI⟩ h36 ⟨fun k hk => (by rw [← hSM.1 k hk]; exact pk_un (by omega)), hSM.2⟩ ⟨fun k hk => (by rw [va_up_n _ _ hk]; exact hX.1 k hk), (by rw [va_up_s, pk_un (by decide)]; exact hX.2.1), (by rw [va_up_s, pk_un (by decide)]; exact hX.2.2.1), (by rw [va_up_s, pk_us, hX.2.2.2, nI_add]; show _ = nI (stT M1 i + strS (M1 19) (19 * (M1 12 i).toNatClampNeg) 19 0 0); rw [← hX.1 19 (by decide), ← hX.1 12 (by decide), efi])⟩
set_option maxRecDepth 100000 in
theorem rW_192X {L : Nat} {xs : Nat → Int32} {fr lo : Nat} {m p nn A0 wt tf : Nat} {hB : ax_H} {M0 : Nat → Nat → Int32} {J : Nat → (Nat → Nat → Int32) → Prop} (hJ : JH wt tf J) (hfr : 6 ≤ fr) (hlo : 210 ≤ lo) (hwt : wt ≤ 12) (hop : tf + wt ≤ 512) : ∀ (k w al AL : Nat) (h : ax_H) (M : Nat → Nat → Int32), w + k = wt → RC m p al → AOK AL → tf + w ≤ AL → RT m p al AL A0 hB h M → FLM M → (∀ x, x < 12 → inR 2049 (M 36 x)) → IL nn wt tf M0 M → J w M → ax_A (ax_step L xs) ((192, 22, fr, lo), [(0, .ref m), (1, .int (nI wt)), (2, .int (nI w))], [], h) (fun r h' => ∃ (al' AL' : Nat) (M' : Nat → Nat → Int32), r = some (.int (nI wt)) ∧ RC m p al' ∧ RT m p al' AL' A0 hB h' M' ∧ AOK AL' ∧ tf + wt ≤ AL' ∧ FLM M' ∧ (∀ x, x < 12 → inR 2049 (M' 36 x)) ∧ SMr nn wt tf M0 M' ∧ ∃ (M1 : Nat → Nat → Int32) (c : Nat), J wt M1 ∧ M' 0 20 = nI c ∧ c ≤ 48 ∧ SMx c M1 M') := by
    intro k
    induction k with
    | zero =>
      intro w al AL h M hi hC hAo hAL hR hFL h36 hIL hJ0
      have hC0 := hC
      obtain ⟨hmp, hal, hm0⟩ := hC
      have e0 : wt = w := by omega
      subst e0
      have hS := hR.rs
      obtain ⟨h0, eh⟩ : ∃ h0 : ax_H, h0 = h := ⟨h, rfl⟩
      rw [show RS m p al AL h h M = RS m p al AL h0 h M by rw [eh]] at hS
      obtain ⟨c, to, e20, e21, hI⟩ := hFL
      obtain ⟨i1, i2, i3, i4, i5, i6, i7, i8⟩ := hIL
      obtain ⟨hF, hf, hn, hs, hp0⟩ := hS
      replace hF : ax_hs h [cRo m p al M, cRB p 2048 (M 8), cRB (p + 1) 400 (M 10), cRI (p + 2) 2 (M 11), cRI (p + 3) 48 (M 12), cRZ (p + 4) 48 (M 13), cRB (p + 5) 9600 (M 14), cRI (p + 6) 48 (M 15), cRI (p + 7) 48 (M 16), cRI (p + 8) 48 (M 17), cRB (p + 9) 393216 (M 18), cRZ (p + 10) 912 (M 19), cRI (p + 11) 12 (M 27), cRI (p + 12) 12 (M 28), cRI (p + 13) 12 (M 29), cRB (p + 14) 4800 (M 30), cRI (p + 15) 24 (M 31), cRB (p + 16) 24576 (M 32), cRI (p + 17) 12 (M 33), cRI al AL (M 34), cRI (p + 19) 24576 (M 35), cRI (p + 20) 12 (M 36)] := hF
      refine ar_iload_n 23 d_192_22 rfl rfl ?_
      refine ar_iload_n 24 d_192_23 rfl rfl ?_
      refine ar_icmp_ge 105 27 d_192_24 (by decide) rfl (fun _ => ?_) (fun c => absurd (Int32.le_refl _) c)
      refine ar_aload_n 106 d_192_105 rfl rfl ?_
      refine ar_iconst 107 (v := 0) d_192_106 rfl (by decide) ?_
      refine ar_putf 110 (RV p al (upd (M 0) 26 0)) d_192_107 rfl (ci := 11) (k := 26) rfl rfl (hF.at 0 rfl) (Nat.le_of_ble_eq_true rfl) rfl rfl rfl ?_
      replace hF : ax_hs (ax_put h m (.inr (11, RV p al (upd (M 0) 26 0)))) [(m, .inr (11, RV p al (upd (M 0) 26 0))), cRB p 2048 (M 8), cRB (p + 1) 400 (M 10), cRI (p + 2) 2 (M 11), cRI (p + 3) 48 (M 12), cRZ (p + 4) 48 (M 13), cRB (p + 5) 9600 (M 14), cRI (p + 6) 48 (M 15), cRI (p + 7) 48 (M 16), cRI (p + 8) 48 (M 17), cRB (p + 9) 393216 (M 18), cRZ (p + 10) 912 (M 19), cRI (p + 11) 12 (M 27), cRI (p + 12) 12 (M 28), cRI (p + 13) 12 (M 29), cRB (p + 14) 4800 (M 30), cRI (p + 15) 24 (M 31), cRB (p + 16) 24576 (M 32), cRI (p + 17) 12 (M 33), cRI al AL (M 34), cRI (p + 19) 24576 (M 35), cRI (p + 20) 12 (M 36)] := hF.put 0 _ rfl rfl
      replace hf := hf.put (a := m) (c := .inr (11, RV p al (upd (M 0) 26 0))) (show m ≤ m by omega)
      replace hn : (ax_put h m (.inr (11, RV p al (upd (M 0) 26 0)))).1 = h0.1 := hn
      replace hs : (ax_put h m (.inr (11, RV p al (upd (M 0) 26 0)))).2.1 = h0.2.1 := hs
      generalize ax_put h m (.inr (11, RV p al (upd (M 0) 26 0))) = hp_1 at hF hf hn hs ⊢
      refine ar_aload_n 111 d_192_110 rfl rfl ?_
      refine ar_iconst 112 (v := 1) d_192_111 rfl (by decide) ?_
      refine ar_aload_n 113 d_192_112 rfl rfl ?_
      refine ar_getf 116 d_192_113 rfl (ci := 11) (k := 0) rfl (hF.at 0 rfl) (show _ = some (.int ((M 0) 0)) from rfl) ?_
      refine ar_top (x' := nI nn) (i2) ?_
      refine ar_ishl 117 d_192_116 rfl ?_
      refine ar_iconst 118 (v := 1) d_192_117 rfl (by decide) ?_
      refine ar_isub 119 d_192_118 rfl ?_
      refine ar_top (x' := allN nn) (rfl) ?_
      refine ar_putf 122 (RV p al (upd (upd (M 0) 26 0) 3 (allN nn))) d_192_119 rfl (ci := 11) (k := 3) rfl rfl (hF.at 0 rfl) (Nat.le_of_ble_eq_true rfl) rfl rfl rfl ?_
      replace hF : ax_hs (ax_put hp_1 m (.inr (11, RV p al (upd (upd (M 0) 26 0) 3 (allN nn))))) [(m, .inr (11, RV p al (upd (upd (M 0) 26 0) 3 (allN nn)))), cRB p 2048 (M 8), cRB (p + 1) 400 (M 10), cRI (p + 2) 2 (M 11), cRI (p + 3) 48 (M 12), cRZ (p + 4) 48 (M 13), cRB (p + 5) 9600 (M 14), cRI (p + 6) 48 (M 15), cRI (p + 7) 48 (M 16), cRI (p + 8) 48 (M 17), cRB (p + 9) 393216 (M 18), cRZ (p + 10) 912 (M 19), cRI (p + 11) 12 (M 27), cRI (p + 12) 12 (M 28), cRI (p + 13) 12 (M 29), cRB (p + 14) 4800 (M 30), cRI (p + 15) 24 (M 31), cRB (p + 16) 24576 (M 32), cRI (p + 17) 12 (M 33), cRI al AL (M 34), cRI (p + 19) 24576 (M 35), cRI (p + 20) 12 (M 36)] := hF.put 0 _ rfl rfl
      replace hf := hf.put (a := m) (c := .inr (11, RV p al (upd (upd (M 0) 26 0) 3 (allN nn)))) (show m ≤ m by omega)
      replace hn : (ax_put hp_1 m (.inr (11, RV p al (upd (upd (M 0) 26 0) 3 (allN nn))))).1 = h0.1 := hn
      replace hs : (ax_put hp_1 m (.inr (11, RV p al (upd (upd (M 0) 26 0) 3 (allN nn))))).2.1 = h0.2.1 := hs
      generalize ax_put hp_1 m (.inr (11, RV p al (upd (upd (M 0) 26 0) 3 (allN nn)))) = hp_2 at hF hf hn hs ⊢
      refine ar_aload_n 123 d_192_122 rfl rfl ?_
      refine ar_aload_n 124 d_192_123 rfl rfl ?_
      refine ar_getf 127 d_192_124 rfl (ci := 11) (k := 3) rfl (hF.at 0 rfl) (show _ = some (.int (allN nn)) from rfl) ?_
      refine ar_putf 130 (RV p al (upd (upd (upd (M 0) 26 0) 3 (allN nn)) 4 (allN nn))) d_192_127 rfl (ci := 11) (k := 4) rfl rfl (hF.at 0 rfl) (Nat.le_of_ble_eq_true rfl) rfl rfl rfl ?_
      replace hF : ax_hs (ax_put hp_2 m (.inr (11, RV p al (upd (upd (upd (M 0) 26 0) 3 (allN nn)) 4 (allN nn))))) [(m, .inr (11, RV p al (upd (upd (upd (M 0) 26 0) 3 (allN nn)) 4 (allN nn)))), cRB p 2048 (M 8), cRB (p + 1) 400 (M 10), cRI (p + 2) 2 (M 11), cRI (p + 3) 48 (M 12), cRZ (p + 4) 48 (M 13), cRB (p + 5) 9600 (M 14), cRI (p + 6) 48 (M 15), cRI (p + 7) 48 (M 16), cRI (p + 8) 48 (M 17), cRB (p + 9) 393216 (M 18), cRZ (p + 10) 912 (M 19), cRI (p + 11) 12 (M 27), cRI (p + 12) 12 (M 28), cRI (p + 13) 12 (M 29), cRB (p + 14) 4800 (M 30), cRI (p + 15) 24 (M 31), cRB (p + 16) 24576 (M 32), cRI (p + 17) 12 (M 33), cRI al AL (M 34), cRI (p + 19) 24576 (M 35), cRI (p + 20) 12 (M 36)] := hF.put 0 _ rfl rfl
      replace hf := hf.put (a := m) (c := .inr (11, RV p al (upd (upd (upd (M 0) 26 0) 3 (allN nn)) 4 (allN nn)))) (show m ≤ m by omega)
      replace hn : (ax_put hp_2 m (.inr (11, RV p al (upd (upd (upd (M 0) 26 0) 3 (allN nn)) 4 (allN nn))))).1 = h0.1 := hn
      replace hs : (ax_put hp_2 m (.inr (11, RV p al (upd (upd (upd (M 0) 26 0) 3 (allN nn)) 4 (allN nn))))).2.1 = h0.2.1 := hs
      generalize ax_put hp_2 m (.inr (11, RV p al (upd (upd (upd (M 0) 26 0) 3 (allN nn)) 4 (allN nn)))) = hp_3 at hF hf hn hs ⊢
      refine ar_aload_n 131 d_192_130 rfl rfl ?_
      refine ar_dup 132 d_192_131 rfl rfl ?_
      refine ar_getf 135 d_192_132 rfl (ci := 11) (k := 5) rfl (hF.at 0 rfl) (show _ = some (.int ((M 0) 5)) from rfl) ?_
      refine ar_iconst 136 (v := 1) d_192_135 rfl (by decide) ?_
      refine ar_iadd 137 d_192_136 rfl ?_
      refine ar_putf 140 (RV p al (upd (upd (upd (upd (M 0) 26 0) 3 (allN nn)) 4 (allN nn)) 5 (((M 0) 5) + 1))) d_192_137 rfl (ci := 11) (k := 5) rfl rfl (hF.at 0 rfl) (Nat.le_of_ble_eq_true rfl) rfl rfl rfl ?_
      replace hF : ax_hs (ax_put hp_3 m (.inr (11, RV p al (upd (upd (upd (upd (M 0) 26 0) 3 (allN nn)) 4 (allN nn)) 5 (((M 0) 5) + 1))))) [(m, .inr (11, RV p al (upd (upd (upd (upd (M 0) 26 0) 3 (allN nn)) 4 (allN nn)) 5 (((M 0) 5) + 1)))), cRB p 2048 (M 8), cRB (p + 1) 400 (M 10), cRI (p + 2) 2 (M 11), cRI (p + 3) 48 (M 12), cRZ (p + 4) 48 (M 13), cRB (p + 5) 9600 (M 14), cRI (p + 6) 48 (M 15), cRI (p + 7) 48 (M 16), cRI (p + 8) 48 (M 17), cRB (p + 9) 393216 (M 18), cRZ (p + 10) 912 (M 19), cRI (p + 11) 12 (M 27), cRI (p + 12) 12 (M 28), cRI (p + 13) 12 (M 29), cRB (p + 14) 4800 (M 30), cRI (p + 15) 24 (M 31), cRB (p + 16) 24576 (M 32), cRI (p + 17) 12 (M 33), cRI al AL (M 34), cRI (p + 19) 24576 (M 35), cRI (p + 20) 12 (M 36)] := hF.put 0 _ rfl rfl
      replace hf := hf.put (a := m) (c := .inr (11, RV p al (upd (upd (upd (upd (M 0) 26 0) 3 (allN nn)) 4 (allN nn)) 5 (((M 0) 5) + 1)))) (show m ≤ m by omega)
      replace hn : (ax_put hp_3 m (.inr (11, RV p al (upd (upd (upd (upd (M 0) 26 0) 3 (allN nn)) 4 (allN nn)) 5 (((M 0) 5) + 1))))).1 = h0.1 := hn
      replace hs : (ax_put hp_3 m (.inr (11, RV p al (upd (upd (upd (upd (M 0) 26 0) 3 (allN nn)) 4 (allN nn)) 5 (((M 0) 5) + 1))))).2.1 = h0.2.1 := hs
      generalize ax_put hp_3 m (.inr (11, RV p al (upd (upd (upd (upd (M 0) 26 0) 3 (allN nn)) 4 (allN nn)) 5 (((M 0) 5) + 1)))) = hp_4 at hF hf hn hs ⊢
      refine ar_aload_n 141 d_192_140 rfl rfl ?_
      refine ar_iconst 142 (v := 0) d_192_141 rfl (by decide) ?_
      refine ar_putf 145 (RV p al (upd (upd (upd (upd (upd (M 0) 26 0) 3 (allN nn)) 4 (allN nn)) 5 (((M 0) 5) + 1)) 6 0)) d_192_142 rfl (ci := 11) (k := 6) rfl rfl (hF.at 0 rfl) (Nat.le_of_ble_eq_true rfl) rfl rfl rfl ?_
      replace hF : ax_hs (ax_put hp_4 m (.inr (11, RV p al (upd (upd (upd (upd (upd (M 0) 26 0) 3 (allN nn)) 4 (allN nn)) 5 (((M 0) 5) + 1)) 6 0)))) [(m, .inr (11, RV p al (upd (upd (upd (upd (upd (M 0) 26 0) 3 (allN nn)) 4 (allN nn)) 5 (((M 0) 5) + 1)) 6 0))), cRB p 2048 (M 8), cRB (p + 1) 400 (M 10), cRI (p + 2) 2 (M 11), cRI (p + 3) 48 (M 12), cRZ (p + 4) 48 (M 13), cRB (p + 5) 9600 (M 14), cRI (p + 6) 48 (M 15), cRI (p + 7) 48 (M 16), cRI (p + 8) 48 (M 17), cRB (p + 9) 393216 (M 18), cRZ (p + 10) 912 (M 19), cRI (p + 11) 12 (M 27), cRI (p + 12) 12 (M 28), cRI (p + 13) 12 (M 29), cRB (p + 14) 4800 (M 30), cRI (p + 15) 24 (M 31), cRB (p + 16) 24576 (M 32), cRI (p + 17) 12 (M 33), cRI al AL (M 34), cRI (p + 19) 24576 (M 35), cRI (p + 20) 12 (M 36)] := hF.put 0 _ rfl rfl
      replace hf := hf.put (a := m) (c := .inr (11, RV p al (upd (upd (upd (upd (upd (M 0) 26 0) 3 (allN nn)) 4 (allN nn)) 5 (((M 0) 5) + 1)) 6 0))) (show m ≤ m by omega)
      replace hn : (ax_put hp_4 m (.inr (11, RV p al (upd (upd (upd (upd (upd (M 0) 26 0) 3 (allN nn)) 4 (allN nn)) 5 (((M 0) 5) + 1)) 6 0)))).1 = h0.1 := hn
      replace hs : (ax_put hp_4 m (.inr (11, RV p al (upd (upd (upd (upd (upd (M 0) 26 0) 3 (allN nn)) 4 (allN nn)) 5 (((M 0) 5) + 1)) 6 0)))).2.1 = h0.2.1 := hs
      generalize ax_put hp_4 m (.inr (11, RV p al (upd (upd (upd (upd (upd (M 0) 26 0) 3 (allN nn)) 4 (allN nn)) 5 (((M 0) 5) + 1)) 6 0))) = hp_5 at hF hf hn hs ⊢
      refine ar_aload_n 146 d_192_145 rfl rfl ?_
      refine ar_iconst 147 (v := 1) d_192_146 rfl (by decide) ?_
      refine ar_putf 150 (RV p al (upd (upd (upd (upd (upd (upd (M 0) 26 0) 3 (allN nn)) 4 (allN nn)) 5 (((M 0) 5) + 1)) 6 0) 7 1)) d_192_147 rfl (ci := 11) (k := 7) rfl rfl (hF.at 0 rfl) (Nat.le_of_ble_eq_true rfl) rfl rfl rfl ?_
      replace hF : ax_hs (ax_put hp_5 m (.inr (11, RV p al (upd (upd (upd (upd (upd (upd (M 0) 26 0) 3 (allN nn)) 4 (allN nn)) 5 (((M 0) 5) + 1)) 6 0) 7 1)))) [(m, .inr (11, RV p al (upd (upd (upd (upd (upd (upd (M 0) 26 0) 3 (allN nn)) 4 (allN nn)) 5 (((M 0) 5) + 1)) 6 0) 7 1))), cRB p 2048 (M 8), cRB (p + 1) 400 (M 10), cRI (p + 2) 2 (M 11), cRI (p + 3) 48 (M 12), cRZ (p + 4) 48 (M 13), cRB (p + 5) 9600 (M 14), cRI (p + 6) 48 (M 15), cRI (p + 7) 48 (M 16), cRI (p + 8) 48 (M 17), cRB (p + 9) 393216 (M 18), cRZ (p + 10) 912 (M 19), cRI (p + 11) 12 (M 27), cRI (p + 12) 12 (M 28), cRI (p + 13) 12 (M 29), cRB (p + 14) 4800 (M 30), cRI (p + 15) 24 (M 31), cRB (p + 16) 24576 (M 32), cRI (p + 17) 12 (M 33), cRI al AL (M 34), cRI (p + 19) 24576 (M 35), cRI (p + 20) 12 (M 36)] := hF.put 0 _ rfl rfl
      replace hf := hf.put (a := m) (c := .inr (11, RV p al (upd (upd (upd (upd (upd (upd (M 0) 26 0) 3 (allN nn)) 4 (allN nn)) 5 (((M 0) 5) + 1)) 6 0) 7 1))) (show m ≤ m by omega)
      replace hn : (ax_put hp_5 m (.inr (11, RV p al (upd (upd (upd (upd (upd (upd (M 0) 26 0) 3 (allN nn)) 4 (allN nn)) 5 (((M 0) 5) + 1)) 6 0) 7 1)))).1 = h0.1 := hn
      replace hs : (ax_put hp_5 m (.inr (11, RV p al (upd (upd (upd (upd (upd (upd (M 0) 26 0) 3 (allN nn)) 4 (allN nn)) 5 (((M 0) 5) + 1)) 6 0) 7 1)))).2.1 = h0.2.1 := hs
      generalize ax_put hp_5 m (.inr (11, RV p al (upd (upd (upd (upd (upd (upd (M 0) 26 0) 3 (allN nn)) 4 (allN nn)) 5 (((M 0) 5) + 1)) 6 0) 7 1))) = hp_6 at hF hf hn hs ⊢
      refine ar_aload_n 151 d_192_150 rfl rfl ?_
      refine ar_aload_n 152 d_192_151 rfl rfl ?_
      refine ar_getf 155 d_192_152 rfl (ci := 11) (k := 20) rfl (hF.at 0 rfl) (show _ = some (.int ((M 0) 20)) from rfl) ?_
      refine ar_putf 158 (RV p al (upd (upd (upd (upd (upd (upd (upd (M 0) 26 0) 3 (allN nn)) 4 (allN nn)) 5 (((M 0) 5) + 1)) 6 0) 7 1) 22 ((M 0) 20))) d_192_155 rfl (ci := 11) (k := 22) rfl rfl (hF.at 0 rfl) (Nat.le_of_ble_eq_true rfl) rfl rfl rfl ?_
      replace hF : ax_hs (ax_put hp_6 m (.inr (11, RV p al (upd (upd (upd (upd (upd (upd (upd (M 0) 26 0) 3 (allN nn)) 4 (allN nn)) 5 (((M 0) 5) + 1)) 6 0) 7 1) 22 ((M 0) 20))))) [(m, .inr (11, RV p al (upd (upd (upd (upd (upd (upd (upd (M 0) 26 0) 3 (allN nn)) 4 (allN nn)) 5 (((M 0) 5) + 1)) 6 0) 7 1) 22 ((M 0) 20)))), cRB p 2048 (M 8), cRB (p + 1) 400 (M 10), cRI (p + 2) 2 (M 11), cRI (p + 3) 48 (M 12), cRZ (p + 4) 48 (M 13), cRB (p + 5) 9600 (M 14), cRI (p + 6) 48 (M 15), cRI (p + 7) 48 (M 16), cRI (p + 8) 48 (M 17), cRB (p + 9) 393216 (M 18), cRZ (p + 10) 912 (M 19), cRI (p + 11) 12 (M 27), cRI (p + 12) 12 (M 28), cRI (p + 13) 12 (M 29), cRB (p + 14) 4800 (M 30), cRI (p + 15) 24 (M 31), cRB (p + 16) 24576 (M 32), cRI (p + 17) 12 (M 33), cRI al AL (M 34), cRI (p + 19) 24576 (M 35), cRI (p + 20) 12 (M 36)] := hF.put 0 _ rfl rfl
      replace hf := hf.put (a := m) (c := .inr (11, RV p al (upd (upd (upd (upd (upd (upd (upd (M 0) 26 0) 3 (allN nn)) 4 (allN nn)) 5 (((M 0) 5) + 1)) 6 0) 7 1) 22 ((M 0) 20)))) (show m ≤ m by omega)
      replace hn : (ax_put hp_6 m (.inr (11, RV p al (upd (upd (upd (upd (upd (upd (upd (M 0) 26 0) 3 (allN nn)) 4 (allN nn)) 5 (((M 0) 5) + 1)) 6 0) 7 1) 22 ((M 0) 20))))).1 = h0.1 := hn
      replace hs : (ax_put hp_6 m (.inr (11, RV p al (upd (upd (upd (upd (upd (upd (upd (M 0) 26 0) 3 (allN nn)) 4 (allN nn)) 5 (((M 0) 5) + 1)) 6 0) 7 1) 22 ((M 0) 20))))).2.1 = h0.2.1 := hs
      generalize ax_put hp_6 m (.inr (11, RV p al (upd (upd (upd (upd (upd (upd (upd (M 0) 26 0) 3 (allN nn)) 4 (allN nn)) 5 (((M 0) 5) + 1)) 6 0) 7 1) 22 ((M 0) 20)))) = hp_7 at hF hf hn hs ⊢
      refine ar_aload_n 159 d_192_158 rfl rfl ?_
      refine ar_aload_n 160 d_192_159 rfl rfl ?_
      refine ar_getf 163 d_192_160 rfl (ci := 11) (k := 21) rfl (hF.at 0 rfl) (show _ = some (.int ((M 0) 21)) from rfl) ?_
      refine ar_putf 166 (RV p al (upd (upd (upd (upd (upd (upd (upd (upd (M 0) 26 0) 3 (allN nn)) 4 (allN nn)) 5 (((M 0) 5) + 1)) 6 0) 7 1) 22 ((M 0) 20)) 23 ((M 0) 21))) d_192_163 rfl (ci := 11) (k := 23) rfl rfl (hF.at 0 rfl) (Nat.le_of_ble_eq_true rfl) rfl rfl rfl ?_
      replace hF : ax_hs (ax_put hp_7 m (.inr (11, RV p al (upd (upd (upd (upd (upd (upd (upd (upd (M 0) 26 0) 3 (allN nn)) 4 (allN nn)) 5 (((M 0) 5) + 1)) 6 0) 7 1) 22 ((M 0) 20)) 23 ((M 0) 21))))) [(m, .inr (11, RV p al (upd (upd (upd (upd (upd (upd (upd (upd (M 0) 26 0) 3 (allN nn)) 4 (allN nn)) 5 (((M 0) 5) + 1)) 6 0) 7 1) 22 ((M 0) 20)) 23 ((M 0) 21)))), cRB p 2048 (M 8), cRB (p + 1) 400 (M 10), cRI (p + 2) 2 (M 11), cRI (p + 3) 48 (M 12), cRZ (p + 4) 48 (M 13), cRB (p + 5) 9600 (M 14), cRI (p + 6) 48 (M 15), cRI (p + 7) 48 (M 16), cRI (p + 8) 48 (M 17), cRB (p + 9) 393216 (M 18), cRZ (p + 10) 912 (M 19), cRI (p + 11) 12 (M 27), cRI (p + 12) 12 (M 28), cRI (p + 13) 12 (M 29), cRB (p + 14) 4800 (M 30), cRI (p + 15) 24 (M 31), cRB (p + 16) 24576 (M 32), cRI (p + 17) 12 (M 33), cRI al AL (M 34), cRI (p + 19) 24576 (M 35), cRI (p + 20) 12 (M 36)] := hF.put 0 _ rfl rfl
      replace hf := hf.put (a := m) (c := .inr (11, RV p al (upd (upd (upd (upd (upd (upd (upd (upd (M 0) 26 0) 3 (allN nn)) 4 (allN nn)) 5 (((M 0) 5) + 1)) 6 0) 7 1) 22 ((M 0) 20)) 23 ((M 0) 21)))) (show m ≤ m by omega)
      replace hn : (ax_put hp_7 m (.inr (11, RV p al (upd (upd (upd (upd (upd (upd (upd (upd (M 0) 26 0) 3 (allN nn)) 4 (allN nn)) 5 (((M 0) 5) + 1)) 6 0) 7 1) 22 ((M 0) 20)) 23 ((M 0) 21))))).1 = h0.1 := hn
      replace hs : (ax_put hp_7 m (.inr (11, RV p al (upd (upd (upd (upd (upd (upd (upd (upd (M 0) 26 0) 3 (allN nn)) 4 (allN nn)) 5 (((M 0) 5) + 1)) 6 0) 7 1) 22 ((M 0) 20)) 23 ((M 0) 21))))).2.1 = h0.2.1 := hs
      generalize ax_put hp_7 m (.inr (11, RV p al (upd (upd (upd (upd (upd (upd (upd (upd (M 0) 26 0) 3 (allN nn)) 4 (allN nn)) 5 (((M 0) 5) + 1)) 6 0) 7 1) 22 ((M 0) 20)) 23 ((M 0) 21)))) = hp_8 at hF hf hn hs ⊢
      refine ar_aload_n 167 d_192_166 rfl rfl ?_
      refine ar_iconst 168 (v := 0) d_192_167 rfl (by decide) ?_
      refine ar_putf 171 (RV p al (upd (upd (upd (upd (upd (upd (upd (upd (upd (M 0) 26 0) 3 (allN nn)) 4 (allN nn)) 5 (((M 0) 5) + 1)) 6 0) 7 1) 22 ((M 0) 20)) 23 ((M 0) 21)) 24 0)) d_192_168 rfl (ci := 11) (k := 24) rfl rfl (hF.at 0 rfl) (Nat.le_of_ble_eq_true rfl) rfl rfl rfl ?_
      replace hF : ax_hs (ax_put hp_8 m (.inr (11, RV p al (upd (upd (upd (upd (upd (upd (upd (upd (upd (M 0) 26 0) 3 (allN nn)) 4 (allN nn)) 5 (((M 0) 5) + 1)) 6 0) 7 1) 22 ((M 0) 20)) 23 ((M 0) 21)) 24 0)))) [(m, .inr (11, RV p al (upd (upd (upd (upd (upd (upd (upd (upd (upd (M 0) 26 0) 3 (allN nn)) 4 (allN nn)) 5 (((M 0) 5) + 1)) 6 0) 7 1) 22 ((M 0) 20)) 23 ((M 0) 21)) 24 0))), cRB p 2048 (M 8), cRB (p + 1) 400 (M 10), cRI (p + 2) 2 (M 11), cRI (p + 3) 48 (M 12), cRZ (p + 4) 48 (M 13), cRB (p + 5) 9600 (M 14), cRI (p + 6) 48 (M 15), cRI (p + 7) 48 (M 16), cRI (p + 8) 48 (M 17), cRB (p + 9) 393216 (M 18), cRZ (p + 10) 912 (M 19), cRI (p + 11) 12 (M 27), cRI (p + 12) 12 (M 28), cRI (p + 13) 12 (M 29), cRB (p + 14) 4800 (M 30), cRI (p + 15) 24 (M 31), cRB (p + 16) 24576 (M 32), cRI (p + 17) 12 (M 33), cRI al AL (M 34), cRI (p + 19) 24576 (M 35), cRI (p + 20) 12 (M 36)] := hF.put 0 _ rfl rfl
      replace hf := hf.put (a := m) (c := .inr (11, RV p al (upd (upd (upd (upd (upd (upd (upd (upd (upd (M 0) 26 0) 3 (allN nn)) 4 (allN nn)) 5 (((M 0) 5) + 1)) 6 0) 7 1) 22 ((M 0) 20)) 23 ((M 0) 21)) 24 0))) (show m ≤ m by omega)
      replace hn : (ax_put hp_8 m (.inr (11, RV p al (upd (upd (upd (upd (upd (upd (upd (upd (upd (M 0) 26 0) 3 (allN nn)) 4 (allN nn)) 5 (((M 0) 5) + 1)) 6 0) 7 1) 22 ((M 0) 20)) 23 ((M 0) 21)) 24 0)))).1 = h0.1 := hn
      replace hs : (ax_put hp_8 m (.inr (11, RV p al (upd (upd (upd (upd (upd (upd (upd (upd (upd (M 0) 26 0) 3 (allN nn)) 4 (allN nn)) 5 (((M 0) 5) + 1)) 6 0) 7 1) 22 ((M 0) 20)) 23 ((M 0) 21)) 24 0)))).2.1 = h0.2.1 := hs
      generalize ax_put hp_8 m (.inr (11, RV p al (upd (upd (upd (upd (upd (upd (upd (upd (upd (M 0) 26 0) 3 (allN nn)) 4 (allN nn)) 5 (((M 0) 5) + 1)) 6 0) 7 1) 22 ((M 0) 20)) 23 ((M 0) 21)) 24 0))) = hp_9 at hF hf hn hs ⊢
      refine ar_iconst 172 (v := 0) d_192_171 rfl (by decide) ?_
      refine ar_istore_n 173 [(0, .ref m), (1, .int (nI wt)), (2, .int 0)] d_192_172 rfl (by decide) rfl ?_
      have hS1 : RS m p al AL h0 hp_9 (va_up M 0 (upd (upd (upd (upd (upd (upd (upd (upd (upd (M 0) 26 0) 3 (allN nn)) 4 (allN nn)) 5 (((M 0) 5) + 1)) 6 0) 7 1) 22 ((M 0) 20)) 23 ((M 0) 21)) 24 0)) := ⟨hF, hf, hn, hs, hp0⟩
      rw [eh] at hS1
      refine ax_A.post (rE_192X (M1 := M) (by omega) (by omega) hC0 hAo hAL hI.1 c 0 hp_9 (va_up M 0 (upd (upd (upd (upd (upd (upd (upd (upd (upd (M 0) 26 0) 3 (allN nn)) 4 (allN nn)) 5 (((M 0) 5) + 1)) 6 0) 7 1) 22 ((M 0) 20)) 23 ((M 0) 21)) 24 0)) (by omega) e20 (hR.st hS1) ⟨c, to, e20, e21, hI⟩ h36 ⟨fun k hk => (show _ = M0 0 k by rw [← i1 k (by omega)]; rcases hk with rfl | rfl | rfl | rfl | rfl <;> rfl), rfl, rfl, by rw [← i1 5 (by omega)]; rfl, rfl, rfl, rfl, i3, i4, i5, i6, i7, rfl, rfl⟩ ⟨fun k hk => va_up_n _ _ hk, rfl, rfl, rfl⟩) (fun r h' hq => ?_)
      obtain ⟨al', AL', M', q1, q2, q3, q4, q5, q6, q7, q8, q9⟩ := hq
      exact ⟨al', AL', M', q1, q2, q3, q4, q5, q6, q7, q8, M, c, hJ0, by rw [q9.2.1]; exact e20, hI.1, q9⟩
    | succ k ih =>
      intro w al AL h M hi hC hAo hAL hR hFL h36 hIL hJ0
      have hC0 := hC
      obtain ⟨hmp, hal, hm0⟩ := hC
      have hwc : w < wt := by omega
      have hA5 : AL ≤ 512 ∧ 64 ≤ AL := by
        unfold AOK at hAo
        omega
      have hS := hR.rs
      obtain ⟨h0, eh⟩ : ∃ h0 : ax_H, h0 = h := ⟨h, rfl⟩
      rw [show RS m p al AL h h M = RS m p al AL h0 h M by rw [eh]] at hS
      have hSk := hS
      obtain ⟨hF, hf, hn, hs, hp0⟩ := hS
      replace hF : ax_hs h [cRo m p al M, cRB p 2048 (M 8), cRB (p + 1) 400 (M 10), cRI (p + 2) 2 (M 11), cRI (p + 3) 48 (M 12), cRZ (p + 4) 48 (M 13), cRB (p + 5) 9600 (M 14), cRI (p + 6) 48 (M 15), cRI (p + 7) 48 (M 16), cRI (p + 8) 48 (M 17), cRB (p + 9) 393216 (M 18), cRZ (p + 10) 912 (M 19), cRI (p + 11) 12 (M 27), cRI (p + 12) 12 (M 28), cRI (p + 13) 12 (M 29), cRB (p + 14) 4800 (M 30), cRI (p + 15) 24 (M 31), cRB (p + 16) 24576 (M 32), cRI (p + 17) 12 (M 33), cRI al AL (M 34), cRI (p + 19) 24576 (M 35), cRI (p + 20) 12 (M 36)] := hF
      refine ar_iload_n 23 d_192_22 rfl rfl ?_
      refine ar_iload_n 24 d_192_23 rfl rfl ?_
      refine ar_icmp_ge 105 27 d_192_24 (by decide) rfl (fun c => absurd c (nI_ge hwc (by omega))) (fun _ => ?_)
      refine ar_aload_n 28 d_192_27 rfl rfl ?_
      refine ar_getf 31 d_192_28 rfl (ci := 11) (k := 37) rfl (hF.at 0 rfl) (show _ = some (.int ((M 0) 37)) from rfl) ?_
      refine ar_top (x' := nI tf) (hIL.2.2.1) ?_
      refine ar_iload_n 32 d_192_31 rfl rfl ?_
      refine ar_iadd 33 d_192_32 rfl ?_
      refine ar_top (x' := nI (tf + w)) (nI_add _ _) ?_
      refine ar_istore_n 34 [(0, .ref m), (1, .int (nI wt)), (2, .int (nI w)), (3, .int (nI (tf + w)))] d_192_33 rfl (by decide) rfl ?_
      refine ar_iload_n 35 d_192_34 rfl rfl ?_
      refine ar_aload_n 36 d_192_35 rfl rfl ?_
      refine ar_getf 39 d_192_36 rfl (ci := 11) (k := 34) rfl (hF.at 0 rfl) (show _ = some (.ref al) from rfl) ?_
      refine ar_alen 40 d_192_39 rfl (hF.at 19 rfl) (by decide) ?_
      refine ar_top (x' := nI AL) (rfl) ?_
      refine ar_icmp_lt 87 43 d_192_40 (by decide) rfl (fun c1 => ?_) (fun c1 => ?_)
      · exact rB_192X (wt := wt) (J := J) hJ hwc hJ0 hfr hlo hC0 hSk (by omega) (by omega) ((nI_ltI (by omega) (by omega)).mp c1) hA5.1 hFL (hIL.2.2.2.2.2.2.2 w hwc) h36 (fun h' M' hS' hFL' h36' hK hJ1 => ih (w + 1) al AL h' M' (by omega) hC0 hAo (by have := (nI_ltI (show tf + w < 2 ^ 31 by omega) (show AL < 2 ^ 31 by omega)).mp c1; omega) (hR.st (by rw [← eh]; exact hS')) hFL' h36' (hIL.ks hK) hJ1)
      · have hAe : tf + w = AL := by
          have h1 : ¬ tf + w < AL := fun z => c1 (nI_lt z (by omega))
          omega
        have hA2 : AL ≤ 256 := by
          unfold AOK at hAo
          omega
        refine ar_iconst 44 (v := 2) d_192_43 rfl (by decide) ?_
        refine ar_aload_n 45 d_192_44 rfl rfl ?_
        refine ar_getf 48 d_192_45 rfl (ci := 11) (k := 34) rfl (hF.at 0 rfl) (show _ = some (.ref al) from rfl) ?_
        refine ar_alen 49 d_192_48 rfl (hF.at 19 rfl) (by decide) ?_
        refine ar_top (x' := nI AL) (rfl) ?_
        refine ar_imul 50 d_192_49 rfl ?_
        refine ar_top (x' := nI (2 * AL)) (pk_mul 2 AL) ?_
        obtain ⟨a2, ea⟩ : ∃ a2 : Nat, h.1 = a2 := ⟨_, rfl⟩
        have ha2 : m ≤ a2 := by
          have := (ax_g_lt (hF.at 0 rfl)).2
          omega
        refine ar_newi 52 d_192_50 rfl (nI_pos (by omega)) (N := 2 * AL) (nI_clamp (by omega)) (by omega) ?_
        rw [ea]
        replace hF : ax_hs (ax_push h (2 * AL) (.inl (0, 2 * AL, .inl (fun _ => 0)))) [cRo m p al M, cRB p 2048 (M 8), cRB (p + 1) 400 (M 10), cRI (p + 2) 2 (M 11), cRI (p + 3) 48 (M 12), cRZ (p + 4) 48 (M 13), cRB (p + 5) 9600 (M 14), cRI (p + 6) 48 (M 15), cRI (p + 7) 48 (M 16), cRI (p + 8) 48 (M 17), cRB (p + 9) 393216 (M 18), cRZ (p + 10) 912 (M 19), cRI (p + 11) 12 (M 27), cRI (p + 12) 12 (M 28), cRI (p + 13) 12 (M 29), cRB (p + 14) 4800 (M 30), cRI (p + 15) 24 (M 31), cRB (p + 16) 24576 (M 32), cRI (p + 17) 12 (M 33), cRI al AL (M 34), cRI (p + 19) 24576 (M 35), cRI (p + 20) 12 (M 36), (a2, .inl (0, 2 * AL, .inl (fun _ => 0)))] := hF.push (by omega) (2 * AL) _ (by rw [ea]; rfl)
        have hfB : ax_fr (fun x => m ≤ x) hB (ax_push h (2 * AL) (.inl (0, 2 * AL, .inl (fun _ => 0)))) := hR.2.1.push
        have hq1 : (ax_push h (2 * AL) (.inl (0, 2 * AL, .inl (fun _ => 0)))).1 = h.1 + 1 := rfl
        have hq2 : (ax_push h (2 * AL) (.inl (0, 2 * AL, .inl (fun _ => 0)))).2.1 = h.2.1 + 2 * AL := rfl
        generalize ax_push h (2 * AL) (.inl (0, 2 * AL, .inl (fun _ => 0))) = hC1 at hF hfB hq1 hq2 ⊢
        refine ar_astore 54 [(0, .ref m), (1, .int (nI wt)), (2, .int (nI w)), (3, .int (nI (tf + w))), (4, .ref a2)] d_192_52 rfl (by decide) rfl ?_
        refine ar_iconst 55 (v := 0) d_192_54 rfl (by decide) ?_
        refine ar_istore 57 [(0, .ref m), (1, .int (nI wt)), (2, .int (nI w)), (3, .int (nI (tf + w))), (4, .ref a2), (5, .int 0)] d_192_55 rfl (by decide) rfl ?_
        refine rC_192 (h0 := hC1) (M := M) hC0 ha2 hAe hA5.1 (fun h2 gF gf gn gs => ?_) AL 0 hC1 (by omega) (by rw [rgF_0]; exact hF) ax_fr.rf rfl rfl
        clear hF hf hn hs hp0
        have hF := gF
        refine ar_aload_n 82 d_192_81 rfl rfl ?_
        refine ar_aload 84 d_192_82 rfl rfl ?_
        refine ar_putf 87 (RV p a2 (M 0)) d_192_84 rfl (ci := 11) (k := 34) rfl rfl (hF.at 0 rfl) (Nat.le_of_ble_eq_true rfl) rfl rfl rfl ?_
        replace hF : ax_hs (ax_put h2 m (.inr (11, RV p a2 (M 0)))) ((m, .inr (11, RV p a2 (M 0))) :: [cRB p 2048 (M 8), cRB (p + 1) 400 (M 10), cRI (p + 2) 2 (M 11), cRI (p + 3) 48 (M 12), cRZ (p + 4) 48 (M 13), cRB (p + 5) 9600 (M 14), cRI (p + 6) 48 (M 15), cRI (p + 7) 48 (M 16), cRI (p + 8) 48 (M 17), cRB (p + 9) 393216 (M 18), cRZ (p + 10) 912 (M 19), cRI (p + 11) 12 (M 27), cRI (p + 12) 12 (M 28), cRI (p + 13) 12 (M 29), cRB (p + 14) 4800 (M 30), cRI (p + 15) 24 (M 31), cRB (p + 16) 24576 (M 32), cRI (p + 17) 12 (M 33), cRI al AL (M 34), cRI (p + 19) 24576 (M 35), cRI (p + 20) 12 (M 36), (a2, .inl (0, 2 * AL, .inl (rgF (M 34) 0 AL (fun _ => 0))))]) := hF.put 0 _ rfl rfl
        have hf2 : ax_fr (fun x => m ≤ x) hB (ax_put h2 m (.inr (11, RV p a2 (M 0)))) := (hfB.tr gf).put (a := m) (Nat.le_refl _)
        have hn2 : (ax_put h2 m (.inr (11, RV p a2 (M 0)))).1 = h.1 + 1 := by show h2.1 = _; omega
        have hs2 : (ax_put h2 m (.inr (11, RV p a2 (M 0)))).2.1 = h.2.1 + 2 * AL := by show h2.2.1 = _; omega
        generalize ax_put h2 m (.inr (11, RV p a2 (M 0))) = h3 at hF hf2 hn2 hs2 ⊢
        have hR3 : RT m p a2 (2 * AL) A0 hB h3 (va_up M 34 (rgF (M 34) 0 AL (fun _ => 0))) := by
          obtain ⟨r1, r2, r3, r4, r5⟩ := hR
          exact ⟨hF.sub (F' := RW m p a2 (2 * AL) (va_up M 34 (rgF (M 34) 0 AL (fun _ => 0)))) [0, 1, 2, 3, 4, 5, 6, 7, 8, 9, 10, 11, 12, 13, 14, 15, 16, 17, 18, 22, 20, 21] rfl rfl, hf2, by omega, by omega, r5⟩
        have hAo2 : AOK (2 * AL) := by
          unfold AOK at hAo ⊢
          omega
        have hC2 : RC m p a2 := ⟨hmp, ha2, hm0⟩
        have hIL2 : IL nn wt tf M0 (va_up M 34 (rgF (M 34) 0 AL (fun _ => 0))) := hIL
        refine ar_wk [0, 1, 2, 3] rfl (by simp) ?_
        exact rB_192X (wt := wt) (J := J) hJ hwc (hJ.2 w M _ hJ0 (fun o ho => if_pos ⟨by omega, by omega⟩)) hfr hlo hC2 hR3.rs (by omega) (by omega) (by omega) (by omega) hFL (hIL2.2.2.2.2.2.2.2 w hwc) h36 (fun h' M' hS' hFL' h36' hK hJ1 => ih (w + 1) a2 (2 * AL) h' M' (by omega) hC2 hAo2 (by omega) (hR3.st hS') hFL' h36' (hIL2.ks hK) hJ1)
set_option maxRecDepth 100000 in
theorem r_192X {L : Nat} {xs : Nat → Int32} {fr lo : Nat} {m p al AL : Nat} {h0 h : ax_H} {M : Nat → Nat → Int32}  (hfr : 6 ≤ fr) (hlo : 210 ≤ lo) (hC : RC m p al) (hS : RS m p al AL h0 h M) {nn op wt : Nat} (e0 : M 0 0 = nI nn) (e25 : M 0 25 = nI op) (e26 : M 0 26 = nI wt) (hwo : wt ≤ op) (hop : op ≤ 512) (hwt : wt ≤ 12) (hAL : op ≤ AL + wt) (hAo : AOK AL) (hFL : FLM M) (h36 : ∀ x, x < 12 → inR 2049 (M 36 x)) (hO : ∀ w, w < wt → OPI w M) {J : Nat → (Nat → Nat → Int32) → Prop} (hJ : JH wt (op - wt) J) (hJ0 : J 0 (va_up M 0 (upd (upd (M 0) 37 (nI (op - wt))) 38 (nI wt)))) : ax_M L xs 192 fr lo [.ref m] h (fun r h' => ∃ (al' AL' : Nat) (M' : Nat → Nat → Int32), r = some (.int (nI wt)) ∧ RC m p al' ∧ RT m p al' AL' AL h0 h' M' ∧ AOK AL' ∧ op - wt + wt ≤ AL' ∧ FLM M' ∧ (∀ x, x < 12 → inR 2049 (M' 36 x)) ∧ SMr nn wt (op - wt) M M' ∧ ∃ (M1 : Nat → Nat → Int32) (c : Nat), J wt M1 ∧ M' 0 20 = nI c ∧ c ≤ 48 ∧ SMx c M1 M') := by
  have hC0 := hC
  show ax_A (ax_step L xs) ((192, 0, fr, lo), [(0, .ref m)], [], h) _
  obtain ⟨hmp, hal, hm0⟩ := hC
  obtain ⟨hF, hf, hn, hs, hp0⟩ := hS
  replace hF : ax_hs h [cRo m p al M, cRB p 2048 (M 8), cRB (p + 1) 400 (M 10), cRI (p + 2) 2 (M 11), cRI (p + 3) 48 (M 12), cRZ (p + 4) 48 (M 13), cRB (p + 5) 9600 (M 14), cRI (p + 6) 48 (M 15), cRI (p + 7) 48 (M 16), cRI (p + 8) 48 (M 17), cRB (p + 9) 393216 (M 18), cRZ (p + 10) 912 (M 19), cRI (p + 11) 12 (M 27), cRI (p + 12) 12 (M 28), cRI (p + 13) 12 (M 29), cRB (p + 14) 4800 (M 30), cRI (p + 15) 24 (M 31), cRB (p + 16) 24576 (M 32), cRI (p + 17) 12 (M 33), cRI al AL (M 34), cRI (p + 19) 24576 (M 35), cRI (p + 20) 12 (M 36)] := hF
  refine ar_aload_n 1 d_192_0 rfl rfl ?_
  refine ar_getf 4 d_192_1 rfl (ci := 11) (k := 26) rfl (hF.at 0 rfl) (show _ = some (.int ((M 0) 26)) from rfl) ?_
  refine ar_top (x' := nI wt) (e26) ?_
  refine ar_istore_n 5 [(0, .ref m), (1, .int (nI wt))] d_192_4 rfl (by decide) rfl ?_
  refine ar_aload_n 6 d_192_5 rfl rfl ?_
  refine ar_aload_n 7 d_192_6 rfl rfl ?_
  refine ar_getf 10 d_192_7 rfl (ci := 11) (k := 25) rfl (hF.at 0 rfl) (show _ = some (.int ((M 0) 25)) from rfl) ?_
  refine ar_top (x' := nI op) (e25) ?_
  refine ar_iload_n 11 d_192_10 rfl rfl ?_
  refine ar_isub 12 d_192_11 rfl ?_
  refine ar_top (x' := nI (op - wt)) (nI_sub hwo) ?_
  refine ar_putf 15 (RV p al (upd (M 0) 37 (nI (op - wt)))) d_192_12 rfl (ci := 11) (k := 37) rfl rfl (hF.at 0 rfl) (Nat.le_of_ble_eq_true rfl) rfl rfl rfl ?_
  replace hF : ax_hs (ax_put h m (.inr (11, RV p al (upd (M 0) 37 (nI (op - wt)))))) [(m, .inr (11, RV p al (upd (M 0) 37 (nI (op - wt))))), cRB p 2048 (M 8), cRB (p + 1) 400 (M 10), cRI (p + 2) 2 (M 11), cRI (p + 3) 48 (M 12), cRZ (p + 4) 48 (M 13), cRB (p + 5) 9600 (M 14), cRI (p + 6) 48 (M 15), cRI (p + 7) 48 (M 16), cRI (p + 8) 48 (M 17), cRB (p + 9) 393216 (M 18), cRZ (p + 10) 912 (M 19), cRI (p + 11) 12 (M 27), cRI (p + 12) 12 (M 28), cRI (p + 13) 12 (M 29), cRB (p + 14) 4800 (M 30), cRI (p + 15) 24 (M 31), cRB (p + 16) 24576 (M 32), cRI (p + 17) 12 (M 33), cRI al AL (M 34), cRI (p + 19) 24576 (M 35), cRI (p + 20) 12 (M 36)] := hF.put 0 _ rfl rfl
  replace hf := hf.put (a := m) (c := .inr (11, RV p al (upd (M 0) 37 (nI (op - wt))))) (show m ≤ m by omega)
  replace hn : (ax_put h m (.inr (11, RV p al (upd (M 0) 37 (nI (op - wt)))))).1 = h0.1 := hn
  replace hs : (ax_put h m (.inr (11, RV p al (upd (M 0) 37 (nI (op - wt)))))).2.1 = h0.2.1 := hs
  generalize ax_put h m (.inr (11, RV p al (upd (M 0) 37 (nI (op - wt))))) = hp_1 at hF hf hn hs ⊢
  refine ar_aload_n 16 d_192_15 rfl rfl ?_
  refine ar_iload_n 17 d_192_16 rfl rfl ?_
  refine ar_putf 20 (RV p al (upd (upd (M 0) 37 (nI (op - wt))) 38 (nI wt))) d_192_17 rfl (ci := 11) (k := 38) rfl rfl (hF.at 0 rfl) (Nat.le_of_ble_eq_true rfl) rfl rfl rfl ?_
  replace hF : ax_hs (ax_put hp_1 m (.inr (11, RV p al (upd (upd (M 0) 37 (nI (op - wt))) 38 (nI wt))))) [(m, .inr (11, RV p al (upd (upd (M 0) 37 (nI (op - wt))) 38 (nI wt)))), cRB p 2048 (M 8), cRB (p + 1) 400 (M 10), cRI (p + 2) 2 (M 11), cRI (p + 3) 48 (M 12), cRZ (p + 4) 48 (M 13), cRB (p + 5) 9600 (M 14), cRI (p + 6) 48 (M 15), cRI (p + 7) 48 (M 16), cRI (p + 8) 48 (M 17), cRB (p + 9) 393216 (M 18), cRZ (p + 10) 912 (M 19), cRI (p + 11) 12 (M 27), cRI (p + 12) 12 (M 28), cRI (p + 13) 12 (M 29), cRB (p + 14) 4800 (M 30), cRI (p + 15) 24 (M 31), cRB (p + 16) 24576 (M 32), cRI (p + 17) 12 (M 33), cRI al AL (M 34), cRI (p + 19) 24576 (M 35), cRI (p + 20) 12 (M 36)] := hF.put 0 _ rfl rfl
  replace hf := hf.put (a := m) (c := .inr (11, RV p al (upd (upd (M 0) 37 (nI (op - wt))) 38 (nI wt)))) (show m ≤ m by omega)
  replace hn : (ax_put hp_1 m (.inr (11, RV p al (upd (upd (M 0) 37 (nI (op - wt))) 38 (nI wt))))).1 = h0.1 := hn
  replace hs : (ax_put hp_1 m (.inr (11, RV p al (upd (upd (M 0) 37 (nI (op - wt))) 38 (nI wt))))).2.1 = h0.2.1 := hs
  generalize ax_put hp_1 m (.inr (11, RV p al (upd (upd (M 0) 37 (nI (op - wt))) 38 (nI wt)))) = hp_2 at hF hf hn hs ⊢
  refine ar_iconst 21 (v := 0) d_192_20 rfl (by decide) ?_
  refine ar_istore_n 22 [(0, .ref m), (1, .int (nI wt)), (2, .int 0)] d_192_21 rfl (by decide) rfl ?_
  have hS1 : RS m p al AL h0 hp_2 (va_up M 0 (upd (upd (M 0) 37 (nI (op - wt))) 38 (nI wt))) := ⟨hF, hf, hn, hs, hp0⟩
  refine rW_192X (J := J) hJ (nn := nn) (M0 := M) (A0 := AL) hfr hlo hwt (by omega) wt 0 al AL hp_2 _ (by omega) hC0 hAo (by omega) ⟨hS1.1, hS1.2.1, by have := hS1.2.2.1; omega, by have := hS1.2.2.2.1; omega, hS1.2.2.2.2⟩ hFL h36 ⟨fun k hk => (by rcases hk with rfl | rfl | rfl | rfl | rfl | rfl <;> rfl), e0, rfl, rfl, rfl, rfl, rfl, hO⟩ hJ0

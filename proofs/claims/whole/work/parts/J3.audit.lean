/-! audit, exactly, where all is CALM -/
def atS (E : Nat → Nat → Int32) (D : Nat → Nat → Nat → Int32) (j s : Nat) : Int32 := fndI (E 63) (E 64) (D j 2 (s * 128 + 1))
/-- nothing is wrong -/
def AUD (nn gg : Nat) (C : Int32) (f : Nat → Int32) (E : Nat → Nat → Int32) (D : Nat → Nat → Nat → Int32) : Prop :=
  (∀ j s, j < nn → s < 280 → whB (D j 2) s → ∃ a : Nat, a < 961 ∧ atS E D j s = nI a ∧ bt (mof2 C (mof f C (E 4 14) nn (grp (E 59) gg a * nn) 0 0)) j = true) ∧
  (∀ j s j' s', j < nn → s < 280 → j' < nn → s' < 280 → whB (D j 2) s → whB (D j' 2) s' → atS E D j s = atS E D j' s' → (∀ w, 1 ≤ w → w < 127 → D j 2 (s * 128 + w) = D j' 2 (s' * 128 + w)) ∧ (j = j' → s = s')) ∧
  (∀ a, a < 961 → ¬ E 64 a < 0 → ∀ h : Int32, (∀ m, m < 32 → (bt h m = true ↔ ∃ s, s < 280 ∧ m < nn ∧ whB (D m 2) s ∧ atS E D m s = nI a)) → C - bcI h = 0)
def HIv (nn : Nat) (E : Nat → Nat → Int32) (D : Nat → Nat → Nat → Int32) (j i : Nat) (sf hv : Nat → Int32) : Prop := ∀ a, a < 961 → (∀ m, m < 32 → (bt (hv a) m = true ↔ ∃ s, s < 280 ∧ m < nn ∧ (m < j ∨ (m = j ∧ s < i)) ∧ whB (D m 2) s ∧ atS E D m s = nI a)) ∧ (¬ hv a = 0 → ∃ m s, m < nn ∧ s < 280 ∧ sf a = nI (m * 280 + s) ∧ whB (D m 2) s ∧ atS E D m s = nI a)
theorem HIv.skip {nn : Nat} {E : Nat → Nat → Int32} {D : Nat → Nat → Nat → Int32} {j i : Nat} {sf hv : Nat → Int32} (h : HIv nn E D j i sf hv) (hw : ¬ whB (D j 2) i) : HIv nn E D j (i + 1) sf hv := fun a ha => by
  obtain ⟨h1, h2⟩ := h a ha
  refine ⟨fun m hm => ?_, h2⟩
  rw [h1 m hm]
  refine ⟨fun ⟨s, s1, s2, s3, s4⟩ => ⟨s, s1, s2, by omega, s4⟩, fun ⟨s, s1, s2, s3, s4, s5⟩ => ⟨s, s1, s2, ?_, s4, s5⟩⟩
  by_cases e : m = j ∧ s = i
  · rw [e.1, e.2] at s4; exact absurd s4 hw
  · omega
theorem HIv.next {nn : Nat} {E : Nat → Nat → Int32} {D : Nat → Nat → Nat → Int32} {j : Nat} {sf hv : Nat → Int32} (h : HIv nn E D j 280 sf hv) : HIv nn E D (j + 1) 0 sf hv := fun a ha => by
  obtain ⟨h1, h2⟩ := h a ha
  refine ⟨fun m hm => ?_, h2⟩
  rw [h1 m hm]
  exact ⟨fun ⟨s, s1, s2, s3, s4⟩ => ⟨s, s1, s2, by omega, s4⟩, fun ⟨s, s1, s2, s3, s4⟩ => ⟨s, s1, s2, by omega, s4⟩⟩
theorem HIv.put {nn : Nat} {E : Nat → Nat → Int32} {D : Nat → Nat → Nat → Int32} {j i a : Nat} {sf hv sf' : Nat → Int32} (hj : j < nn) (hnn : nn ≤ 6) (hi : i < 280) (ha : a < 961) (h : HIv nn E D j i sf hv) (hw : whB (D j 2) i) (ea : atS E D j i = nI a) (hsf : (¬ hv a = 0 ∧ sf' = sf) ∨ (hv a = 0 ∧ sf' = upd sf a (nI (j * 280 + i)))) : HIv nn E D j (i + 1) sf' (upd hv a ((hv a) ||| (1 <<< ((nI j) &&& 31)))) := fun b hb => by
  obtain ⟨h1, h2⟩ := h b hb
  by_cases e : b = a
  · subst e
    refine ⟨fun m hm => ?_, fun _ => ?_⟩
    · rw [pk_us, bt_set _ (by omega) hm, Bool.or_eq_true, h1 m hm, decide_eq_true_eq]
      refine ⟨fun z => ?_, fun ⟨s, s1, s2, s3, s4, s5⟩ => ?_⟩
      · rcases z with ⟨s, s1, s2, s3, s4⟩ | z
        · exact ⟨s, s1, s2, by omega, s4⟩
        · rw [z]; exact ⟨i, hi, hj, Or.inr ⟨rfl, by omega⟩, hw, ea⟩
      · by_cases z : m = j
        · exact Or.inr z
        · exact Or.inl ⟨s, s1, s2, by omega, s4, s5⟩
    · rcases hsf with ⟨z, e2⟩ | ⟨_, e2⟩
      · rw [e2]; exact h2 z
      · rw [e2, pk_us]; exact ⟨j, i, hj, hi, rfl, hw, ea⟩
  · refine ⟨fun m hm => ?_, fun z => ?_⟩
    · rw [pk_un e, h1 m hm]
      refine ⟨fun ⟨s, s1, s2, s3, s4⟩ => ⟨s, s1, s2, by omega, s4⟩, fun ⟨s, s1, s2, s3, s4, s5⟩ => ⟨s, s1, s2, ?_, s4, s5⟩⟩
      by_cases e2 : m = j ∧ s = i
      · rw [e2.1, e2.2, ea] at s5
        exact absurd (nI_inj (by omega) (by omega) s5) (fun q => e q.symm)
      · omega
    · rw [pk_un e] at z
      rcases hsf with ⟨_, e2⟩ | ⟨_, e2⟩
      · rw [e2]; exact h2 z
      · rw [e2, pk_un e]; exact h2 z
set_option maxRecDepth 100000 in
theorem gx_171X {L : Nat} {xs : Nat → Int32} {fr lo : Nat} {s0 n nn gg : Nat} {C : Int32} {f : Nat → Int32} {q : Nat} {u b : Nat → Int32} {hb h : ax_H} {Z : ZT} {D : Nat → Nat → Nat → Int32} {K A : Nat → Int64} {E : Nat → Nat → Int32} {TK : Int64} {Q : Nat → Mg} {ms : List Mg}  (hfr : 0 ≤ fr) (hlo : 0 ≤ lo) (hC : CG s0 n nn gg f) (hG0 : GN Z n nn gg C f hb D K A) (hS : AS s0 n nn gg C f q u b hb h E TK Q ms) {a pl : Nat} (ha : a < 961) (hpl : pl < nn * 280) (hsI : seenI nn E) (hsame : ¬ E 65 a = 0 → ∀ p, p < nn * 280 → E 1 a = nI p → ∀ w, 1 ≤ w → w < 127 → D (p / 280) 2 (p % 280 * 128 + w) = D (pl / 280) 2 (pl % 280 * 128 + w)) : ax_M L xs 171 fr lo [.ref s0, .int (nI a), .int (nI pl)] h (fun r h' => ∃ (y : Int32) (sf hv : Nat → Int32), r = some (.int y) ∧ AS s0 n nn gg C f q u b hb h' (va_up (va_up E 1 sf) 65 hv) TK Q ms ∧ seenI nn (va_up (va_up E 1 sf) 65 hv) ∧ y = 1 ∧ hv = upd (E 65) a ((E 65 a) ||| (1 <<< ((nI (pl / 280)) &&& 31))) ∧ ((¬ E 65 a = 0 ∧ sf = E 1) ∨ (E 65 a = 0 ∧ sf = upd (E 1) a (nI pl)))) := by
  have hC0 := hC
  show ax_A (ax_step L xs) ((171, 0, fr, lo), [(0, .ref s0), (1, .int (nI a)), (2, .int (nI pl))], [], h) _
  obtain ⟨hs0, hsn, hnn3, hnn, hgg1, hgg, hRg⟩ := hC
  obtain ⟨hF, hA, hN, hf, hn, hs, hp0⟩ := hS
  replace hF : ax_hs h [cSt s0 n E, cRk n nn gg C, cOr n nn gg f, cAs n E, cEr n 5 512 E, cEr n 6 100 E, cEr n 7 2 E, cAk n, cEr n 9 512 E, cNa n nn, cEr n 0 48 E, cEr n 1 961 E, cTs n gg E TK, cEr n 59 48 E, cEr n 60 48 E, cEr n 61 48 E, cEr n 62 2400 E, cEr n 63 512 E, cEr n 64 961 E, cEr n 65 961 E] := hF
  refine ar_aload_n 1 d_171_0 rfl rfl ?_
  refine ar_getf 4 d_171_1 rfl (ci := 0) (k := 4) rfl (hF.at 0 rfl) rfl ?_
  refine ar_getf 7 d_171_4 rfl (ci := 6) (k := 7) rfl (hF.at 12 rfl) rfl ?_
  refine ar_iload_n 8 d_171_7 rfl rfl ?_
  refine ar_iald 9 d_171_8 rfl (hF.at 19 rfl) (vin (by omega) (by omega)) ?_
  refine ar_top (x' := E 65 a) (by rw [nI_clamp (show a < 2 ^ 31 by omega)]) ?_
  refine ar_if_ne 19 12 d_171_9 (by decide) rfl (fun c1 => ?_) (fun c1 => ?_)
  · obtain ⟨p, hp0_, ep⟩ := hsI a ha c1
    refine ar_aload_n 20 d_171_19 rfl rfl ?_
    refine ar_getf 23 d_171_20 rfl (ci := 0) (k := 4) rfl (hF.at 0 rfl) rfl ?_
    refine ar_getf 26 d_171_23 rfl (ci := 6) (k := 7) rfl (hF.at 12 rfl) rfl ?_
    refine ar_iload_n 27 d_171_26 rfl rfl ?_
    refine ar_dup2 28 d_171_27 rfl rfl rfl ?_
    refine ar_iald 29 d_171_28 rfl (hF.at 19 rfl) (vin (by omega) (by omega)) ?_
    refine ar_top (x' := E 65 a) (by rw [nI_clamp (show a < 2 ^ 31 by omega)]) ?_
    refine ar_iconst 30 (v := 1) d_171_29 rfl (by decide) ?_
    refine ar_iload_n 31 d_171_30 rfl rfl ?_
    refine ar_sipush 34 (v := 280) d_171_31 rfl (by decide) ?_
    refine ar_idiv 35 d_171_34 rfl (by decide) ?_
    refine ar_top (x' := nI (pl / 280)) (pk_div (d := 280) (by omega) (by omega) (by omega)) ?_
    refine ar_ishl 36 d_171_35 rfl ?_
    refine ar_ior 37 d_171_36 rfl ?_
    refine ar_iast 38 d_171_37 rfl (hF.at 19 rfl) (vin (by omega) (by omega)) ?_
    replace hF : ax_hs (ax_put h (n + 327) (.inl (0, 961, .inl (upd (E 65) (nI a).toNatClampNeg ((E 65 a) ||| (1 <<< ((nI (pl / 280)) &&& 31))))))) [cSt s0 n E, cRk n nn gg C, cOr n nn gg f, cAs n E, cEr n 5 512 E, cEr n 6 100 E, cEr n 7 2 E, cAk n, cEr n 9 512 E, cNa n nn, cEr n 0 48 E, cEr n 1 961 E, cTs n gg E TK, cEr n 59 48 E, cEr n 60 48 E, cEr n 61 48 E, cEr n 62 2400 E, cEr n 63 512 E, cEr n 64 961 E, (n + 327, .inl (0, 961, .inl (upd (E 65) (nI a).toNatClampNeg ((E 65 a) ||| (1 <<< ((nI (pl / 280)) &&& 31))))))] := hF.put 19 _ rfl rfl
    replace hf := hf.put (a := n + 327) (c := .inl (0, 961, .inl (upd (E 65) (nI a).toNatClampNeg ((E 65 a) ||| (1 <<< ((nI (pl / 280)) &&& 31)))))) (Or.inr (by omega))
    replace hN := hN.put (a := n + 327) (c := .inl (0, 961, .inl (upd (E 65) (nI a).toNatClampNeg ((E 65 a) ||| (1 <<< ((nI (pl / 280)) &&& 31)))))) (by omega)
    replace hA := hA.put (a := n + 327) (c := .inl (0, 961, .inl (upd (E 65) (nI a).toNatClampNeg ((E 65 a) ||| (1 <<< ((nI (pl / 280)) &&& 31)))))) (by omega)
    replace hn : (ax_put h (n + 327) (.inl (0, 961, .inl (upd (E 65) (nI a).toNatClampNeg ((E 65 a) ||| (1 <<< ((nI (pl / 280)) &&& 31))))))).1 = hb.1 := hn
    replace hs : (ax_put h (n + 327) (.inl (0, 961, .inl (upd (E 65) (nI a).toNatClampNeg ((E 65 a) ||| (1 <<< ((nI (pl / 280)) &&& 31))))))).2.1 = hb.2.1 := hs
    generalize ax_put h (n + 327) (.inl (0, 961, .inl (upd (E 65) (nI a).toNatClampNeg ((E 65 a) ||| (1 <<< ((nI (pl / 280)) &&& 31)))))) = hp_1 at hF hf hA hN hn hs ⊢
    replace hF : ax_hs hp_1 [cSt s0 n E, cRk n nn gg C, cOr n nn gg f, cAs n E, cEr n 5 512 E, cEr n 6 100 E, cEr n 7 2 E, cAk n, cEr n 9 512 E, cNa n nn, cEr n 0 48 E, cEr n 1 961 E, cTs n gg E TK, cEr n 59 48 E, cEr n 60 48 E, cEr n 61 48 E, cEr n 62 2400 E, cEr n 63 512 E, cEr n 64 961 E, (n + 327, .inl (0, 961, .inl (upd (E 65) a ((E 65 a) ||| (1 <<< ((nI (pl / 280)) &&& 31))))))] := by
      have e := hF
      rw [nI_clamp (show a < 2 ^ 31 by omega)] at e
      exact e
    have hp : p < nn * 280 := hp0_
    have esf : (E 1) a = nI p := ep
    have hj1 : p / 280 < nn := by omega
    have hj2 : pl / 280 < nn := by omega
    refine ar_aload_n 39 d_171_38 rfl rfl ?_
    refine ar_getf 42 d_171_39 rfl (ci := 0) (k := 3) rfl (hF.at 0 rfl) rfl ?_
    refine ar_aload_n 43 d_171_42 rfl rfl ?_
    refine ar_getf 46 d_171_43 rfl (ci := 0) (k := 6) rfl (hF.at 0 rfl) rfl ?_
    refine ar_iload_n 47 d_171_46 rfl rfl ?_
    refine ar_iald 48 d_171_47 rfl (hF.at 11 rfl) (vin (by omega) (by omega)) ?_
    refine ar_top (x' := nI p) (by rw [nI_clamp (show a < 2 ^ 31 by omega)]; exact esf) ?_
    refine ar_sipush 51 (v := 280) d_171_48 rfl (by decide) ?_
    refine ar_idiv 52 d_171_51 rfl (by decide) ?_
    refine ar_top (x' := nI (p / 280)) (pk_div (d := 280) (by omega) (by omega) (by omega)) ?_
    refine ar_aald 53 d_171_52 rfl (hF.at 9 rfl) rfl (vin hj1 (by omega)) ?_
    refine ar_tv (v' := .ref (n + 329 + 22 * (p / 280))) (ndr hnn hj1) ?_
    refine ar_getf 56 d_171_53 rfl (ci := 7) (k := 3) rfl (hf.g ((hG0 (p / 280) hj1).1.at 0 rfl) (by unfold ASA NTA; omega)) rfl ?_
    refine ar_getf 59 d_171_56 rfl (ci := 8) (k := 0) rfl (hf.g ((hG0 (p / 280) hj1).1.at 1 rfl) (by unfold ASA NTA; omega)) rfl ?_
    refine ar_astore_n 60 [(0, .ref s0), (1, .int (nI a)), (2, .int (nI pl)), (3, .ref (n + 329 + 22 * (p / 280) + 2))] d_171_59 rfl (by decide) rfl ?_
    refine ar_aload_n 61 d_171_60 rfl rfl ?_
    refine ar_getf 64 d_171_61 rfl (ci := 0) (k := 3) rfl (hF.at 0 rfl) rfl ?_
    refine ar_iload_n 65 d_171_64 rfl rfl ?_
    refine ar_sipush 68 (v := 280) d_171_65 rfl (by decide) ?_
    refine ar_idiv 69 d_171_68 rfl (by decide) ?_
    refine ar_top (x' := nI (pl / 280)) (pk_div (d := 280) (by omega) (by omega) (by omega)) ?_
    refine ar_aald 70 d_171_69 rfl (hF.at 9 rfl) rfl (vin hj2 (by omega)) ?_
    refine ar_tv (v' := .ref (n + 329 + 22 * (pl / 280))) (ndr hnn hj2) ?_
    refine ar_getf 73 d_171_70 rfl (ci := 7) (k := 3) rfl (hf.g ((hG0 (pl / 280) hj2).1.at 0 rfl) (by unfold ASA NTA; omega)) rfl ?_
    refine ar_getf 76 d_171_73 rfl (ci := 8) (k := 0) rfl (hf.g ((hG0 (pl / 280) hj2).1.at 1 rfl) (by unfold ASA NTA; omega)) rfl ?_
    refine ar_astore 78 [(0, .ref s0), (1, .int (nI a)), (2, .int (nI pl)), (3, .ref (n + 329 + 22 * (p / 280) + 2)), (4, .ref (n + 329 + 22 * (pl / 280) + 2))] d_171_76 rfl (by decide) rfl ?_
    refine ar_aload_n 79 d_171_78 rfl rfl ?_
    refine ar_getf 82 d_171_79 rfl (ci := 0) (k := 6) rfl (hF.at 0 rfl) rfl ?_
    refine ar_iload_n 83 d_171_82 rfl rfl ?_
    refine ar_iald 84 d_171_83 rfl (hF.at 11 rfl) (vin (by omega) (by omega)) ?_
    refine ar_top (x' := nI p) (by rw [nI_clamp (show a < 2 ^ 31 by omega)]; exact esf) ?_
    refine ar_sipush 87 (v := 280) d_171_84 rfl (by decide) ?_
    refine ar_irem 88 d_171_87 rfl (by decide) ?_
    refine ar_top (x' := nI (p % 280)) (pk_rem (d := 280) (by omega) (by omega) (by omega)) ?_
    refine ar_sipush 91 (v := 128) d_171_88 rfl (by decide) ?_
    refine ar_imul 92 d_171_91 rfl ?_
    refine ar_top (x' := nI (p % 280 * 128)) (pk_mul _ 128) ?_
    refine ar_istore 94 [(0, .ref s0), (1, .int (nI a)), (2, .int (nI pl)), (3, .ref (n + 329 + 22 * (p / 280) + 2)), (4, .ref (n + 329 + 22 * (pl / 280) + 2)), (5, .int (nI (p % 280 * 128)))] d_171_92 rfl (by decide) rfl ?_
    refine ar_iload_n 95 d_171_94 rfl rfl ?_
    refine ar_sipush 98 (v := 280) d_171_95 rfl (by decide) ?_
    refine ar_irem 99 d_171_98 rfl (by decide) ?_
    refine ar_top (x' := nI (pl % 280)) (pk_rem (d := 280) (by omega) (by omega) (by omega)) ?_
    refine ar_sipush 102 (v := 128) d_171_99 rfl (by decide) ?_
    refine ar_imul 103 d_171_102 rfl ?_
    refine ar_top (x' := nI (pl % 280 * 128)) (pk_mul _ 128) ?_
    refine ar_istore 105 [(0, .ref s0), (1, .int (nI a)), (2, .int (nI pl)), (3, .ref (n + 329 + 22 * (p / 280) + 2)), (4, .ref (n + 329 + 22 * (pl / 280) + 2)), (5, .int (nI (p % 280 * 128))), (6, .int (nI (pl % 280 * 128)))] d_171_103 rfl (by decide) rfl ?_
    refine ar_iconst 106 (v := 1) d_171_105 rfl (by decide) ?_
    refine ar_istore 108 [(0, .ref s0), (1, .int (nI a)), (2, .int (nI pl)), (3, .ref (n + 329 + 22 * (p / 280) + 2)), (4, .ref (n + 329 + 22 * (pl / 280) + 2)), (5, .int (nI (p % 280 * 128))), (6, .int (nI (pl % 280 * 128))), (7, .int 1)] d_171_106 rfl (by decide) rfl ?_
    have hS1 : AS s0 n nn gg C f q u b hb hp_1 (va_up E 65 (upd (E 65) a ((E 65 a) ||| (1 <<< ((nI (pl / 280)) &&& 31))))) TK Q ms := ⟨hF, hA, hN, hf, hn, hs, hp0⟩
    have hse : seenI nn (va_up (va_up E 1 (E 1)) 65 (upd (E 65) a ((E 65 a) ||| (1 <<< ((nI (pl / 280)) &&& 31))))) := by
      intro x hx hne
      by_cases e : x = a
      · rw [e]; exact ⟨p, hp, esf⟩
      · have h1 : ¬ E 65 x = 0 := by
          have := hne
          rw [show va_up (va_up E 1 (E 1)) 65 (upd (E 65) a ((E 65 a) ||| (1 <<< ((nI (pl / 280)) &&& 31)))) 65 x = E 65 x from pk_un e] at this
          exact this
        rw [show va_up (va_up E 1 (E 1)) 65 (upd (E 65) a ((E 65 a) ||| (1 <<< ((nI (pl / 280)) &&& 31)))) 1 x = E 1 x from rfl]
        exact hsI x hx h1
    have hS9 : AS s0 n nn gg C f q u b hb hp_1 (va_up (va_up E 1 (E 1)) 65 (upd (E 65) a ((E 65 a) ||| (1 <<< ((nI (pl / 280)) &&& 31))))) TK Q ms := by rw [show va_up E 1 (E 1) = E from va_up_sf]; exact hS1
    refine ar_wk [3, 4, 5, 6, 7] rfl (by simp) ?_
    have key : ∀ (k w : Nat), w + k = 127 → 1 ≤ w → ax_A (ax_step L xs) ((171, 108, fr, lo), [(3, .ref (n + 329 + 22 * (p / 280) + 2)), (4, .ref (n + 329 + 22 * (pl / 280) + 2)), (5, .int (nI (p % 280 * 128))), (6, .int (nI (pl % 280 * 128))), (7, .int (nI w))], [], hp_1) (fun r h' => ∃ (y : Int32) (sf hv : Nat → Int32), r = some (.int y) ∧ AS s0 n nn gg C f q u b hb h' (va_up (va_up E 1 sf) 65 hv) TK Q ms ∧ seenI nn (va_up (va_up E 1 sf) 65 hv) ∧ y = 1 ∧ hv = upd (E 65) a ((E 65 a) ||| (1 <<< ((nI (pl / 280)) &&& 31))) ∧ ((¬ E 65 a = 0 ∧ sf = E 1) ∨ (E 65 a = 0 ∧ sf = upd (E 1) a (nI pl)))) := by
      intro k
      induction k with
      | zero =>
        intro w hw hw1
        have e0 : 127 = w := by omega
        subst e0
        refine ar_iload 110 d_171_108 rfl rfl ?_
        refine ar_bipush 112 (v := 127) d_171_110 rfl (by decide) ?_
        refine ar_icmp_ge 141 115 d_171_112 (by decide) rfl (fun _ => ?_) (fun c => absurd (Int32.le_refl _) c)
        refine ar_iconst 142 (v := 1) d_171_141 rfl (by decide) ?_
        exact ar_iret d_171_142 rfl rfl (⟨_, _, _, rfl, hS9, hse, rfl, rfl, Or.inl ⟨c1, rfl⟩⟩)
      | succ k ih =>
        intro w hw hw1
        refine ar_iload 110 d_171_108 rfl rfl ?_
        refine ar_bipush 112 (v := 127) d_171_110 rfl (by decide) ?_
        refine ar_icmp_ge 141 115 d_171_112 (by decide) rfl (fun c => absurd c (nI_ge (b := 127) (by omega) (by decide))) (fun _ => ?_)
        refine ar_aload_n 116 d_171_115 rfl rfl ?_
        refine ar_iload 118 d_171_116 rfl rfl ?_
        refine ar_iload 120 d_171_118 rfl rfl ?_
        refine ar_iadd 121 d_171_120 rfl ?_
        refine ar_top (x' := nI (p % 280 * 128 + w)) (nI_add _ _) ?_
        refine ar_iald 122 d_171_121 rfl (hf.g ((hG0 (p / 280) hj1).1.at 2 rfl) (by unfold ASA NTA; omega)) (vin (by omega) (by omega)) ?_
        refine ar_aload 124 d_171_122 rfl rfl ?_
        refine ar_iload 126 d_171_124 rfl rfl ?_
        refine ar_iload 128 d_171_126 rfl rfl ?_
        refine ar_iadd 129 d_171_128 rfl ?_
        refine ar_top (x' := nI (pl % 280 * 128 + w)) (nI_add _ _) ?_
        refine ar_iald 130 d_171_129 rfl (hf.g ((hG0 (pl / 280) hj2).1.at 2 rfl) (by unfold ASA NTA; omega)) (vin (by omega) (by omega)) ?_
        refine ar_icmp_eq 135 133 d_171_130 (by decide) rfl (fun c9 => ?_) (fun c9 => ?_)
        · refine ar_iinc 138 [(3, .ref (n + 329 + 22 * (p / 280) + 2)), (4, .ref (n + 329 + 22 * (pl / 280) + 2)), (5, .int (nI (p % 280 * 128))), (6, .int (nI (pl % 280 * 128))), (7, .int (nI (w + 1)))] d_171_135 rfl rfl (nI_1 w) (by decide) rfl ?_
          refine ar_goto 108 d_171_138 (by decide) ?_
          exact ih (w + 1) (by omega) (by omega)
        · exact absurd (by rw [nI_clamp (by omega), nI_clamp (by omega)]; exact hsame c1 p hp0_ ep w (by omega) (by omega)) c9
    exact key 126 1 (by omega) (by omega)
  · refine ar_aload_n 13 d_171_12 rfl rfl ?_
    refine ar_getf 16 d_171_13 rfl (ci := 0) (k := 6) rfl (hF.at 0 rfl) rfl ?_
    refine ar_iload_n 17 d_171_16 rfl rfl ?_
    refine ar_iload_n 18 d_171_17 rfl rfl ?_
    refine ar_iast 19 d_171_18 rfl (hF.at 11 rfl) (vin (by omega) (by omega)) ?_
    replace hF : ax_hs (ax_put h (n + 263) (.inl (0, 961, .inl (upd (E 1) (nI a).toNatClampNeg (nI pl))))) [cSt s0 n E, cRk n nn gg C, cOr n nn gg f, cAs n E, cEr n 5 512 E, cEr n 6 100 E, cEr n 7 2 E, cAk n, cEr n 9 512 E, cNa n nn, cEr n 0 48 E, (n + 263, .inl (0, 961, .inl (upd (E 1) (nI a).toNatClampNeg (nI pl)))), cTs n gg E TK, cEr n 59 48 E, cEr n 60 48 E, cEr n 61 48 E, cEr n 62 2400 E, cEr n 63 512 E, cEr n 64 961 E, cEr n 65 961 E] := hF.put 11 _ rfl rfl
    replace hf := hf.put (a := n + 263) (c := .inl (0, 961, .inl (upd (E 1) (nI a).toNatClampNeg (nI pl)))) (Or.inr (by omega))
    replace hN := hN.put (a := n + 263) (c := .inl (0, 961, .inl (upd (E 1) (nI a).toNatClampNeg (nI pl)))) (by omega)
    replace hA := hA.put (a := n + 263) (c := .inl (0, 961, .inl (upd (E 1) (nI a).toNatClampNeg (nI pl)))) (by omega)
    replace hn : (ax_put h (n + 263) (.inl (0, 961, .inl (upd (E 1) (nI a).toNatClampNeg (nI pl))))).1 = hb.1 := hn
    replace hs : (ax_put h (n + 263) (.inl (0, 961, .inl (upd (E 1) (nI a).toNatClampNeg (nI pl))))).2.1 = hb.2.1 := hs
    generalize ax_put h (n + 263) (.inl (0, 961, .inl (upd (E 1) (nI a).toNatClampNeg (nI pl)))) = hp_2 at hF hf hA hN hn hs ⊢
    replace hF : ax_hs hp_2 [cSt s0 n E, cRk n nn gg C, cOr n nn gg f, cAs n E, cEr n 5 512 E, cEr n 6 100 E, cEr n 7 2 E, cAk n, cEr n 9 512 E, cNa n nn, cEr n 0 48 E, (n + 263, .inl (0, 961, .inl (upd (E 1) a (nI pl)))), cTs n gg E TK, cEr n 59 48 E, cEr n 60 48 E, cEr n 61 48 E, cEr n 62 2400 E, cEr n 63 512 E, cEr n 64 961 E, cEr n 65 961 E] := by
      have e := hF
      rw [nI_clamp (show a < 2 ^ 31 by omega)] at e
      exact e
    refine ar_aload_n 20 d_171_19 rfl rfl ?_
    refine ar_getf 23 d_171_20 rfl (ci := 0) (k := 4) rfl (hF.at 0 rfl) rfl ?_
    refine ar_getf 26 d_171_23 rfl (ci := 6) (k := 7) rfl (hF.at 12 rfl) rfl ?_
    refine ar_iload_n 27 d_171_26 rfl rfl ?_
    refine ar_dup2 28 d_171_27 rfl rfl rfl ?_
    refine ar_iald 29 d_171_28 rfl (hF.at 19 rfl) (vin (by omega) (by omega)) ?_
    refine ar_top (x' := E 65 a) (by rw [nI_clamp (show a < 2 ^ 31 by omega)]) ?_
    refine ar_iconst 30 (v := 1) d_171_29 rfl (by decide) ?_
    refine ar_iload_n 31 d_171_30 rfl rfl ?_
    refine ar_sipush 34 (v := 280) d_171_31 rfl (by decide) ?_
    refine ar_idiv 35 d_171_34 rfl (by decide) ?_
    refine ar_top (x' := nI (pl / 280)) (pk_div (d := 280) (by omega) (by omega) (by omega)) ?_
    refine ar_ishl 36 d_171_35 rfl ?_
    refine ar_ior 37 d_171_36 rfl ?_
    refine ar_iast 38 d_171_37 rfl (hF.at 19 rfl) (vin (by omega) (by omega)) ?_
    replace hF : ax_hs (ax_put hp_2 (n + 327) (.inl (0, 961, .inl (upd (E 65) (nI a).toNatClampNeg ((E 65 a) ||| (1 <<< ((nI (pl / 280)) &&& 31))))))) [cSt s0 n E, cRk n nn gg C, cOr n nn gg f, cAs n E, cEr n 5 512 E, cEr n 6 100 E, cEr n 7 2 E, cAk n, cEr n 9 512 E, cNa n nn, cEr n 0 48 E, (n + 263, .inl (0, 961, .inl (upd (E 1) a (nI pl)))), cTs n gg E TK, cEr n 59 48 E, cEr n 60 48 E, cEr n 61 48 E, cEr n 62 2400 E, cEr n 63 512 E, cEr n 64 961 E, (n + 327, .inl (0, 961, .inl (upd (E 65) (nI a).toNatClampNeg ((E 65 a) ||| (1 <<< ((nI (pl / 280)) &&& 31))))))] := hF.put 19 _ rfl rfl
    replace hf := hf.put (a := n + 327) (c := .inl (0, 961, .inl (upd (E 65) (nI a).toNatClampNeg ((E 65 a) ||| (1 <<< ((nI (pl / 280)) &&& 31)))))) (Or.inr (by omega))
    replace hN := hN.put (a := n + 327) (c := .inl (0, 961, .inl (upd (E 65) (nI a).toNatClampNeg ((E 65 a) ||| (1 <<< ((nI (pl / 280)) &&& 31)))))) (by omega)
    replace hA := hA.put (a := n + 327) (c := .inl (0, 961, .inl (upd (E 65) (nI a).toNatClampNeg ((E 65 a) ||| (1 <<< ((nI (pl / 280)) &&& 31)))))) (by omega)
    replace hn : (ax_put hp_2 (n + 327) (.inl (0, 961, .inl (upd (E 65) (nI a).toNatClampNeg ((E 65 a) ||| (1 <<< ((nI (pl / 280)) &&& 31))))))).1 = hb.1 := hn
    replace hs : (ax_put hp_2 (n + 327) (.inl (0, 961, .inl (upd (E 65) (nI a).toNatClampNeg ((E 65 a) ||| (1 <<< ((nI (pl / 280)) &&& 31))))))).2.1 = hb.2.1 := hs
    generalize ax_put hp_2 (n + 327) (.inl (0, 961, .inl (upd (E 65) (nI a).toNatClampNeg ((E 65 a) ||| (1 <<< ((nI (pl / 280)) &&& 31)))))) = hp_3 at hF hf hA hN hn hs ⊢
    replace hF : ax_hs hp_3 [cSt s0 n E, cRk n nn gg C, cOr n nn gg f, cAs n E, cEr n 5 512 E, cEr n 6 100 E, cEr n 7 2 E, cAk n, cEr n 9 512 E, cNa n nn, cEr n 0 48 E, (n + 263, .inl (0, 961, .inl (upd (E 1) a (nI pl)))), cTs n gg E TK, cEr n 59 48 E, cEr n 60 48 E, cEr n 61 48 E, cEr n 62 2400 E, cEr n 63 512 E, cEr n 64 961 E, (n + 327, .inl (0, 961, .inl (upd (E 65) a ((E 65 a) ||| (1 <<< ((nI (pl / 280)) &&& 31))))))] := by
      have e := hF
      rw [nI_clamp (show a < 2 ^ 31 by omega)] at e
      exact e
    have hp : pl < nn * 280 := hpl
    have esf : (upd (E 1) a (nI pl)) a = nI pl := pk_us
    have hj1 : pl / 280 < nn := by omega
    have hj2 : pl / 280 < nn := by omega
    refine ar_aload_n 39 d_171_38 rfl rfl ?_
    refine ar_getf 42 d_171_39 rfl (ci := 0) (k := 3) rfl (hF.at 0 rfl) rfl ?_
    refine ar_aload_n 43 d_171_42 rfl rfl ?_
    refine ar_getf 46 d_171_43 rfl (ci := 0) (k := 6) rfl (hF.at 0 rfl) rfl ?_
    refine ar_iload_n 47 d_171_46 rfl rfl ?_
    refine ar_iald 48 d_171_47 rfl (hF.at 11 rfl) (vin (by omega) (by omega)) ?_
    refine ar_top (x' := nI pl) (by rw [nI_clamp (show a < 2 ^ 31 by omega)]; exact esf) ?_
    refine ar_sipush 51 (v := 280) d_171_48 rfl (by decide) ?_
    refine ar_idiv 52 d_171_51 rfl (by decide) ?_
    refine ar_top (x' := nI (pl / 280)) (pk_div (d := 280) (by omega) (by omega) (by omega)) ?_
    refine ar_aald 53 d_171_52 rfl (hF.at 9 rfl) rfl (vin hj1 (by omega)) ?_
    refine ar_tv (v' := .ref (n + 329 + 22 * (pl / 280))) (ndr hnn hj1) ?_
    refine ar_getf 56 d_171_53 rfl (ci := 7) (k := 3) rfl (hf.g ((hG0 (pl / 280) hj2).1.at 0 rfl) (by unfold ASA NTA; omega)) rfl ?_
    refine ar_getf 59 d_171_56 rfl (ci := 8) (k := 0) rfl (hf.g ((hG0 (pl / 280) hj2).1.at 1 rfl) (by unfold ASA NTA; omega)) rfl ?_
    refine ar_astore_n 60 [(0, .ref s0), (1, .int (nI a)), (2, .int (nI pl)), (3, .ref (n + 329 + 22 * (pl / 280) + 2))] d_171_59 rfl (by decide) rfl ?_
    refine ar_aload_n 61 d_171_60 rfl rfl ?_
    refine ar_getf 64 d_171_61 rfl (ci := 0) (k := 3) rfl (hF.at 0 rfl) rfl ?_
    refine ar_iload_n 65 d_171_64 rfl rfl ?_
    refine ar_sipush 68 (v := 280) d_171_65 rfl (by decide) ?_
    refine ar_idiv 69 d_171_68 rfl (by decide) ?_
    refine ar_top (x' := nI (pl / 280)) (pk_div (d := 280) (by omega) (by omega) (by omega)) ?_
    refine ar_aald 70 d_171_69 rfl (hF.at 9 rfl) rfl (vin hj2 (by omega)) ?_
    refine ar_tv (v' := .ref (n + 329 + 22 * (pl / 280))) (ndr hnn hj2) ?_
    refine ar_getf 73 d_171_70 rfl (ci := 7) (k := 3) rfl (hf.g ((hG0 (pl / 280) hj2).1.at 0 rfl) (by unfold ASA NTA; omega)) rfl ?_
    refine ar_getf 76 d_171_73 rfl (ci := 8) (k := 0) rfl (hf.g ((hG0 (pl / 280) hj2).1.at 1 rfl) (by unfold ASA NTA; omega)) rfl ?_
    refine ar_astore 78 [(0, .ref s0), (1, .int (nI a)), (2, .int (nI pl)), (3, .ref (n + 329 + 22 * (pl / 280) + 2)), (4, .ref (n + 329 + 22 * (pl / 280) + 2))] d_171_76 rfl (by decide) rfl ?_
    refine ar_aload_n 79 d_171_78 rfl rfl ?_
    refine ar_getf 82 d_171_79 rfl (ci := 0) (k := 6) rfl (hF.at 0 rfl) rfl ?_
    refine ar_iload_n 83 d_171_82 rfl rfl ?_
    refine ar_iald 84 d_171_83 rfl (hF.at 11 rfl) (vin (by omega) (by omega)) ?_
    refine ar_top (x' := nI pl) (by rw [nI_clamp (show a < 2 ^ 31 by omega)]; exact esf) ?_
    refine ar_sipush 87 (v := 280) d_171_84 rfl (by decide) ?_
    refine ar_irem 88 d_171_87 rfl (by decide) ?_
    refine ar_top (x' := nI (pl % 280)) (pk_rem (d := 280) (by omega) (by omega) (by omega)) ?_
    refine ar_sipush 91 (v := 128) d_171_88 rfl (by decide) ?_
    refine ar_imul 92 d_171_91 rfl ?_
    refine ar_top (x' := nI (pl % 280 * 128)) (pk_mul _ 128) ?_
    refine ar_istore 94 [(0, .ref s0), (1, .int (nI a)), (2, .int (nI pl)), (3, .ref (n + 329 + 22 * (pl / 280) + 2)), (4, .ref (n + 329 + 22 * (pl / 280) + 2)), (5, .int (nI (pl % 280 * 128)))] d_171_92 rfl (by decide) rfl ?_
    refine ar_iload_n 95 d_171_94 rfl rfl ?_
    refine ar_sipush 98 (v := 280) d_171_95 rfl (by decide) ?_
    refine ar_irem 99 d_171_98 rfl (by decide) ?_
    refine ar_top (x' := nI (pl % 280)) (pk_rem (d := 280) (by omega) (by omega) (by omega)) ?_
    refine ar_sipush 102 (v := 128) d_171_99 rfl (by decide) ?_
    refine ar_imul 103 d_171_102 rfl ?_
    refine ar_top (x' := nI (pl % 280 * 128)) (pk_mul _ 128) ?_
    refine ar_istore 105 [(0, .ref s0), (1, .int (nI a)), (2, .int (nI pl)), (3, .ref (n + 329 + 22 * (pl / 280) + 2)), (4, .ref (n + 329 + 22 * (pl / 280) + 2)), (5, .int (nI (pl % 280 * 128))), (6, .int (nI (pl % 280 * 128)))] d_171_103 rfl (by decide) rfl ?_
    refine ar_iconst 106 (v := 1) d_171_105 rfl (by decide) ?_
    refine ar_istore 108 [(0, .ref s0), (1, .int (nI a)), (2, .int (nI pl)), (3, .ref (n + 329 + 22 * (pl / 280) + 2)), (4, .ref (n + 329 + 22 * (pl / 280) + 2)), (5, .int (nI (pl % 280 * 128))), (6, .int (nI (pl % 280 * 128))), (7, .int 1)] d_171_106 rfl (by decide) rfl ?_
    have hS1 : AS s0 n nn gg C f q u b hb hp_3 (va_up (va_up E 1 (upd (E 1) a (nI pl))) 65 (upd (E 65) a ((E 65 a) ||| (1 <<< ((nI (pl / 280)) &&& 31))))) TK Q ms := ⟨hF, hA, hN, hf, hn, hs, hp0⟩
    have hse : seenI nn (va_up (va_up E 1 (upd (E 1) a (nI pl))) 65 (upd (E 65) a ((E 65 a) ||| (1 <<< ((nI (pl / 280)) &&& 31))))) := by
      intro x hx hne
      by_cases e : x = a
      · rw [e]; exact ⟨pl, hp, esf⟩
      · have h1 : ¬ E 65 x = 0 := by
          have := hne
          rw [show va_up (va_up E 1 (upd (E 1) a (nI pl))) 65 (upd (E 65) a ((E 65 a) ||| (1 <<< ((nI (pl / 280)) &&& 31)))) 65 x = E 65 x from pk_un e] at this
          exact this
        rw [show va_up (va_up E 1 (upd (E 1) a (nI pl))) 65 (upd (E 65) a ((E 65 a) ||| (1 <<< ((nI (pl / 280)) &&& 31)))) 1 x = E 1 x from pk_un e]
        exact hsI x hx h1
    have hS9 : AS s0 n nn gg C f q u b hb hp_3 (va_up (va_up E 1 (upd (E 1) a (nI pl))) 65 (upd (E 65) a ((E 65 a) ||| (1 <<< ((nI (pl / 280)) &&& 31))))) TK Q ms := hS1
    refine ar_wk [3, 4, 5, 6, 7] rfl (by simp) ?_
    have key : ∀ (k w : Nat), w + k = 127 → 1 ≤ w → ax_A (ax_step L xs) ((171, 108, fr, lo), [(3, .ref (n + 329 + 22 * (pl / 280) + 2)), (4, .ref (n + 329 + 22 * (pl / 280) + 2)), (5, .int (nI (pl % 280 * 128))), (6, .int (nI (pl % 280 * 128))), (7, .int (nI w))], [], hp_3) (fun r h' => ∃ (y : Int32) (sf hv : Nat → Int32), r = some (.int y) ∧ AS s0 n nn gg C f q u b hb h' (va_up (va_up E 1 sf) 65 hv) TK Q ms ∧ seenI nn (va_up (va_up E 1 sf) 65 hv) ∧ y = 1 ∧ hv = upd (E 65) a ((E 65 a) ||| (1 <<< ((nI (pl / 280)) &&& 31))) ∧ ((¬ E 65 a = 0 ∧ sf = E 1) ∨ (E 65 a = 0 ∧ sf = upd (E 1) a (nI pl)))) := by
      intro k
      induction k with
      | zero =>
        intro w hw hw1
        have e0 : 127 = w := by omega
        subst e0
        refine ar_iload 110 d_171_108 rfl rfl ?_
        refine ar_bipush 112 (v := 127) d_171_110 rfl (by decide) ?_
        refine ar_icmp_ge 141 115 d_171_112 (by decide) rfl (fun _ => ?_) (fun c => absurd (Int32.le_refl _) c)
        refine ar_iconst 142 (v := 1) d_171_141 rfl (by decide) ?_
        exact ar_iret d_171_142 rfl rfl (⟨_, _, _, rfl, hS9, hse, rfl, rfl, Or.inr ⟨Decidable.not_not.mp c1, rfl⟩⟩)
      | succ k ih =>
        intro w hw hw1
        refine ar_iload 110 d_171_108 rfl rfl ?_
        refine ar_bipush 112 (v := 127) d_171_110 rfl (by decide) ?_
        refine ar_icmp_ge 141 115 d_171_112 (by decide) rfl (fun c => absurd c (nI_ge (b := 127) (by omega) (by decide))) (fun _ => ?_)
        refine ar_aload_n 116 d_171_115 rfl rfl ?_
        refine ar_iload 118 d_171_116 rfl rfl ?_
        refine ar_iload 120 d_171_118 rfl rfl ?_
        refine ar_iadd 121 d_171_120 rfl ?_
        refine ar_top (x' := nI (pl % 280 * 128 + w)) (nI_add _ _) ?_
        refine ar_iald 122 d_171_121 rfl (hf.g ((hG0 (pl / 280) hj2).1.at 2 rfl) (by unfold ASA NTA; omega)) (vin (by omega) (by omega)) ?_
        refine ar_aload 124 d_171_122 rfl rfl ?_
        refine ar_iload 126 d_171_124 rfl rfl ?_
        refine ar_iload 128 d_171_126 rfl rfl ?_
        refine ar_iadd 129 d_171_128 rfl ?_
        refine ar_top (x' := nI (pl % 280 * 128 + w)) (nI_add _ _) ?_
        refine ar_iald 130 d_171_129 rfl (hf.g ((hG0 (pl / 280) hj2).1.at 2 rfl) (by unfold ASA NTA; omega)) (vin (by omega) (by omega)) ?_
        refine ar_icmp_eq 135 133 d_171_130 (by decide) rfl (fun c9 => ?_) (fun c9 => ?_)
        · refine ar_iinc 138 [(3, .ref (n + 329 + 22 * (pl / 280) + 2)), (4, .ref (n + 329 + 22 * (pl / 280) + 2)), (5, .int (nI (pl % 280 * 128))), (6, .int (nI (pl % 280 * 128))), (7, .int (nI (w + 1)))] d_171_135 rfl rfl (nI_1 w) (by decide) rfl ?_
          refine ar_goto 108 d_171_138 (by decide) ?_
          exact ih (w + 1) (by omega) (by omega)
        · exact absurd rfl c9
    exact key 126 1 (by omega) (by omega)
theorem fnd_FD {Z : ZT} {fl : Int32} {jf zf nf fo vf : Nat → Int32} {x : Int32} (hT : TI Z fl jf zf nf fo vf) : fndI fo vf x = -1 ∨ ∃ t a : Nat, t < 2 ^ 31 ∧ x = nI t ∧ a < 961 ∧ fndI fo vf x = nI a ∧ FD jf vf t a := hT.fnd2 x
set_option maxRecDepth 100000 in
theorem gx_170X {L : Nat} {xs : Nat → Int32} {fr lo : Nat} {s0 n nn gg : Nat} {C : Int32} {f : Nat → Int32} {q : Nat} {u b : Nat → Int32} {hb h : ax_H} {Z : ZT} {D : Nat → Nat → Nat → Int32} {K A : Nat → Int64} {E : Nat → Nat → Int32} {TK : Int64} {Q : Nat → Mg} {ms : List Mg}  (hfr : 2 ≤ fr) (hlo : 100 ≤ lo) (hC : CG s0 n nn gg f) (hG0 : GN Z n nn gg C f hb D K A) (hS : AS s0 n nn gg C f q u b hb h E TK Q ms) {j : Nat} (hj : j < nn) (hsI : seenI nn E) (hK : TI Z (E 58 9) (E 59) (E 60) (E 61) (E 63) (E 64)) (hAU : AUD nn gg C f E D) (hH : HIv nn E D j 0 (E 1) (E 65)) : ax_M L xs 170 fr lo [.ref s0, .int (nI j)] h (fun r h' => ∃ (y : Int32) (sf hv : Nat → Int32), r = some (.int y) ∧ AS s0 n nn gg C f q u b hb h' (va_up (va_up E 1 sf) 65 hv) TK Q ms ∧ seenI nn (va_up (va_up E 1 sf) 65 hv) ∧ y = 0 ∧ HIv nn E D j 280 sf hv) := by
  have hC0 := hC
  obtain ⟨hs0, hsn, hnn3, hnn, hgg1, hgg, hRg⟩ := hC
  have key : ∀ (k i : Nat) (wv : Int32) (h : ax_H) (sf hv : Nat → Int32), i + k = 280 → AS s0 n nn gg C f q u b hb h (va_up (va_up E 1 sf) 65 hv) TK Q ms → seenI nn (va_up (va_up E 1 sf) 65 hv) → HIv nn E D j i sf hv → ax_A (ax_step L xs) ((170, 15, fr, lo), [(0, .ref s0), (1, .int (nI j)), (2, .ref (n + 329 + 22 * j + 1)), (3, .int wv), (4, .int (nI i))], [], h) (fun r h' => ∃ (y : Int32) (sf hv : Nat → Int32), r = some (.int y) ∧ AS s0 n nn gg C f q u b hb h' (va_up (va_up E 1 sf) 65 hv) TK Q ms ∧ seenI nn (va_up (va_up E 1 sf) 65 hv) ∧ y = wv ∧ HIv nn E D j 280 sf hv) := by
    intro k
    induction k with
    | zero =>
      intro i wv h sf hv hi hS hsI hH
      have e0 : 280 = i := by omega
      subst e0
      have hSk := hS
      obtain ⟨hF, hA, hN, hf, hn, hs, hp0⟩ := hS
      replace hF : ax_hs h [cSt s0 n (va_up (va_up E 1 sf) 65 hv), cRk n nn gg C, cOr n nn gg f, cAs n (va_up (va_up E 1 sf) 65 hv), cEr n 5 512 (va_up (va_up E 1 sf) 65 hv), cEr n 6 100 (va_up (va_up E 1 sf) 65 hv), cEr n 7 2 (va_up (va_up E 1 sf) 65 hv), cAk n, cEr n 9 512 (va_up (va_up E 1 sf) 65 hv), cNa n nn, cEr n 0 48 (va_up (va_up E 1 sf) 65 hv), cEr n 1 961 (va_up (va_up E 1 sf) 65 hv), cTs n gg (va_up (va_up E 1 sf) 65 hv) TK, cEr n 59 48 (va_up (va_up E 1 sf) 65 hv), cEr n 60 48 (va_up (va_up E 1 sf) 65 hv), cEr n 61 48 (va_up (va_up E 1 sf) 65 hv), cEr n 62 2400 (va_up (va_up E 1 sf) 65 hv), cEr n 63 512 (va_up (va_up E 1 sf) 65 hv), cEr n 64 961 (va_up (va_up E 1 sf) 65 hv), cEr n 65 961 (va_up (va_up E 1 sf) 65 hv)] := hF
      refine ar_iload 17 d_170_15 rfl rfl ?_
      refine ar_sipush 20 (v := 280) d_170_17 rfl (by decide) ?_
      refine ar_icmp_ge 131 23 d_170_20 (by decide) rfl (fun _ => ?_) (fun c => absurd (Int32.le_refl _) c)
      refine ar_iload_n 132 d_170_131 rfl rfl ?_
      exact ar_iret d_170_132 rfl rfl (⟨_, sf, hv, rfl, hSk, hsI, rfl, hH⟩)
    | succ k ih =>
      intro i wv h sf hv hi hS hsI hH
      have hic : i < 280 := by omega
      have hSk := hS
      obtain ⟨hF, hA, hN, hf, hn, hs, hp0⟩ := hS
      replace hF : ax_hs h [cSt s0 n (va_up (va_up E 1 sf) 65 hv), cRk n nn gg C, cOr n nn gg f, cAs n (va_up (va_up E 1 sf) 65 hv), cEr n 5 512 (va_up (va_up E 1 sf) 65 hv), cEr n 6 100 (va_up (va_up E 1 sf) 65 hv), cEr n 7 2 (va_up (va_up E 1 sf) 65 hv), cAk n, cEr n 9 512 (va_up (va_up E 1 sf) 65 hv), cNa n nn, cEr n 0 48 (va_up (va_up E 1 sf) 65 hv), cEr n 1 961 (va_up (va_up E 1 sf) 65 hv), cTs n gg (va_up (va_up E 1 sf) 65 hv) TK, cEr n 59 48 (va_up (va_up E 1 sf) 65 hv), cEr n 60 48 (va_up (va_up E 1 sf) 65 hv), cEr n 61 48 (va_up (va_up E 1 sf) 65 hv), cEr n 62 2400 (va_up (va_up E 1 sf) 65 hv), cEr n 63 512 (va_up (va_up E 1 sf) 65 hv), cEr n 64 961 (va_up (va_up E 1 sf) 65 hv), cEr n 65 961 (va_up (va_up E 1 sf) 65 hv)] := hF
      refine ar_iload 17 d_170_15 rfl rfl ?_
      refine ar_sipush 20 (v := 280) d_170_17 rfl (by decide) ?_
      refine ar_icmp_ge 131 23 d_170_20 (by decide) rfl (fun c => absurd c (nI_ge hic (by decide))) (fun _ => ?_)
      refine ar_aload_n 24 d_170_23 rfl rfl ?_
      refine ar_iload 26 d_170_24 rfl rfl ?_
      by_cases hwi : whB (D j 2) i
      · refine ar_call (r := []) (na := 0) (kd := 0) (cm := 20) (fr2 := fr - 1) (lo2 := lo - 23) 29 d_170_26 (ar_hoV (as := [.int (nI i)]) rfl rfl rfl (hf.g ((hG0 j hj).1.at 1 rfl) (by unfold ASA NTA; omega))) rfl (by omega) (show lo - 23 + (19 + 4) = lo by omega) (Nat.le_of_ble_eq_true rfl) (Nat.le_of_ble_eq_true rfl) (c_20T hic hwi (((hG0 j hj).1.fr hf (NWf (fun x hx z => by unfold ASA NTA at z; omega))).sub (F' := [cDk (n + 329 + 22 * j) (D j), cAr (n + 329 + 22 * j) 2 35840 (D j)]) [1, 2] rfl rfl)) ?_
        intro v hh hq
        obtain ⟨rfl, ehh⟩ := hq
        rw [ehh]
        clear ehh
        refine ar_if_eq 125 32 d_170_29 (by decide) rfl (fun c => absurd c (by decide)) (fun _ => ?_)
        refine ar_aload_n 33 d_170_32 rfl rfl ?_
        refine ar_getf 36 d_170_33 rfl (ci := 0) (k := 4) rfl (hF.at 0 rfl) rfl ?_
        refine ar_aload_n 37 d_170_36 rfl rfl ?_
        refine ar_iload 39 d_170_37 rfl rfl ?_
        refine ar_call (r := [.ref (n + 320)]) (na := 0) (kd := 0) (cm := 21) (fr2 := fr - 1) (lo2 := lo - 21) 42 d_170_39 (ar_hoV (as := [.int (nI i)]) rfl rfl rfl (hf.g ((hG0 j hj).1.at 1 rfl) (by unfold ASA NTA; omega))) rfl (by omega) (show lo - 21 + (19 + 2) = lo by omega) (Nat.le_of_ble_eq_true rfl) (Nat.le_of_ble_eq_true rfl) (c_21 hic (((hG0 j hj).1.fr hf (NWf (fun x hx z => by unfold ASA NTA at z; omega))).sub (F' := [cDk (n + 329 + 22 * j) (D j), cAr (n + 329 + 22 * j) 2 35840 (D j)]) [1, 2] rfl rfl)) ?_
        intro v hh hq
        obtain ⟨rfl, ehh⟩ := hq
        rw [ehh]
        clear ehh
        refine ar_call (r := []) (na := 0) (kd := 0) (cm := 77) (fr2 := fr - 1) (lo2 := lo - 23) 45 d_170_42 (ar_hoV (as := [.int (D j 2 (i * 128 + 1))]) rfl rfl rfl (hF.at 12 rfl)) rfl (by omega) (show lo - 23 + (19 + 4) = lo by omega) (Nat.le_of_ble_eq_true rfl) (Nat.le_of_ble_eq_true rfl) (c_77E (x := D j 2 (i * 128 + 1)) hK (hF.at 12 rfl) (hF.at 17 rfl) (hF.at 18 rfl)) ?_
        intro v hh hq
        obtain ⟨rfl, ehh⟩ := hq
        rw [ehh]
        clear ehh
        obtain ⟨a1, ha1, ea1, hb1⟩ := hAU.1 j i hj hic hwi
        have hfd : ∃ t1 : Nat, FD (E 59) (E 64) t1 a1 := by
          rcases fnd_FD (x := D j 2 (i * 128 + 1)) hK with z | ⟨t1, a', _, _, _, z, hfd⟩
          · rw [show fndI (E 63) (E 64) (D j 2 (i * 128 + 1)) = nI a1 from ea1] at z; exact absurd z (nIneg (by omega))
          · have : a' = a1 := nI_inj (by omega) (by omega) (z.symm.trans ea1)
            rw [← this]; exact ⟨t1, hfd⟩
        obtain ⟨t1, hfd1⟩ := hfd
        refine ar_top (x' := nI a1) ea1 ?_
        refine ar_istore 47 [(0, .ref s0), (1, .int (nI j)), (2, .ref (n + 329 + 22 * j + 1)), (3, .int wv), (4, .int (nI i)), (5, .int (nI a1))] d_170_45 rfl (by decide) rfl ?_
        refine ar_iload 49 d_170_47 rfl rfl ?_
        refine ar_if_lt 99 52 d_170_49 (by decide) rfl (fun c => absurd c (nI_pos (by omega))) (fun _ => ?_)
        refine ar_aload_n 53 d_170_52 rfl rfl ?_
        refine ar_getf 56 d_170_53 rfl (ci := 0) (k := 0) rfl (hF.at 0 rfl) rfl ?_
        refine ar_aload_n 57 d_170_56 rfl rfl ?_
        refine ar_getf 60 d_170_57 rfl (ci := 0) (k := 4) rfl (hF.at 0 rfl) rfl ?_
        refine ar_iload 62 d_170_60 rfl rfl ?_
        refine ar_call (r := [.ref (n + 264)]) (na := 0) (kd := 0) (cm := 75) (fr2 := fr - 1) (lo2 := lo - 22) 65 d_170_62 (ar_hoV (as := [.int (nI a1)]) rfl rfl rfl (hF.at 12 rfl)) rfl (by omega) (show lo - 22 + (19 + 3) = lo by omega) (Nat.le_of_ble_eq_true rfl) (Nat.le_of_ble_eq_true rfl) (c_75 ha1 (by omega) hgg (hK.grp ha1 hfd1.id) (hF.at 12 rfl) (hF.at 13 rfl)) ?_
        intro v hh hq
        obtain ⟨rfl, ehh⟩ := hq
        rw [ehh]
        clear ehh
        refine ar_aload_n 66 d_170_65 rfl rfl ?_
        refine ar_getf 69 d_170_66 rfl (ci := 0) (k := 2) rfl (hF.at 0 rfl) rfl ?_
        refine ar_getf 72 d_170_69 rfl (ci := 4) (k := 14) rfl (hF.at 3 rfl) rfl ?_
        refine ar_call (r := []) (na := 0) (kd := 0) (cm := 34) (fr2 := fr - 1) (lo2 := lo - 26) 75 d_170_72 (ar_hoV (as := [.int (nI (grp (E 59) gg a1)), .int ((va_up (va_up E 1 sf) 65 hv) 4 14)]) rfl rfl rfl (hF.at 1 rfl)) rfl (by omega) (show lo - 26 + (19 + 7) = lo by omega) (Nat.le_of_ble_eq_true rfl) (Nat.le_of_ble_eq_true rfl) (c_34 hgg hnn (g := grp (E 59) gg a1) (grp_lt (E 59) (show 0 < gg by omega) _) (hF.sub (F' := [cRk n nn gg C, cOr n nn gg f]) [1, 2] rfl rfl)) ?_
        intro v hh hq
        obtain ⟨rfl, ehh⟩ := hq
        rw [ehh]
        clear ehh
        refine ar_iload_n 76 d_170_75 rfl rfl ?_
        refine ar_ishr 77 d_170_76 rfl ?_
        refine ar_iconst 78 (v := 1) d_170_77 rfl (by decide) ?_
        refine ar_iand 79 d_170_78 rfl ?_
        refine ar_if_eq 99 82 d_170_79 (by decide) rfl (fun c2 => ?_) (fun c2 => ?_)
        · have z := (bitz _ (show j < 32 by omega)).mp c2
          rw [show mof2 C (mof f C ((va_up (va_up E 1 sf) 65 hv) 4 14) nn (grp (E 59) gg a1 * nn) 0 0) = mof2 C (mof f C (E 4 14) nn (grp (E 59) gg a1 * nn) 0 0) from rfl, hb1] at z
          cases z
        · refine ar_aload_n 83 d_170_82 rfl rfl ?_
          refine ar_getf 86 d_170_83 rfl (ci := 0) (k := 4) rfl (hF.at 0 rfl) rfl ?_
          refine ar_getf 89 d_170_86 rfl (ci := 6) (k := 7) rfl (hF.at 12 rfl) rfl ?_
          refine ar_iload 91 d_170_89 rfl rfl ?_
          refine ar_iald 92 d_170_91 rfl (hF.at 19 rfl) (vin ha1 (by decide)) ?_
          refine ar_iload_n 93 d_170_92 rfl rfl ?_
          refine ar_ishr 94 d_170_93 rfl ?_
          refine ar_iconst 95 (v := 1) d_170_94 rfl (by decide) ?_
          refine ar_iand 96 d_170_95 rfl ?_
          refine ar_if_eq 105 99 d_170_96 (by decide) rfl (fun c3 => ?_) (fun c3 => ?_)
          · have hsm : ¬ (va_up (va_up E 1 sf) 65 hv) 65 a1 = 0 → ∀ p, p < nn * 280 → (va_up (va_up E 1 sf) 65 hv) 1 a1 = nI p → ∀ w, 1 ≤ w → w < 127 → D (p / 280) 2 (p % 280 * 128 + w) = D ((j * 280 + i) / 280) 2 ((j * 280 + i) % 280 * 128 + w) := fun z p hp ep w w1 w2 => by
              obtain ⟨m, s, m1, s1, e1, hw2, e2⟩ := (hH a1 ha1).2 z
              have : p = m * 280 + s := nI_inj (by omega) (by omega) (ep.symm.trans e1)
              rw [this, show (m * 280 + s) / 280 = m by omega, show (m * 280 + s) % 280 = s by omega, show (j * 280 + i) / 280 = j by omega, show (j * 280 + i) % 280 = i by omega]
              exact (hAU.2.1 m s j i m1 s1 hj hic hw2 hwi (e2.trans ea1.symm)).1 w w1 w2
            refine ar_aload_n 106 d_170_105 rfl rfl ?_
            refine ar_iload 108 d_170_106 rfl rfl ?_
            refine ar_iload_n 109 d_170_108 rfl rfl ?_
            refine ar_sipush 112 (v := 280) d_170_109 rfl (by decide) ?_
            refine ar_imul 113 d_170_112 rfl ?_
            refine ar_top (x' := nI (j * 280)) (pk_mul j 280) ?_
            refine ar_iload 115 d_170_113 rfl rfl ?_
            refine ar_iadd 116 d_170_115 rfl ?_
            refine ar_top (x' := nI (j * 280 + i)) (nI_add _ _) ?_
            refine ar_call (r := []) (na := 0) (kd := 0) (cm := 171) (fr2 := fr - 1) (lo2 := lo - 27) 119 d_170_116 (ar_hoV (as := [.int (nI a1), .int (nI (j * 280 + i))]) rfl rfl rfl (hF.at 0 rfl)) rfl (by omega) (show lo - 27 + (19 + 8) = lo by omega) (Nat.le_of_ble_eq_true rfl) (Nat.le_of_ble_eq_true rfl) (gx_171X (by omega) (by omega) hC0 hG0 hSk ha1 (show j * 280 + i < nn * 280 by omega) hsI hsm) ?_
            intro v hp_1 hq
            obtain ⟨y2, sf2, hv2, rfl, hS2, hs2, ey2, ehv2, esf2⟩ := hq
            rw [show (j * 280 + i) / 280 = j by omega] at ehv2
            have hH2 : HIv nn E D j (i + 1) sf2 hv2 := by
              rw [ehv2]
              exact hH.put hj hnn hic ha1 hwi ea1 esf2
            rw [va2] at hS2 hs2
            refine ar_if_ne 125 122 d_170_119 (by decide) rfl (fun c4 => ?_) (fun c4 => ?_)
            · refine ar_iinc 128 [(0, .ref s0), (1, .int (nI j)), (2, .ref (n + 329 + 22 * j + 1)), (3, .int wv), (4, .int (nI (i + 1))), (5, .int (nI a1))] d_170_125 rfl rfl (nI_1 i) (by decide) rfl ?_
              refine ar_goto 15 d_170_128 (by decide) ?_
              refine ar_wk [0, 1, 2, 3, 4] rfl (by simp) ?_
              exact ih (i + 1) _ hp_1 sf2 hv2 (by omega) hS2 hs2 hH2
            · exact absurd (by rw [ey2]; decide) c4
          · exfalso
            refine c3 ((bitz _ (show j < 32 by omega)).mpr ?_)
            rw [nI_clamp (by omega)]
            show bt (hv a1) j = false
            cases z : bt (hv a1) j with
            | false => rfl
            | true =>
              obtain ⟨s, s1, _, s3, s4, s5⟩ := ((hH a1 ha1).1 j (by omega)).mp z
              have := (hAU.2.1 j s j i hj s1 hj hic s4 hwi (s5.trans ea1.symm)).2 rfl
              omega
      · refine ar_call (r := []) (na := 0) (kd := 0) (cm := 20) (fr2 := fr - 1) (lo2 := lo - 23) 29 d_170_26 (ar_hoV (as := [.int (nI i)]) rfl rfl rfl (hf.g ((hG0 j hj).1.at 1 rfl) (by unfold ASA NTA; omega))) rfl (by omega) (show lo - 23 + (19 + 4) = lo by omega) (Nat.le_of_ble_eq_true rfl) (Nat.le_of_ble_eq_true rfl) (c_20F hic hwi (((hG0 j hj).1.fr hf (NWf (fun x hx z => by unfold ASA NTA at z; omega))).sub (F' := [cDk (n + 329 + 22 * j) (D j), cAr (n + 329 + 22 * j) 2 35840 (D j)]) [1, 2] rfl rfl)) ?_
        intro v hh hq
        obtain ⟨rfl, ehh⟩ := hq
        rw [ehh]
        clear ehh
        refine ar_if_eq 125 32 d_170_29 (by decide) rfl (fun _ => ?_) (fun c => absurd (by decide) c)
        refine ar_iinc 128 [(0, .ref s0), (1, .int (nI j)), (2, .ref (n + 329 + 22 * j + 1)), (3, .int wv), (4, .int (nI (i + 1)))] d_170_125 rfl rfl (nI_1 i) (by decide) rfl ?_
        refine ar_goto 15 d_170_128 (by decide) ?_
        exact ih (i + 1) _ h sf hv (by omega) hSk hsI (hH.skip hwi)
  show ax_A (ax_step L xs) ((170, 0, fr, lo), [(0, .ref s0), (1, .int (nI j))], [], h) _
  have hSk := hS
  obtain ⟨hF, hA, hN, hf, hn, hs, hp0⟩ := hS
  replace hF : ax_hs h [cSt s0 n E, cRk n nn gg C, cOr n nn gg f, cAs n E, cEr n 5 512 E, cEr n 6 100 E, cEr n 7 2 E, cAk n, cEr n 9 512 E, cNa n nn, cEr n 0 48 E, cEr n 1 961 E, cTs n gg E TK, cEr n 59 48 E, cEr n 60 48 E, cEr n 61 48 E, cEr n 62 2400 E, cEr n 63 512 E, cEr n 64 961 E, cEr n 65 961 E] := hF
  refine ar_aload_n 1 d_170_0 rfl rfl ?_
  refine ar_getf 4 d_170_1 rfl (ci := 0) (k := 3) rfl (hF.at 0 rfl) rfl ?_
  refine ar_iload_n 5 d_170_4 rfl rfl ?_
  refine ar_aald 6 d_170_5 rfl (hF.at 9 rfl) rfl (vin hj (by omega)) ?_
  refine ar_tv (v' := .ref (n + 329 + 22 * j)) (ndr hnn hj) ?_
  refine ar_getf 9 d_170_6 rfl (ci := 7) (k := 3) rfl (hf.g ((hG0 j hj).1.at 0 rfl) (by unfold ASA NTA; omega)) rfl ?_
  refine ar_astore_n 10 [(0, .ref s0), (1, .int (nI j)), (2, .ref (n + 329 + 22 * j + 1))] d_170_9 rfl (by decide) rfl ?_
  refine ar_iconst 11 (v := 0) d_170_10 rfl (by decide) ?_
  refine ar_istore_n 12 [(0, .ref s0), (1, .int (nI j)), (2, .ref (n + 329 + 22 * j + 1)), (3, .int 0)] d_170_11 rfl (by decide) rfl ?_
  refine ar_iconst 13 (v := 0) d_170_12 rfl (by decide) ?_
  refine ar_istore 15 [(0, .ref s0), (1, .int (nI j)), (2, .ref (n + 329 + 22 * j + 1)), (3, .int 0), (4, .int 0)] d_170_13 rfl (by decide) rfl ?_
  have eid : va_up (va_up E 1 (E 1)) 65 (E 65) = E := by rw [show va_up E 1 (E 1) = E from va_up_sf, show va_up E 65 (E 65) = E from va_up_sf]
  exact key 280 0 _ h (E 1) (E 65) (by omega) (by rw [eid]; exact hSk) (by rw [eid]; exact hsI) hH
set_option maxRecDepth 100000 in
theorem g_169X {L : Nat} {xs : Nat → Int32} {fr lo : Nat} {s0 n nn gg : Nat} {C : Int32} {f : Nat → Int32} {q : Nat} {u b : Nat → Int32} {h0 h : ax_H} {Z : ZT} {D : Nat → Nat → Nat → Int32} {K A : Nat → Int64} {E : Nat → Nat → Int32} {TK : Int64} {Q : Nat → Mg} {ms : List Mg}  (hfr : 3 ≤ fr) (hlo : 130 ≤ lo) (hC : CG s0 n nn gg f) (hG : GS Z s0 n nn gg C f q u b h0 h E TK Q ms D K A) (hAU : ¬ E 100 10 = 0 → AUD nn gg C f E D) : ax_M L xs 169 fr lo [.ref s0] h (fun r h' => ∃ (y : Int32) (sf hv : Nat → Int32), r = some (.int y) ∧ GS Z s0 n nn gg C f q u b h0 h' (va_up (va_up E 1 sf) 65 hv) TK Q ms D K A ∧ y = (if E 100 10 = 0 then -6 else 0)) := by
  have hC0 := hC
  obtain ⟨hs0, hsn, hnn3, hnn, hgg1, hgg, hRg⟩ := hC
  obtain ⟨hS, hG0, hM, hE, hK, hz⟩ := hG
  generalize ehb : h = hb at hS hG0 hz ⊢
  have key : AUD nn gg C f E D → ∀ (k i : Nat) (wv : Int32) (h : ax_H) (sf hv : Nat → Int32), i + k = 961 → AS s0 n nn gg C f q u b hb h (va_up (va_up E 1 sf) 65 hv) TK Q ms → HIv nn E D nn 0 sf hv → ax_A (ax_step L xs) ((169, 50, fr, lo), [(0, .ref s0), (1, .int wv), (2, .int (nI i))], [], h) (fun r h' => ∃ (y : Int32) (sf hv : Nat → Int32), r = some (.int y) ∧ GS Z s0 n nn gg C f q u b h0 h' (va_up (va_up E 1 sf) 65 hv) TK Q ms D K A ∧ y = wv) := by
    intro hAU k
    induction k with
    | zero =>
      intro i wv h sf hv hi hS hH
      have e0 : 961 = i := by omega
      subst e0
      have hSk := hS
      obtain ⟨hF, hA, hN, hf, hn, hs, hp0⟩ := hS
      replace hF : ax_hs h [cSt s0 n (va_up (va_up E 1 sf) 65 hv), cRk n nn gg C, cOr n nn gg f, cAs n (va_up (va_up E 1 sf) 65 hv), cEr n 5 512 (va_up (va_up E 1 sf) 65 hv), cEr n 6 100 (va_up (va_up E 1 sf) 65 hv), cEr n 7 2 (va_up (va_up E 1 sf) 65 hv), cAk n, cEr n 9 512 (va_up (va_up E 1 sf) 65 hv), cNa n nn, cEr n 0 48 (va_up (va_up E 1 sf) 65 hv), cEr n 1 961 (va_up (va_up E 1 sf) 65 hv), cTs n gg (va_up (va_up E 1 sf) 65 hv) TK, cEr n 59 48 (va_up (va_up E 1 sf) 65 hv), cEr n 60 48 (va_up (va_up E 1 sf) 65 hv), cEr n 61 48 (va_up (va_up E 1 sf) 65 hv), cEr n 62 2400 (va_up (va_up E 1 sf) 65 hv), cEr n 63 512 (va_up (va_up E 1 sf) 65 hv), cEr n 64 961 (va_up (va_up E 1 sf) 65 hv), cEr n 65 961 (va_up (va_up E 1 sf) 65 hv)] := hF
      refine ar_iload_n 51 d_169_50 rfl rfl ?_
      refine ar_sipush 54 (v := 961) d_169_51 rfl (by decide) ?_
      refine ar_icmp_ge 98 57 d_169_54 (by decide) rfl (fun _ => ?_) (fun c => absurd (Int32.le_refl _) c)
      refine ar_iload_n 99 d_169_98 rfl rfl ?_
      exact ar_iret d_169_99 rfl rfl (⟨_, sf, hv, rfl, GS.as hsn hz hG0 hSk hM (hE.f4 rfl rfl rfl rfl hE.lens.1 hE.lens.2) hK, rfl⟩)
    | succ k ih =>
      intro i wv h sf hv hi hS hH
      have hic : i < 961 := by omega
      have hSk := hS
      obtain ⟨hF, hA, hN, hf, hn, hs, hp0⟩ := hS
      replace hF : ax_hs h [cSt s0 n (va_up (va_up E 1 sf) 65 hv), cRk n nn gg C, cOr n nn gg f, cAs n (va_up (va_up E 1 sf) 65 hv), cEr n 5 512 (va_up (va_up E 1 sf) 65 hv), cEr n 6 100 (va_up (va_up E 1 sf) 65 hv), cEr n 7 2 (va_up (va_up E 1 sf) 65 hv), cAk n, cEr n 9 512 (va_up (va_up E 1 sf) 65 hv), cNa n nn, cEr n 0 48 (va_up (va_up E 1 sf) 65 hv), cEr n 1 961 (va_up (va_up E 1 sf) 65 hv), cTs n gg (va_up (va_up E 1 sf) 65 hv) TK, cEr n 59 48 (va_up (va_up E 1 sf) 65 hv), cEr n 60 48 (va_up (va_up E 1 sf) 65 hv), cEr n 61 48 (va_up (va_up E 1 sf) 65 hv), cEr n 62 2400 (va_up (va_up E 1 sf) 65 hv), cEr n 63 512 (va_up (va_up E 1 sf) 65 hv), cEr n 64 961 (va_up (va_up E 1 sf) 65 hv), cEr n 65 961 (va_up (va_up E 1 sf) 65 hv)] := hF
      refine ar_iload_n 51 d_169_50 rfl rfl ?_
      refine ar_sipush 54 (v := 961) d_169_51 rfl (by decide) ?_
      refine ar_icmp_ge 98 57 d_169_54 (by decide) rfl (fun c => absurd c (nI_ge hic (by decide))) (fun _ => ?_)
      refine ar_aload_n 58 d_169_57 rfl rfl ?_
      refine ar_getf 61 d_169_58 rfl (ci := 0) (k := 4) rfl (hF.at 0 rfl) rfl ?_
      refine ar_getf 64 d_169_61 rfl (ci := 6) (k := 6) rfl (hF.at 12 rfl) rfl ?_
      refine ar_iload_n 65 d_169_64 rfl rfl ?_
      refine ar_iald 66 d_169_65 rfl (hF.at 18 rfl) (vin (by omega) (by omega)) ?_
      refine ar_if_lt 92 69 d_169_66 (by decide) rfl (fun c1 => ?_) (fun c1 => ?_)
      · refine ar_iinc 95 [(0, .ref s0), (1, .int wv), (2, .int (nI (i + 1)))] d_169_92 rfl rfl (nI_1 i) (by decide) rfl ?_
        refine ar_goto 50 d_169_95 (by decide) ?_
        exact ih (i + 1) _ h sf hv (by omega) hSk hH
      · refine ar_iload_n 70 d_169_69 rfl rfl ?_
        refine ar_aload_n 71 d_169_70 rfl rfl ?_
        refine ar_getf 74 d_169_71 rfl (ci := 0) (k := 0) rfl (hF.at 0 rfl) rfl ?_
        refine ar_getf 77 d_169_74 rfl (ci := 3) (k := 1) rfl (hF.at 1 rfl) rfl ?_
        refine ar_aload_n 78 d_169_77 rfl rfl ?_
        refine ar_getf 81 d_169_78 rfl (ci := 0) (k := 4) rfl (hF.at 0 rfl) rfl ?_
        refine ar_getf 84 d_169_81 rfl (ci := 6) (k := 7) rfl (hF.at 12 rfl) rfl ?_
        refine ar_iload_n 85 d_169_84 rfl rfl ?_
        refine ar_iald 86 d_169_85 rfl (hF.at 19 rfl) (vin (by omega) (by omega)) ?_
        refine ar_call (r := [.int C, .int wv]) (na := 0) (kd := 0) (cm := 140) (fr2 := fr - 1) (lo2 := lo - 20) 89 d_169_86 (ar_hoS (as := [.int (((va_up (va_up E 1 sf) 65 hv) 65) (nI i).toNatClampNeg)]) rfl rfl rfl) rfl (by omega) (show lo - 20 + (19 + 1) = lo by omega) (Nat.le_of_ble_eq_true rfl) (Nat.le_of_ble_eq_true rfl) (c_140E) ?_
        intro v hh hq
        obtain ⟨rfl, ehh⟩ := hq
        rw [ehh]
        clear ehh
        refine ar_isub 90 d_169_89 rfl ?_
        refine ar_iadd 91 d_169_90 rfl ?_
        refine ar_top (x' := wv) (by
          rw [nI_clamp (by omega)] at c1 ⊢
          have := hAU.2.2 i hic c1 (hv i) (fun m hm => by
            rw [(hH i hic).1 m hm]
            exact ⟨fun ⟨s, s1, s2, _, s4⟩ => ⟨s, s1, s2, s4⟩, fun ⟨s, s1, s2, s4⟩ => ⟨s, s1, s2, Or.inl s2, s4⟩⟩)
          show wv + (C - bcI (hv i)) = wv
          rw [this]; exact Int32.add_zero wv) ?_
        refine ar_istore_n 92 [(0, .ref s0), (1, .int wv), (2, .int (nI i))] d_169_91 rfl (by decide) rfl ?_
        refine ar_iinc 95 [(0, .ref s0), (1, .int wv), (2, .int (nI (i + 1)))] d_169_92 rfl rfl (nI_1 i) (by decide) rfl ?_
        refine ar_goto 50 d_169_95 (by decide) ?_
        exact ih (i + 1) _ h sf hv (by omega) hSk hH
  have key2 : AUD nn gg C f E D → ∀ (k i : Nat) (wv : Int32) (h : ax_H) (sf hv : Nat → Int32), i + k = nn → AS s0 n nn gg C f q u b hb h (va_up (va_up E 1 sf) 65 hv) TK Q ms → seenI nn (va_up (va_up E 1 sf) 65 hv) → HIv nn E D i 0 sf hv → ax_A (ax_step L xs) ((169, 25, fr, lo), [(0, .ref s0), (1, .int wv), (2, .int (nI i))], [], h) (fun r h' => ∃ (y : Int32) (sf hv : Nat → Int32), r = some (.int y) ∧ GS Z s0 n nn gg C f q u b h0 h' (va_up (va_up E 1 sf) 65 hv) TK Q ms D K A ∧ y = wv) := by
    intro hAU k
    induction k with
    | zero =>
      intro i wv h sf hv hi hS hsI hH
      have e0 : nn = i := by omega
      subst e0
      have hSk := hS
      obtain ⟨hF, hA, hN, hf, hn, hs, hp0⟩ := hS
      replace hF : ax_hs h [cSt s0 n (va_up (va_up E 1 sf) 65 hv), cRk n nn gg C, cOr n nn gg f, cAs n (va_up (va_up E 1 sf) 65 hv), cEr n 5 512 (va_up (va_up E 1 sf) 65 hv), cEr n 6 100 (va_up (va_up E 1 sf) 65 hv), cEr n 7 2 (va_up (va_up E 1 sf) 65 hv), cAk n, cEr n 9 512 (va_up (va_up E 1 sf) 65 hv), cNa n nn, cEr n 0 48 (va_up (va_up E 1 sf) 65 hv), cEr n 1 961 (va_up (va_up E 1 sf) 65 hv), cTs n gg (va_up (va_up E 1 sf) 65 hv) TK, cEr n 59 48 (va_up (va_up E 1 sf) 65 hv), cEr n 60 48 (va_up (va_up E 1 sf) 65 hv), cEr n 61 48 (va_up (va_up E 1 sf) 65 hv), cEr n 62 2400 (va_up (va_up E 1 sf) 65 hv), cEr n 63 512 (va_up (va_up E 1 sf) 65 hv), cEr n 64 961 (va_up (va_up E 1 sf) 65 hv), cEr n 65 961 (va_up (va_up E 1 sf) 65 hv)] := hF
      refine ar_iload_n 26 d_169_25 rfl rfl ?_
      refine ar_aload_n 27 d_169_26 rfl rfl ?_
      refine ar_getf 30 d_169_27 rfl (ci := 0) (k := 3) rfl (hF.at 0 rfl) rfl ?_
      refine ar_alen 31 d_169_30 rfl (hF.at 9 rfl) (by decide) ?_
      refine ar_icmp_ge 48 34 d_169_31 (by decide) rfl (fun _ => ?_) (fun c => absurd (Int32.le_refl _) c)
      refine ar_iconst 49 (v := 0) d_169_48 rfl (by decide) ?_
      refine ar_istore_n 50 [(0, .ref s0), (1, .int wv), (2, .int 0)] d_169_49 rfl (by decide) rfl ?_
      exact key hAU 961 0 _ h sf hv (by omega) hSk hH
    | succ k ih =>
      intro i wv h sf hv hi hS hsI hH
      have hic : i < nn := by omega
      have hSk := hS
      obtain ⟨hF, hA, hN, hf, hn, hs, hp0⟩ := hS
      replace hF : ax_hs h [cSt s0 n (va_up (va_up E 1 sf) 65 hv), cRk n nn gg C, cOr n nn gg f, cAs n (va_up (va_up E 1 sf) 65 hv), cEr n 5 512 (va_up (va_up E 1 sf) 65 hv), cEr n 6 100 (va_up (va_up E 1 sf) 65 hv), cEr n 7 2 (va_up (va_up E 1 sf) 65 hv), cAk n, cEr n 9 512 (va_up (va_up E 1 sf) 65 hv), cNa n nn, cEr n 0 48 (va_up (va_up E 1 sf) 65 hv), cEr n 1 961 (va_up (va_up E 1 sf) 65 hv), cTs n gg (va_up (va_up E 1 sf) 65 hv) TK, cEr n 59 48 (va_up (va_up E 1 sf) 65 hv), cEr n 60 48 (va_up (va_up E 1 sf) 65 hv), cEr n 61 48 (va_up (va_up E 1 sf) 65 hv), cEr n 62 2400 (va_up (va_up E 1 sf) 65 hv), cEr n 63 512 (va_up (va_up E 1 sf) 65 hv), cEr n 64 961 (va_up (va_up E 1 sf) 65 hv), cEr n 65 961 (va_up (va_up E 1 sf) 65 hv)] := hF
      refine ar_iload_n 26 d_169_25 rfl rfl ?_
      refine ar_aload_n 27 d_169_26 rfl rfl ?_
      refine ar_getf 30 d_169_27 rfl (ci := 0) (k := 3) rfl (hF.at 0 rfl) rfl ?_
      refine ar_alen 31 d_169_30 rfl (hF.at 9 rfl) (by decide) ?_
      refine ar_icmp_ge 48 34 d_169_31 (by decide) rfl (fun c => absurd c (nI_ge hic (by omega))) (fun _ => ?_)
      refine ar_iload_n 35 d_169_34 rfl rfl ?_
      refine ar_aload_n 36 d_169_35 rfl rfl ?_
      refine ar_iload_n 37 d_169_36 rfl rfl ?_
      refine ar_call (r := [.int wv]) (na := 0) (kd := 0) (cm := 170) (fr2 := fr - 1) (lo2 := lo - 25) 40 d_169_37 (ar_hoV (as := [.int (nI i)]) rfl rfl rfl (hF.at 0 rfl)) rfl (by omega) (show lo - 25 + (19 + 6) = lo by omega) (Nat.le_of_ble_eq_true rfl) (Nat.le_of_ble_eq_true rfl) (gx_170X (by omega) (by omega) hC0 hG0 hSk hic hsI hK.1 hAU hH) ?_
      intro v hp_1 hq
      obtain ⟨y2, sf2, hv2, rfl, hS2, hs2, ey2, hH2⟩ := hq
      rw [va2] at hS2 hs2
      refine ar_iadd 41 d_169_40 rfl ?_
      refine ar_top (x' := wv) (by rw [ey2]; exact Int32.add_zero wv) ?_
      refine ar_istore_n 42 [(0, .ref s0), (1, .int wv), (2, .int (nI i))] d_169_41 rfl (by decide) rfl ?_
      refine ar_iinc 45 [(0, .ref s0), (1, .int wv), (2, .int (nI (i + 1)))] d_169_42 rfl rfl (nI_1 i) (by decide) rfl ?_
      refine ar_goto 25 d_169_45 (by decide) ?_
      exact ih (i + 1) _ hp_1 sf2 hv2 (by omega) hS2 hs2 hH2.next
  show ax_A (ax_step L xs) ((169, 0, fr, lo), [(0, .ref s0)], [], hb) _
  have hSk := hS
  obtain ⟨hF, hA, hN, hf, hn, hs, hp0⟩ := hS
  replace hF : ax_hs hb [cSt s0 n E, cRk n nn gg C, cOr n nn gg f, cAs n E, cEr n 5 512 E, cEr n 6 100 E, cEr n 7 2 E, cAk n, cEr n 9 512 E, cNa n nn, cEr n 0 48 E, cEr n 1 961 E, cTs n gg E TK, cEr n 59 48 E, cEr n 60 48 E, cEr n 61 48 E, cEr n 62 2400 E, cEr n 63 512 E, cEr n 64 961 E, cEr n 65 961 E] := hF
  refine ar_aload_n 1 d_169_0 rfl rfl ?_
  refine ar_getf 4 d_169_1 rfl (ci := 0) (k := 10) rfl (hF.at 0 rfl) rfl ?_
  refine ar_if_ne 10 7 d_169_4 (by decide) rfl (fun c1 => ?_) (fun c1 => ?_)
  · refine ar_aload_n 11 d_169_10 rfl rfl ?_
    refine ar_getf 14 d_169_11 rfl (ci := 0) (k := 4) rfl (hF.at 0 rfl) rfl ?_
    refine ar_getf 17 d_169_14 rfl (ci := 6) (k := 7) rfl (hF.at 12 rfl) rfl ?_
    refine ar_iconst 18 (v := 0) d_169_17 rfl (by decide) ?_
    refine ar_call (r := []) (na := 0) (kd := 0) (cm := 13) (fr2 := fr - 1) (lo2 := lo - 23) 21 d_169_18 (ar_hoS (as := [.ref (n + 327), .int 0]) rfl rfl rfl) rfl (by omega) (show lo - 23 + (19 + 4) = lo by omega) (Nat.le_of_ble_eq_true rfl) (Nat.le_of_ble_eq_true rfl) (c_13 (hF.at 19 rfl) (by decide)) ?_
    intro v hh hq
    obtain ⟨rfl, rfl⟩ := hq
    replace hF : ax_hs (ax_put hb (n + 327) (.inl (0, 961, .inl (ax_fill (E 65) 0 961 0)))) [cSt s0 n E, cRk n nn gg C, cOr n nn gg f, cAs n E, cEr n 5 512 E, cEr n 6 100 E, cEr n 7 2 E, cAk n, cEr n 9 512 E, cNa n nn, cEr n 0 48 E, cEr n 1 961 E, cTs n gg E TK, cEr n 59 48 E, cEr n 60 48 E, cEr n 61 48 E, cEr n 62 2400 E, cEr n 63 512 E, cEr n 64 961 E, (n + 327, .inl (0, 961, .inl (ax_fill (E 65) 0 961 0)))] := hF.put 19 _ rfl rfl
    replace hf := hf.put (a := n + 327) (c := .inl (0, 961, .inl (ax_fill (E 65) 0 961 0))) (Or.inr (by omega))
    replace hN := hN.put (a := n + 327) (c := .inl (0, 961, .inl (ax_fill (E 65) 0 961 0))) (by omega)
    replace hA := hA.put (a := n + 327) (c := .inl (0, 961, .inl (ax_fill (E 65) 0 961 0))) (by omega)
    replace hn : (ax_put hb (n + 327) (.inl (0, 961, .inl (ax_fill (E 65) 0 961 0)))).1 = hb.1 := hn
    replace hs : (ax_put hb (n + 327) (.inl (0, 961, .inl (ax_fill (E 65) 0 961 0)))).2.1 = hb.2.1 := hs
    generalize ax_put hb (n + 327) (.inl (0, 961, .inl (ax_fill (E 65) 0 961 0))) = hp_1 at hF hf hA hN hn hs ⊢
    refine ar_iconst 22 (v := 0) d_169_21 rfl (by decide) ?_
    refine ar_istore_n 23 [(0, .ref s0), (1, .int 0)] d_169_22 rfl (by decide) rfl ?_
    refine ar_iconst 24 (v := 0) d_169_23 rfl (by decide) ?_
    refine ar_istore_n 25 [(0, .ref s0), (1, .int 0), (2, .int 0)] d_169_24 rfl (by decide) rfl ?_
    have hS1 : AS s0 n nn gg C f q u b hb hp_1 (va_up E 65 (ax_fill (E 65) 0 961 0)) TK Q ms := ⟨hF, hA, hN, hf, hn, hs, hp0⟩
    have hS2 : AS s0 n nn gg C f q u b hb hp_1 (va_up (va_up E 1 (E 1)) 65 (ax_fill (E 65) 0 961 0)) TK Q ms := by
      rw [show va_up E 1 (E 1) = E from va_up_sf]
      exact hS1
    refine ax_A.post (key2 (hAU c1) nn 0 _ hp_1 (E 1) _ (by omega) hS2 (fun x hx z => absurd (show ax_fill (E 65) 0 961 0 x = 0 from if_pos ⟨by omega, hx⟩) z) (fun a ha => ⟨fun m hm => ?_, fun z => absurd (ax_fill_in _ _ (Nat.zero_le _) ha) z⟩)) (fun r h' hq => ?_)
    · rw [ax_fill_in _ _ (Nat.zero_le _) ha, b_0]
      exact ⟨(fun z => by cases z), fun ⟨s, _, _, s3, _⟩ => by omega⟩
    · obtain ⟨y, sf, hv, q1, q2, q3⟩ := hq
      exact ⟨y, sf, hv, q1, q2, by rw [if_neg c1]; exact q3⟩
  · refine ar_bipush 9 (v := -6) d_169_7 rfl (by decide) ?_
    have eid : va_up (va_up E 1 (E 1)) 65 (E 65) = E := by rw [show va_up E 1 (E 1) = E from va_up_sf, show va_up E 65 (E 65) = E from va_up_sf]
    exact ar_iret d_169_9 rfl rfl (⟨_, E 1, E 65, rfl, by rw [eid]; exact GS.as hsn hz hG0 hSk hM hE hK, by rw [if_pos (Decidable.not_not.mp c1)]⟩)

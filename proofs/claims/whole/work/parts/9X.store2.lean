/-! the store for every state: handing over a MESSAGE, a TICK, crash, restart, map, replace .. -/

theorem va_cpy_lo {f g : Nat → Int32} {s d n k : Nat} (h : k < d) : va_cpy f g s d n k = g k := by
  unfold va_cpy
  rw [if_neg (by omega)]
theorem EI.hear {Z : ZT} {E : Nat → Nat → Int32} {Q : Nat → Mg} {u b : Nat → Int32} {he bg : Nat} {k v : Int32} (h : EI Z E Q) (e9 : E 4 9 = nI he) (e8 : E 4 8 = nI bg) (hlt : he < bg) (hb : bg ≤ 512) (h7 : inR 2049 (u 7)) : EI Z (heE E k he v) (va_up Q (he % 24) (heQ (Q (he % 24)) u b)) := by
  obtain ⟨bg', he', se, si, ⟨a1, a2, a3, a4⟩, ⟨b1, b2, b3, b4, b5, b6⟩, c, d, e, g⟩ := h
  have q1 : bg = bg' := nI_inj (by omega) (by omega) (e8.symm.trans a1)
  subst q1
  have q2 : he = he' := nI_inj (by omega) (by omega) (e9.symm.trans a2)
  subst q2
  have f4 : ∀ k', ¬ k' = 9 → ¬ k' = 12 → heE E k he v 4 k' = E 4 k' := by
    intro k' n1 n2
    unfold heE
    rw [va_up_n _ _ (by decide), va_up_s]
    split
    · exact if_neg n1
    · show (if k' = 12 then _ else upd (E 4) 9 _ k') = _
      rw [if_neg n2]
      exact if_neg n1
  refine ⟨bg, he + 1, se, si, ⟨(f4 8 (by decide) (by decide)).trans a1, heE_9, (f4 10 (by decide) (by decide)).trans a3, (f4 11 (by decide) (by decide)).trans a4⟩, ⟨b1, b2, by omega, by omega, b5, b6⟩, ⟨by rw [f4 3 (by decide) (by decide)]; exact c.1, c.2⟩, fun o h1 h2 => ?_, fun j hj => ?_, g⟩
  · have hne : ¬ o % 24 = he % 24 := by omega
    rw [va_up_n _ _ hne]
    exact d o (by omega) h2
  · by_cases z : j = he % 24
    · subst z
      rw [va_up_s]
      exact h7
    · rw [va_up_n _ _ z]
      exact e j hj
theorem EI.f4 {Z : ZT} {E E' : Nat → Nat → Int32} {Q : Nat → Mg} (h : EI Z E Q) (e8 : E' 4 8 = E 4 8) (e9 : E' 4 9 = E 4 9) (e10 : E' 4 10 = E 4 10) (e11 : E' 4 11 = E 4 11) (e3 : inR 2049 (E' 4 3)) (e7 : inR 201 (E' 7 0) ∧ inR 201 (E' 7 1)) : EI Z E' Q := by
  obtain ⟨bg, he, se, si, ⟨a1, a2, a3, a4⟩, b, c, d⟩ := h
  exact ⟨bg, he, se, si, ⟨e8.trans a1, e9.trans a2, e10.trans a3, e11.trans a4⟩, b, ⟨e3, e7⟩, d⟩
theorem EI.len {Z : ZT} {E : Nat → Nat → Int32} {Q : Nat → Mg} (h : EI Z E Q) : ∃ l : Nat, l ≤ 2048 ∧ E 4 3 = nI l := by
  obtain ⟨bg, he, se, si, a, b, ⟨⟨l, hl, e⟩, -⟩, d⟩ := h
  exact ⟨l, by omega, e⟩
theorem EI.lens {Z : ZT} {E : Nat → Nat → Int32} {Q : Nat → Mg} (h : EI Z E Q) : inR 2049 (E 4 3) ∧ inR 201 (E 7 0) ∧ inR 201 (E 7 1) := by
  obtain ⟨bg, he, se, si, a, b, c, d⟩ := h
  exact c
theorem EI.pub {Z : ZT} {E : Nat → Nat → Int32} {Q : Nat → Mg} (h : EI Z E Q) (hd : ¬ E 4 9 < E 4 8) : EI Z (pbE E) Q := by
  obtain ⟨bg, he, se, si, ⟨a1, a2, a3, a4⟩, ⟨b1, b2, b3, b4, b5, b6⟩, c, d, e, g⟩ := h
  have hh : bg ≤ he := Nat.le_of_not_lt (fun z => hd (by rw [a1, a2]; exact nI_lt z (by omega)))
  exact ⟨bg, he, bg, se, ⟨a1, a2, a1, a3⟩, ⟨by omega, by omega, by omega, by omega, by omega, b6⟩, c, fun o h1 h2 => absurd h1 (by omega), e, g⟩
/-- what an askNext puts under way -/
theorem askR.mi {Z : ZT} {nn : Nat} {f : Nat → Int32} {E : Nat → Nat → Int32} {Q : Nat → Mg} {ms ms' : List Mg} (hr : askR nn f E Q ms ms') (hE : EI Z E Q) (hM : ∀ x ∈ ms, MI Z x) : ∀ x ∈ ms', MI Z x := by
  rcases hr with ⟨-, rfl⟩ | ⟨h1, h2, bm, rfl⟩
  · exact hM
  · obtain ⟨bg, he, se, si, ⟨a1, a2, a3, a4⟩, ⟨b1, b2, b3, b4, b5, b6⟩, c, d, e, g⟩ := hE
    have hlt : he < bg := Nat.lt_of_le_of_ne b4 (fun z => h1 (by rw [a1, a2, z]))
    obtain ⟨d1, d2⟩ := d he (Nat.le_refl _) hlt
    rw [a2, nI_clamp (show he < 2 ^ 31 by omega)]
    obtain ⟨l, hl, el⟩ := d1.2.2.2.2.2
    refine pst_mem hM (MI.ask rfl ?_ ?_)
    · have key : ∀ k, k < 5 → va_cpy (Q (he % 24)).2 (upd (upd (upd (upd (upd bm 0 ((Q (he % 24)).1 0)) 1 ((Q (he % 24)).1 1)) 2 ((Q (he % 24)).1 2)) 3 ((Q (he % 24)).1 3)) 4 ((Q (he % 24)).1 4)) 0 5 (100 + (((Q (he % 24)).1 5).toNatClampNeg + 3) / 4) k = (upd (upd (upd (upd (upd bm 0 ((Q (he % 24)).1 0)) 1 ((Q (he % 24)).1 1)) 2 ((Q (he % 24)).1 2)) 3 ((Q (he % 24)).1 3)) 4 ((Q (he % 24)).1 4)) k := fun k hk => va_cpy_lo (by omega)
      show AQ (va_cpy _ _ _ _ _ 0) (va_cpy _ _ _ _ _ 1) (va_cpy _ _ _ _ _ 2) (va_cpy _ _ _ _ _ 3) (va_cpy _ _ _ _ _ 4) _
      rw [key 0 (by decide), key 1 (by decide), key 2 (by decide), key 3 (by decide), key 4 (by decide)]
      exact d1
    · show opC Z _ (va_cpy _ _ _ _ _ 0)
      rw [va_cpy_lo (by decide)]
      exact d2
theorem tmR.mi {Z : ZT} {nn : Nat} {mh ep st : Int32} : ∀ {k i : Nat} {ms ms' : List Mg}, tmR nn mh ep st k i ms ms' → (∀ x ∈ ms, MI Z x) → ∀ x ∈ ms', MI Z x := by
  intro k
  induction k with
  | zero =>
    intro i ms ms' hr hM
    have hr : ms' = ms := hr
    rw [hr]
    exact hM
  | succ k ih =>
    intro i ms ms' hr hM
    rcases hr with ⟨-, bm, hr⟩ | ⟨-, hr⟩
    · exact ih hr (pst_mem hM (MI.head (Or.inl rfl)))
    · exact ih hr hM
def GR (nn : Nat) (D D' : Nat → Nat → Nat → Int32) : Prop := ∀ j, j < nn → D' j 0 6 = D j 0 6
def GP (Z : ZT) (s0 n nn gg : Nat) (C : Int32) (f : Nat → Int32) (q : Nat) (u b : Nat → Int32) (h0 h : ax_H) (E : Nat → Nat → Int32) (TK : Int64) (D : Nat → Nat → Nat → Int32) (Rl : SS → Prop) : Prop := ∃ (E' : Nat → Nat → Int32) (Q' : Nat → Mg) (ms' : List Mg) (D' : Nat → Nat → Nat → Int32) (K' A' : Nat → Int64), GS Z s0 n nn gg C f q u b h0 h E' TK Q' ms' D' K' A' ∧ GR nn D D' ∧ E' 100 = E 100 ∧ Rl (E', Q', ms', D', K', A')
theorem upk {D : Nat → Nat → Nat → Int32} {D' : Nat → Nat → Int32} {i j : Nat} (h : D' 0 6 = D j 0 6) : va_up D j D' i 0 6 = D i 0 6 := by
  by_cases e : i = j
  · subst e
    rw [va_up_s]
    exact h
  · rw [va_up_n _ _ e]
set_option maxRecDepth 100000 in
theorem g_52 {L : Nat} {xs : Nat → Int32} {fr lo : Nat} {s0 n nn gg : Nat} {C : Int32} {f : Nat → Int32} {q : Nat} {u b : Nat → Int32} {h0 h : ax_H} {Z : ZT} {D : Nat → Nat → Nat → Int32} {K A : Nat → Int64} {E : Nat → Nat → Int32} {TK : Int64} {Q : Nat → Mg} {ms : List Mg}  (hfr : 9 ≤ fr) (hlo : 300 ≤ lo) (hC : CG s0 n nn gg f) (hG : GS Z s0 n nn gg C f q u b h0 h E TK Q ms D K A) (hu : MI Z (u, b)) : ax_M L xs 52 fr lo [.ref s0, .ref (n + 1 + 1 + 2 * q)] h (fun r h' => r = none ∧ GP Z s0 n nn gg C f q u b h0 h' E TK D (hoR nn gg C f (u, b) (E, Q, ms, D, K, A))) := by
  have hC0 := hC
  show ax_A (ax_step L xs) ((52, 0, fr, lo), [(0, .ref s0), (1, .ref (n + 1 + 1 + 2 * q))], [], h) _
  obtain ⟨hs0, hsn, hnn3, hnn, hgg1, hgg, hRg⟩ := hC
  have hGG := hG
  obtain ⟨hS, hG0, hM, hE, hK, hz⟩ := hG
  have hM0 := hM
  obtain ⟨hF, hA, hN, hf, hn, hs, hp0⟩ := hS
  replace hF : ax_hs h [cSt s0 n E, cRk n nn gg C, cOr n nn gg f, cAs n E, cEr n 5 512 E, cEr n 6 100 E, cEr n 7 2 E, cAk n, cEr n 9 512 E, cNa n nn, cEr n 0 48 E, cEr n 1 961 E, cTs n gg E TK, cEr n 59 48 E, cEr n 60 48 E, cEr n 61 48 E, cEr n 62 2400 E, cEr n 63 512 E, cEr n 64 961 E, cEr n 65 961 E] := hF
  obtain ⟨bg, he, se, si, ⟨a1, a2, a3, a4⟩, ⟨b1, b2, b3, b4, b5, b6⟩, c, d, e, g⟩ := hE
  have hE : EI Z E Q := ⟨bg, he, se, si, ⟨a1, a2, a3, a4⟩, ⟨b1, b2, b3, b4, b5, b6⟩, c, d, e, g⟩
  refine ar_aload_n 1 d_52_0 rfl rfl ?_
  refine ar_getf 4 d_52_1 rfl (ci := 2) (k := 2) rfl hN.mgc rfl ?_
  refine ar_aload_n 5 d_52_4 rfl rfl ?_
  refine ar_getf 8 d_52_5 rfl (ci := 0) (k := 0) rfl (hF.at 0 rfl) rfl ?_
  refine ar_getf 11 d_52_8 rfl (ci := 3) (k := 0) rfl (hF.at 1 rfl) rfl ?_
  refine ar_icmp_ne 25 14 d_52_11 (by decide) rfl (fun c1 => ?_) (fun c1 => ?_)
  · refine ar_aload_n 26 d_52_25 rfl rfl ?_
    refine ar_getf 29 d_52_26 rfl (ci := 2) (k := 2) rfl hN.mgc rfl ?_
    refine ar_if_lt 72 32 d_52_29 (by decide) rfl (fun c2 => ?_) (fun c2 => ?_)
    · have hS1 : AS s0 n nn gg C f q u b h h E TK Q ms := ⟨hF, hA, hN, hf, hn, hs, hp0⟩
      have hG9 : GS Z s0 n nn gg C f q u b h0 h E TK Q ms D K A := GS.as hsn hz hG0 hS1 hM hE hK
      exact ar_ret d_52_72 rfl (⟨rfl, _, _, _, _, _, _, hG9, fun _ _ => rfl, rfl, Or.inr (Or.inr ⟨c1, fun i hi ei => absurd c2 (by rw [show u 2 = nI i from ei]; exact nI_pos (by omega)), rfl⟩)⟩)
    · refine ar_aload_n 33 d_52_32 rfl rfl ?_
      refine ar_getf 36 d_52_33 rfl (ci := 2) (k := 2) rfl hN.mgc rfl ?_
      refine ar_aload_n 37 d_52_36 rfl rfl ?_
      refine ar_getf 40 d_52_37 rfl (ci := 0) (k := 3) rfl (hF.at 0 rfl) rfl ?_
      refine ar_alen 41 d_52_40 rfl (hF.at 9 rfl) (by decide) ?_
      refine ar_icmp_ge 72 44 d_52_41 (by decide) rfl (fun c3 => ?_) (fun c3 => ?_)
      · have hS1 : AS s0 n nn gg C f q u b h h E TK Q ms := ⟨hF, hA, hN, hf, hn, hs, hp0⟩
        have hG9 : GS Z s0 n nn gg C f q u b h0 h E TK Q ms D K A := GS.as hsn hz hG0 hS1 hM hE hK
        exact ar_ret d_52_72 rfl (⟨rfl, _, _, _, _, _, _, hG9, fun _ _ => rfl, rfl, Or.inr (Or.inr ⟨c1, fun i hi ei => absurd c3 (by rw [show u 2 = nI i from ei]; exact nI_ge hi (by omega)), rfl⟩)⟩)
      · obtain ⟨j, hj, ej⟩ := natLt c2 (by omega) (show u 2 < nI nn from Int32.not_le.mp c3)
        refine ar_aload_n 45 d_52_44 rfl rfl ?_
        refine ar_getf 48 d_52_45 rfl (ci := 0) (k := 3) rfl (hF.at 0 rfl) rfl ?_
        refine ar_aload_n 49 d_52_48 rfl rfl ?_
        refine ar_getf 52 d_52_49 rfl (ci := 2) (k := 2) rfl hN.mgc rfl ?_
        refine ar_top (x' := nI j) (ej) ?_
        refine ar_aald 53 d_52_52 rfl (hF.at 9 rfl) rfl (vin hj (by omega)) ?_
        refine ar_tv (v' := .ref (n + 329 + 22 * j)) (ndr hnn hj) ?_
        refine ar_getf 56 d_52_53 rfl (ci := 7) (k := 6) rfl (hf.g ((hG0 j hj).1.at 0 rfl) (by unfold ASA NTA; omega)) rfl ?_
        refine ar_if_eq 72 59 d_52_56 (by decide) rfl (fun c4 => ?_) (fun c4 => ?_)
        · have hS1 : AS s0 n nn gg C f q u b h h E TK Q ms := ⟨hF, hA, hN, hf, hn, hs, hp0⟩
          have hG9 : GS Z s0 n nn gg C f q u b h0 h E TK Q ms D K A := GS.as hsn hz hG0 hS1 hM hE hK
          exact ar_ret d_52_72 rfl (⟨rfl, _, _, _, _, _, _, hG9, fun _ _ => rfl, rfl, Or.inr (Or.inr ⟨c1, fun i hi ei => by have eij : i = j := nI_inj (by omega) (by omega) (ei.symm.trans ej); subst eij; exact c4, rfl⟩)⟩)
        · refine ar_aload_n 60 d_52_59 rfl rfl ?_
          refine ar_getf 63 d_52_60 rfl (ci := 0) (k := 3) rfl (hF.at 0 rfl) rfl ?_
          refine ar_aload_n 64 d_52_63 rfl rfl ?_
          refine ar_getf 67 d_52_64 rfl (ci := 2) (k := 2) rfl hN.mgc rfl ?_
          refine ar_top (x' := nI j) (ej) ?_
          refine ar_aald 68 d_52_67 rfl (hF.at 9 rfl) rfl (vin hj (by omega)) ?_
          refine ar_tv (v' := .ref (n + 329 + 22 * j)) (ndr hnn hj) ?_
          refine ar_aload_n 69 d_52_68 rfl rfl ?_
          have hS1 : AS s0 n nn gg C f q u b h h E TK Q ms := ⟨hF, hA, hN, hf, hn, hs, hp0⟩
          have hG1 : GS Z s0 n nn gg C f q u b h0 h E TK Q ms D K A := GS.as hsn hz hG0 hS1 hM hE hK
          refine ar_call (r := []) (na := 0) (kd := 0) (cm := 55) (fr2 := fr - 1) (lo2 := lo - 21) 72 d_52_69 (ar_hoV (as := [.ref (n + 1 + 1 + 2 * q)]) rfl rfl rfl (hf.g ((hG0 j hj).1.at 0 rfl) (by unfold ASA NTA; omega))) rfl (by omega) (show lo - 21 + (19 + 2) = lo by omega) (Nat.le_of_ble_eq_true rfl) (Nat.le_of_ble_eq_true rfl) (s_55 (by omega) (by omega) hC0.cs (hG1.ns hj) (hG1.2.1 j hj).2.1 c4 hu) ?_
          intro v hp_2 hq
          obtain ⟨rfl, Dx2, Kx2, Ax2, Yx2, hSx, hIx, hEx, -⟩ := hq
          obtain ⟨ms2, hsm, hG2⟩ := GS.nd hsn hG1 hj hSx hIx ((hG0 j hj).2.2)
          have hGb := hG2
          clear hG1
          clear hF hA hN hf hn hs hp0 hG0 hM hE hK hz
          obtain ⟨hS, hG0, hM, hE, hK, hz⟩ := hGb
          obtain ⟨hF, hA, hN, hf, hn, hs, hp0⟩ := hS
          replace hF : ax_hs hp_2 [cSt s0 n E, cRk n nn gg C, cOr n nn gg f, cAs n E, cEr n 5 512 E, cEr n 6 100 E, cEr n 7 2 E, cAk n, cEr n 9 512 E, cNa n nn, cEr n 0 48 E, cEr n 1 961 E, cTs n gg E TK, cEr n 59 48 E, cEr n 60 48 E, cEr n 61 48 E, cEr n 62 2400 E, cEr n 63 512 E, cEr n 64 961 E, cEr n 65 961 E] := hF
          have hS1 : AS s0 n nn gg C f q u b hp_2 hp_2 E TK Q ms2 := ⟨hF, hA, hN, hf, hn, hs, hp0⟩
          have hG9 : GS Z s0 n nn gg C f q u b h0 hp_2 E TK Q ms2 (va_up D j Dx2) (va_up K j Kx2) (va_up A j Ax2) := GS.as hsn hz hG0 hS1 hM hE hK
          exact ar_ret d_52_72 rfl (⟨rfl, _, _, _, _, _, _, hG9, fun i hi => upk hSx.2.2.2.2.2.2, rfl, Or.inr (Or.inl ⟨j, hj, ej, c4, nodR_mk hEx hsm⟩)⟩)
  · refine ar_aload_n 15 d_52_14 rfl rfl ?_
    refine ar_getf 18 d_52_15 rfl (ci := 0) (k := 2) rfl (hF.at 0 rfl) rfl ?_
    refine ar_aload_n 19 d_52_18 rfl rfl ?_
    have hS1 : AS s0 n nn gg C f q u b h h E TK Q ms := ⟨hF, hA, hN, hf, hn, hs, hp0⟩
    refine ar_call (r := []) (na := 0) (kd := 0) (cm := 53) (fr2 := fr - 1) (lo2 := lo - 22) 22 d_52_19 (ar_hoV (as := [.ref (n + 1 + 1 + 2 * q)]) rfl rfl rfl (hF.at 3 rfl)) rfl (by omega) (show lo - 22 + (19 + 3) = lo by omega) (Nat.le_of_ble_eq_true rfl) (Nat.le_of_ble_eq_true rfl) (ek_53 (by omega) (by omega) hC0 hS1 a2 a1 b4 b6 (fun z => (d (he + 1) (by omega) z).1.2.2.2.2.2) hu.2.1) ?_
    intro v hp_1 hq
    obtain ⟨rfl, hq⟩ := hq
    refine ar_goto 72 d_52_22 (by decide) ?_
    have hto : u 2 = nI nn := Decidable.not_not.mp c1
    have ecl : (E 4 9).toNatClampNeg = he := by rw [a2, nI_clamp (show he < 2 ^ 31 by omega)]
    rcases hq with ⟨h1, hS2⟩ | ⟨h1, h2, hS2⟩ | ⟨h1, h3, h5, hlt, ms2, hS2, hr⟩
    · exact ar_ret d_52_72 rfl ⟨rfl, _, _, _, _, _, _, GS.as hsn hz hG0 hS2 hM (hE.f4 rfl rfl rfl rfl c.1 c.2) hK, fun _ _ => rfl, rfl, Or.inl ⟨hto, Or.inl ⟨h1, rfl⟩⟩⟩
    · exact ar_ret d_52_72 rfl ⟨rfl, _, _, _, _, _, _, GS.as hsn hz hG0 hS2 hM hE hK, fun _ _ => rfl, rfl, Or.inl ⟨hto, Or.inr (Or.inl ⟨h1, fun z => h2 ⟨z.1, z.2.1, (nI_ltI (by omega) (by omega)).mp (by have z2 := z.2.2; dsimp only at z2; rw [a1, a2] at z2; exact z2)⟩, rfl⟩)⟩⟩
    · have hE2 := hE.hear (b := b) (k := (Q (he % 24)).1 0) (v := u 6) a2 a1 hlt b6 (hu.2.1 h3)
      exact ar_ret d_52_72 rfl ⟨rfl, _, _, _, _, _, _, GS.as hsn hz hG0 hS2 (hr.mi hE2 hM) hE2 hK, fun _ _ => rfl, rfl, Or.inl ⟨hto, Or.inr (Or.inr ⟨h1, ⟨h3, h5, by dsimp only; rw [a1, a2]; exact nI_lt hlt (by omega)⟩, ms2, by dsimp only; rw [ecl], hr⟩)⟩⟩
set_option maxRecDepth 100000 in
theorem g_133 {L : Nat} {xs : Nat → Int32} {fr lo : Nat} {s0 n nn gg : Nat} {C : Int32} {f : Nat → Int32} {q : Nat} {u b : Nat → Int32} {h0 h : ax_H} {Z : ZT} {D : Nat → Nat → Nat → Int32} {K A : Nat → Int64} {E : Nat → Nat → Int32} {TK : Int64} {Q : Nat → Mg} {ms : List Mg}  (hfr : 9 ≤ fr) (hlo : 310 ≤ lo) (hC : CG s0 n nn gg f) (hG : GS Z s0 n nn gg C f q u b h0 h E TK Q ms D K A) : ax_M L xs 133 fr lo [.ref s0] h (fun r h' => r = none ∧ GP Z s0 n nn gg C f q u b h0 h' E TK D (tkR nn gg C f (E, Q, ms, D, K, A))) := by
  have hC0 := hC
  obtain ⟨hs0, hsn, hnn3, hnn, hgg1, hgg, hRg⟩ := hC
  have key : ∀ (k i : Nat) (h : ax_H) (E1 : Nat → Nat → Int32) (Q1 : Nat → Mg) (ms1 : List Mg) (D1 : Nat → Nat → Nat → Int32) (K1 A1 : Nat → Int64), i + k = nn → GS Z s0 n nn gg C f q u b h0 h E1 TK Q1 ms1 D1 K1 A1 → GR nn D D1 → E1 100 = E 100 → (∀ S', nwR nn gg C f u b k i (E1, Q1, ms1, D1, K1, A1) S' → tkR nn gg C f (E, Q, ms, D, K, A) S') → ax_A (ax_step L xs) ((133, 9, fr, lo), [(0, .ref s0), (1, .int (nI i))], [], h) (fun r h' => r = none ∧ GP Z s0 n nn gg C f q u b h0 h' E TK D (tkR nn gg C f (E, Q, ms, D, K, A))) := by
    intro k
    induction k with
    | zero =>
      intro i h E1 Q1 ms1 D1 K1 A1 hi hG hR hE0 hRl
      have e0 : nn = i := by omega
      subst e0
      have hGG := hG
      obtain ⟨hS, hG0, hM, hE, hK, hz⟩ := hG
      have hM0 := hM
      obtain ⟨hF, hA, hN, hf, hn, hs, hp0⟩ := hS
      replace hF : ax_hs h [cSt s0 n E1, cRk n nn gg C, cOr n nn gg f, cAs n E1, cEr n 5 512 E1, cEr n 6 100 E1, cEr n 7 2 E1, cAk n, cEr n 9 512 E1, cNa n nn, cEr n 0 48 E1, cEr n 1 961 E1, cTs n gg E1 TK, cEr n 59 48 E1, cEr n 60 48 E1, cEr n 61 48 E1, cEr n 62 2400 E1, cEr n 63 512 E1, cEr n 64 961 E1, cEr n 65 961 E1] := hF
      refine ar_iload_n 10 d_133_9 rfl rfl ?_
      refine ar_aload_n 11 d_133_10 rfl rfl ?_
      refine ar_getf 14 d_133_11 rfl (ci := 0) (k := 3) rfl (hF.at 0 rfl) rfl ?_
      refine ar_alen 15 d_133_14 rfl (hF.at 9 rfl) (by decide) ?_
      refine ar_icmp_ge 45 18 d_133_15 (by decide) rfl (fun _ => ?_) (fun c => absurd (Int32.le_refl _) c)
      have hS1 : AS s0 n nn gg C f q u b h h E1 TK Q1 ms1 := ⟨hF, hA, hN, hf, hn, hs, hp0⟩
      have hG9 : GS Z s0 n nn gg C f q u b h0 h E1 TK Q1 ms1 D1 K1 A1 := GS.as hsn hz hG0 hS1 hM hE hK
      exact ar_ret d_133_45 rfl (⟨rfl, _, _, _, _, _, _, hG9, hR, hE0, hRl _ rfl⟩)
    | succ k ih =>
      intro i h E1 Q1 ms1 D1 K1 A1 hi hG hR hE0 hRl
      have hic : i < nn := by omega
      have hGG := hG
      obtain ⟨hS, hG0, hM, hE, hK, hz⟩ := hG
      have hM0 := hM
      obtain ⟨hF, hA, hN, hf, hn, hs, hp0⟩ := hS
      replace hF : ax_hs h [cSt s0 n E1, cRk n nn gg C, cOr n nn gg f, cAs n E1, cEr n 5 512 E1, cEr n 6 100 E1, cEr n 7 2 E1, cAk n, cEr n 9 512 E1, cNa n nn, cEr n 0 48 E1, cEr n 1 961 E1, cTs n gg E1 TK, cEr n 59 48 E1, cEr n 60 48 E1, cEr n 61 48 E1, cEr n 62 2400 E1, cEr n 63 512 E1, cEr n 64 961 E1, cEr n 65 961 E1] := hF
      refine ar_iload_n 10 d_133_9 rfl rfl ?_
      refine ar_aload_n 11 d_133_10 rfl rfl ?_
      refine ar_getf 14 d_133_11 rfl (ci := 0) (k := 3) rfl (hF.at 0 rfl) rfl ?_
      refine ar_alen 15 d_133_14 rfl (hF.at 9 rfl) (by decide) ?_
      refine ar_icmp_ge 45 18 d_133_15 (by decide) rfl (fun c => absurd c (nI_ge hic (by omega))) (fun _ => ?_)
      refine ar_aload_n 19 d_133_18 rfl rfl ?_
      refine ar_getf 22 d_133_19 rfl (ci := 0) (k := 3) rfl (hF.at 0 rfl) rfl ?_
      refine ar_iload_n 23 d_133_22 rfl rfl ?_
      refine ar_aald 24 d_133_23 rfl (hF.at 9 rfl) rfl (vin hic (by omega)) ?_
      refine ar_tv (v' := .ref (n + 329 + 22 * i)) (ndr hnn hic) ?_
      refine ar_getf 27 d_133_24 rfl (ci := 7) (k := 6) rfl (hf.g ((hG0 i hic).1.at 0 rfl) (by unfold ASA NTA; omega)) rfl ?_
      refine ar_if_eq 39 30 d_133_27 (by decide) rfl (fun c1 => ?_) (fun c1 => ?_)
      · refine ar_iinc 42 [(0, .ref s0), (1, .int (nI (i + 1)))] d_133_39 rfl rfl (nI_1 i) (by decide) rfl ?_
        refine ar_goto 9 d_133_42 (by decide) ?_
        have hS1 : AS s0 n nn gg C f q u b h h E1 TK Q1 ms1 := ⟨hF, hA, hN, hf, hn, hs, hp0⟩
        have hG9 : GS Z s0 n nn gg C f q u b h0 h E1 TK Q1 ms1 D1 K1 A1 := GS.as hsn hz hG0 hS1 hM hE hK
        exact ih (i + 1) h _ _ _ _ _ _ (by omega) hG9 hR hE0 (fun S' z => hRl S' (Or.inl ⟨c1, z⟩))
      · refine ar_aload_n 31 d_133_30 rfl rfl ?_
        refine ar_getf 34 d_133_31 rfl (ci := 0) (k := 3) rfl (hF.at 0 rfl) rfl ?_
        refine ar_iload_n 35 d_133_34 rfl rfl ?_
        refine ar_aald 36 d_133_35 rfl (hF.at 9 rfl) rfl (vin hic (by omega)) ?_
        refine ar_tv (v' := .ref (n + 329 + 22 * i)) (ndr hnn hic) ?_
        have hS1 : AS s0 n nn gg C f q u b h h E1 TK Q1 ms1 := ⟨hF, hA, hN, hf, hn, hs, hp0⟩
        have hG1 : GS Z s0 n nn gg C f q u b h0 h E1 TK Q1 ms1 D1 K1 A1 := GS.as hsn hz hG0 hS1 hM hE hK
        refine ar_call (r := []) (na := 0) (kd := 0) (cm := 136) (fr2 := fr - 1) (lo2 := lo - 20) 39 d_133_36 (ar_hoV (as := []) rfl rfl rfl (hf.g ((hG0 i hic).1.at 0 rfl) (by unfold ASA NTA; omega))) rfl (by omega) (show lo - 20 + (19 + 1) = lo by omega) (Nat.le_of_ble_eq_true rfl) (Nat.le_of_ble_eq_true rfl) (s_136 (by omega) (by omega) hC0.cs (hG1.ns hic) (hG1.2.1 i hic).2.1 c1) ?_
        intro v hp_1 hq
        obtain ⟨rfl, Dx1, Kx1, Ax1, Yx1, hSx, hIx, hEx, -⟩ := hq
        obtain ⟨ms1, hsm, hG2⟩ := GS.nd hsn hG1 hic hSx hIx ((hG0 i hic).2.2)
        have hGb := hG2
        clear hG1
        clear hF hA hN hf hn hs hp0 hG0 hM hE hK hz
        obtain ⟨hS, hG0, hM, hE, hK, hz⟩ := hGb
        obtain ⟨hF, hA, hN, hf, hn, hs, hp0⟩ := hS
        replace hF : ax_hs hp_1 [cSt s0 n E1, cRk n nn gg C, cOr n nn gg f, cAs n E1, cEr n 5 512 E1, cEr n 6 100 E1, cEr n 7 2 E1, cAk n, cEr n 9 512 E1, cNa n nn, cEr n 0 48 E1, cEr n 1 961 E1, cTs n gg E1 TK, cEr n 59 48 E1, cEr n 60 48 E1, cEr n 61 48 E1, cEr n 62 2400 E1, cEr n 63 512 E1, cEr n 64 961 E1, cEr n 65 961 E1] := hF
        refine ar_iinc 42 [(0, .ref s0), (1, .int (nI (i + 1)))] d_133_39 rfl rfl (nI_1 i) (by decide) rfl ?_
        refine ar_goto 9 d_133_42 (by decide) ?_
        have hS1 : AS s0 n nn gg C f q u b hp_1 hp_1 E1 TK Q1 ms1 := ⟨hF, hA, hN, hf, hn, hs, hp0⟩
        have hG9 : GS Z s0 n nn gg C f q u b h0 hp_1 E1 TK Q1 ms1 (va_up D1 i Dx1) (va_up K1 i Kx1) (va_up A1 i Ax1) := GS.as hsn hz hG0 hS1 hM hE hK
        exact ih (i + 1) hp_1 _ _ _ _ _ _ (by omega) hG9 (fun j hj => (upk hSx.2.2.2.2.2.2).trans (hR j hj)) hE0 (fun S9 z => hRl S9 (Or.inr ⟨c1, _, nodR_mk hEx hsm, z⟩))
  show ax_A (ax_step L xs) ((133, 0, fr, lo), [(0, .ref s0)], [], h) _
  have hGG := hG
  obtain ⟨hS, hG0, hM, hE, hK, hz⟩ := hG
  have hM0 := hM
  obtain ⟨hF, hA, hN, hf, hn, hs, hp0⟩ := hS
  replace hF : ax_hs h [cSt s0 n E, cRk n nn gg C, cOr n nn gg f, cAs n E, cEr n 5 512 E, cEr n 6 100 E, cEr n 7 2 E, cAk n, cEr n 9 512 E, cNa n nn, cEr n 0 48 E, cEr n 1 961 E, cTs n gg E TK, cEr n 59 48 E, cEr n 60 48 E, cEr n 61 48 E, cEr n 62 2400 E, cEr n 63 512 E, cEr n 64 961 E, cEr n 65 961 E] := hF
  obtain ⟨bg, he, se, si, ⟨a1, a2, a3, a4⟩, ⟨b1, b2, b3, b4, b5, b6⟩, c, d, e, g⟩ := hE
  have hE : EI Z E Q := ⟨bg, he, se, si, ⟨a1, a2, a3, a4⟩, ⟨b1, b2, b3, b4, b5, b6⟩, c, d, e, g⟩
  refine ar_aload_n 1 d_133_0 rfl rfl ?_
  refine ar_getf 4 d_133_1 rfl (ci := 0) (k := 2) rfl (hF.at 0 rfl) rfl ?_
  have hS1 : AS s0 n nn gg C f q u b h h E TK Q ms := ⟨hF, hA, hN, hf, hn, hs, hp0⟩
  refine ar_call (r := []) (na := 0) (kd := 0) (cm := 134) (fr2 := fr - 1) (lo2 := lo - 20) 7 d_133_4 (ar_hoV (as := []) rfl rfl rfl (hF.at 3 rfl)) rfl (by omega) (show lo - 20 + (19 + 1) = lo by omega) (Nat.le_of_ble_eq_true rfl) (Nat.le_of_ble_eq_true rfl) (ek_134 (by omega) (by omega) hC0 hS1 a2 a1 b4 b6 (fun z => (d he (by omega) z).1.2.2.2.2.2)) ?_
  intro v hp_1 hq
  obtain ⟨rfl, ms1, ms2, hS2, hr1, hr2⟩ := hq
  have hG2 := GS.as hsn hz hG0 hS2 (hr2.mi hE (hr1.mi hM)) hE hK
  refine ?_
  refine ar_iconst 8 (v := 0) d_133_7 rfl (by decide) ?_
  refine ar_istore_n 9 [(0, .ref s0), (1, .int 0)] d_133_8 rfl (by decide) rfl ?_
  exact key nn 0 hp_1 E Q ms2 D K A (by omega) hG2 (fun _ _ => rfl) rfl (fun S9 z => ⟨u, b, ms1, ms2, hr1, hr2, z⟩)
theorem NeX.take {L : Nat} {xs : Nat → Int32} {fr lo : Nat} {h : ax_H} {n q i : Nat} {ms : List Mg} {u b : Nat → Int32} (hN : NeX h n ms q u b) (hi : i < ms.length) : ax_M L xs 51 fr lo [.ref n, .int (nI i)] h (fun r h' => ∃ (q' : Nat) (x : Mg) (ms' : List Mg), r = some (.ref (n + 1 + 1 + 2 * q')) ∧ ms[i]? = some x ∧ (x :: ms').Perm ms ∧ NeX h' n ms' q' x.1 x.2 ∧ ax_fr (NTA n (n + 1)) h h' ∧ h'.1 = h.1 ∧ h'.2.1 = h.2.1) := by
  obtain ⟨ids, k⟩ := hN
  refine ax_A.post (c_51G k (by have := k.len; omega)) (fun r h' hq => ?_)
  obtain ⟨q', x, ids', ms', k1, k2, k3, k4, k5⟩ := hq
  exact ⟨q', x, ms', k1, k2, k3, ⟨ids', k4⟩, k5⟩
theorem NeX.way {h : ax_H} {n q : Nat} {ms : List Mg} {u b : Nat → Int32} (hN : NeX h n ms q u b) : ∃ f, ax_g h (n + 1) = some (.inl (3, 128, .inr (.inr (.inr (.inr f))))) ∧ ∀ i, i < ms.length → ∃ (q' : Nat) (x : Mg), f i = some (n + 1 + 1 + 2 * q') ∧ ms[i]? = some x ∧ NeX h n ms q' x.1 x.2 := by
  obtain ⟨ids, k⟩ := hN
  obtain ⟨f, k1, k2⟩ := k.way
  refine ⟨f, k1, fun i hi => ?_⟩
  obtain ⟨q', x, m1, m2, m3⟩ := k2 i (by have := k.len; omega)
  exact ⟨q', x, m1, m2, ids, m3⟩
/-- behind a take -/
theorem AS.take {s0 n nn gg : Nat} {C : Int32} {f : Nat → Int32} {q q' : Nat} {u b u' b' : Nat → Int32} {h0 h h' : ax_H} {E : Nat → Nat → Int32} {TK : Int64} {Q : Nat → Mg} {ms ms' : List Mg} (hs : s0 < n) (hS : AS s0 n nn gg C f q u b h0 h E TK Q ms) (hN : NeX h' n ms' q' u' b') (hf : ax_fr (NTA n (n + 1)) h h') (h1 : h'.1 = h.1) (h2 : h'.2.1 = h.2.1) : AS s0 n nn gg C f q' u' b' h0 h' E TK Q ms' := by
  obtain ⟨k1, k2, k3, k4, k5, k6, k7⟩ := hS
  exact ⟨k1.fr hf (farE (s0 := s0) rfl hs), k2.net hf, hN, k4.tr (hf.mono (fun x hx => Or.inl hx)), h1.trans k5, h2.trans k6, k7⟩
theorem perm_mem {P : Mg → Prop} {x : Mg} {ms ms' : List Mg} (hp : (x :: ms').Perm ms) (h : ∀ y ∈ ms, P y) : P x ∧ ∀ y ∈ ms', P y := ⟨h x (hp.mem_iff.mp List.mem_cons_self), fun y hy => h y (hp.mem_iff.mp (List.mem_cons_of_mem _ hy))⟩
set_option maxRecDepth 100000 in
theorem g_49 {L : Nat} {xs : Nat → Int32} {fr lo : Nat} {s0 n nn gg : Nat} {C : Int32} {f : Nat → Int32} {q : Nat} {u b : Nat → Int32} {h0 h : ax_H} {Z : ZT} {D : Nat → Nat → Nat → Int32} {K A : Nat → Int64} {E : Nat → Nat → Int32} {TK : Int64} {Q : Nat → Mg} {ms : List Mg} {x : Int32} (hfr : 10 ≤ fr) (hlo : 330 ≤ lo) (hC : CG s0 n nn gg f) (hG : GS Z s0 n nn gg C f q u b h0 h E TK Q ms D K A) : ax_M L xs 49 fr lo [.ref s0, .int x] h (fun r h' => r = none ∧ ∃ (q' : Nat) (u' b' : Nat → Int32), GP Z s0 n nn gg C f q' u' b' h0 h' (va_up E 100 (upd (E 100) 10 0)) TK D (fun S' => (ms = [] ∧ S' = ncm (E, Q, ms, D, K, A)) ∨ ∃ (x' : Mg) (S1 : SS), tkM x' (ncm (E, Q, ms, D, K, A)) S1 ∧ hoR nn gg C f x' S1 S')) := by
  have hC0 := hC
  show ax_A (ax_step L xs) ((49, 0, fr, lo), [(0, .ref s0), (1, .int x)], [], h) _
  obtain ⟨hs0, hsn, hnn3, hnn, hgg1, hgg, hRg⟩ := hC
  have hGG := hG
  obtain ⟨hS, hG0, hM, hE, hK, hz⟩ := hG
  have hM0 := hM
  obtain ⟨hF, hA, hN, hf, hn, hs, hp0⟩ := hS
  replace hF : ax_hs h [cSt s0 n E, cRk n nn gg C, cOr n nn gg f, cAs n E, cEr n 5 512 E, cEr n 6 100 E, cEr n 7 2 E, cAk n, cEr n 9 512 E, cNa n nn, cEr n 0 48 E, cEr n 1 961 E, cTs n gg E TK, cEr n 59 48 E, cEr n 60 48 E, cEr n 61 48 E, cEr n 62 2400 E, cEr n 63 512 E, cEr n 64 961 E, cEr n 65 961 E] := hF
  refine ar_aload_n 1 d_49_0 rfl rfl ?_
  refine ar_iconst 2 (v := 0) d_49_1 rfl (by decide) ?_
  refine ar_putf 5 [.ref (n + 264), .ref n, .ref (n + 266), .ref (n + 328), .ref (n + 320), .ref (n + 262), .ref (n + 263), .int (E 100 7), .int (E 100 8), .int (E 100 9), .int 0] d_49_2 rfl (ci := 0) (k := 10) rfl rfl (hF.at 0 rfl) (Nat.le_of_ble_eq_true rfl) rfl rfl rfl ?_
  replace hF : ax_hs (ax_put h s0 (.inr (0, [.ref (n + 264), .ref n, .ref (n + 266), .ref (n + 328), .ref (n + 320), .ref (n + 262), .ref (n + 263), .int (E 100 7), .int (E 100 8), .int (E 100 9), .int 0]))) [(s0, .inr (0, [.ref (n + 264), .ref n, .ref (n + 266), .ref (n + 328), .ref (n + 320), .ref (n + 262), .ref (n + 263), .int (E 100 7), .int (E 100 8), .int (E 100 9), .int 0])), cRk n nn gg C, cOr n nn gg f, cAs n E, cEr n 5 512 E, cEr n 6 100 E, cEr n 7 2 E, cAk n, cEr n 9 512 E, cNa n nn, cEr n 0 48 E, cEr n 1 961 E, cTs n gg E TK, cEr n 59 48 E, cEr n 60 48 E, cEr n 61 48 E, cEr n 62 2400 E, cEr n 63 512 E, cEr n 64 961 E, cEr n 65 961 E] := hF.put 0 _ rfl rfl
  replace hf := hf.put (a := s0) (c := .inr (0, [.ref (n + 264), .ref n, .ref (n + 266), .ref (n + 328), .ref (n + 320), .ref (n + 262), .ref (n + 263), .int (E 100 7), .int (E 100 8), .int (E 100 9), .int 0])) (Or.inr (by omega))
  replace hN := hN.put (a := s0) (c := .inr (0, [.ref (n + 264), .ref n, .ref (n + 266), .ref (n + 328), .ref (n + 320), .ref (n + 262), .ref (n + 263), .int (E 100 7), .int (E 100 8), .int (E 100 9), .int 0])) (by omega)
  replace hA := hA.put (a := s0) (c := .inr (0, [.ref (n + 264), .ref n, .ref (n + 266), .ref (n + 328), .ref (n + 320), .ref (n + 262), .ref (n + 263), .int (E 100 7), .int (E 100 8), .int (E 100 9), .int 0])) (by omega)
  replace hn : (ax_put h s0 (.inr (0, [.ref (n + 264), .ref n, .ref (n + 266), .ref (n + 328), .ref (n + 320), .ref (n + 262), .ref (n + 263), .int (E 100 7), .int (E 100 8), .int (E 100 9), .int 0]))).1 = h.1 := hn
  replace hs : (ax_put h s0 (.inr (0, [.ref (n + 264), .ref n, .ref (n + 266), .ref (n + 328), .ref (n + 320), .ref (n + 262), .ref (n + 263), .int (E 100 7), .int (E 100 8), .int (E 100 9), .int 0]))).2.1 = h.2.1 := hs
  generalize ax_put h s0 (.inr (0, [.ref (n + 264), .ref n, .ref (n + 266), .ref (n + 328), .ref (n + 320), .ref (n + 262), .ref (n + 263), .int (E 100 7), .int (E 100 8), .int (E 100 9), .int 0])) = hp_1 at hF hf hA hN hn hs ⊢
  refine ar_aload_n 6 d_49_5 rfl rfl ?_
  refine ar_getf 9 d_49_6 rfl (ci := 0) (k := 1) rfl (hF.at 0 rfl) rfl ?_
  obtain ⟨hl128, za, zc, hnet⟩ := hN.netc
  refine ar_getf 12 d_49_9 rfl (ci := 1) (k := 1) rfl hnet rfl ?_
  refine ar_if_le 37 15 d_49_12 (by decide) rfl (fun c1 => ?_) (fun c1 => ?_)
  · have hS1 : AS s0 n nn gg C f q u b h hp_1 (va_up E 100 (upd (E 100) 10 0)) TK Q ms := ⟨hF, hA, hN, hf, hn, hs, hp0⟩
    have hG9 : GS Z s0 n nn gg C f q u b h0 hp_1 (va_up E 100 (upd (E 100) 10 0)) TK Q ms D K A := GS.as hsn hz hG0 hS1 hM hE ⟨hK.1, hK.2.1, Or.inl rfl⟩
    have hnil : ms = [] := List.eq_nil_of_length_eq_zero (Nat.eq_zero_of_not_pos (fun z => nI_nle z (by omega) c1))
    exact ar_ret d_49_37 rfl (⟨rfl, q, u, b, _, _, _, _, _, _, hG9, fun _ _ => rfl, rfl, Or.inl ⟨hnil, rfl⟩⟩)
  · have hpos : 0 < ms.length := Nat.pos_of_ne_zero (fun z => c1 (by rw [z]; exact Int32.le_refl _))
    refine ar_aload_n 16 d_49_15 rfl rfl ?_
    refine ar_aload_n 17 d_49_16 rfl rfl ?_
    refine ar_getf 20 d_49_17 rfl (ci := 0) (k := 1) rfl (hF.at 0 rfl) rfl ?_
    refine ar_iload_n 21 d_49_20 rfl rfl ?_
    refine ar_aload_n 22 d_49_21 rfl rfl ?_
    refine ar_getf 25 d_49_22 rfl (ci := 0) (k := 1) rfl (hF.at 0 rfl) rfl ?_
    refine ar_getf 28 d_49_25 rfl (ci := 1) (k := 1) rfl hnet rfl ?_
    refine ar_call (r := [.ref n, .ref s0]) (na := 0) (kd := 0) (cm := 50) (fr2 := fr - 1) (lo2 := lo - 22) 31 d_49_28 (ar_hoS (as := [.int x, .int (nI ms.length)]) rfl rfl rfl) rfl (by omega) (show lo - 22 + (19 + 3) = lo by omega) (Nat.le_of_ble_eq_true rfl) (Nat.le_of_ble_eq_true rfl) (c_50 hpos hl128) ?_
    intro v hh hq
    obtain ⟨k, hk, rfl, ehh⟩ := hq
    rw [ehh]
    clear ehh
    have hS1 : AS s0 n nn gg C f q u b h hp_1 (va_up E 100 (upd (E 100) 10 0)) TK Q ms := ⟨hF, hA, hN, hf, hn, hs, hp0⟩
    refine ar_call (r := [.ref s0]) (na := 0) (kd := 0) (cm := 51) (fr2 := fr - 1) (lo2 := lo - 22) 34 d_49_31 (ar_hoV (as := [.int (nI k)]) rfl rfl rfl hnet) rfl (by omega) (show lo - 22 + (19 + 3) = lo by omega) (Nat.le_of_ble_eq_true rfl) (Nat.le_of_ble_eq_true rfl) (hN.take hk) ?_
    intro v hp_2 hq
    obtain ⟨q', x', ms', rfl, hxk, hpm, hN2, hf2, hz1, hz2⟩ := hq
    have hG1 : GS Z s0 n nn gg C f q' x'.1 x'.2 h0 hp_2 (va_up E 100 (upd (E 100) 10 0)) TK Q ms' D K A := GS.as hsn hz hG0 (hS1.take hsn hN2 hf2 hz1 hz2) (perm_mem hpm hM).2 hE ⟨hK.1, hK.2.1, Or.inl rfl⟩
    replace hF : ax_hs hp_2 [(s0, .inr (0, [.ref (n + 264), .ref n, .ref (n + 266), .ref (n + 328), .ref (n + 320), .ref (n + 262), .ref (n + 263), .int (E 100 7), .int (E 100 8), .int (E 100 9), .int 0])), cRk n nn gg C, cOr n nn gg f, cAs n E, cEr n 5 512 E, cEr n 6 100 E, cEr n 7 2 E, cAk n, cEr n 9 512 E, cNa n nn, cEr n 0 48 E, cEr n 1 961 E, cTs n gg E TK, cEr n 59 48 E, cEr n 60 48 E, cEr n 61 48 E, cEr n 62 2400 E, cEr n 63 512 E, cEr n 64 961 E, cEr n 65 961 E] := hG1.1.1
    refine ar_call (r := []) (na := 0) (kd := 0) (cm := 52) (fr2 := fr - 1) (lo2 := lo - 21) 37 d_49_34 (ar_hoV (as := [.ref (n + 1 + 1 + 2 * q')]) rfl rfl rfl (hF.at 0 rfl)) rfl (by omega) (show lo - 21 + (19 + 2) = lo by omega) (Nat.le_of_ble_eq_true rfl) (Nat.le_of_ble_eq_true rfl) (g_52 (by omega) (by omega) hC0 hG1 (perm_mem hpm hM).1) ?_
    intro v hp_3 hq
    obtain ⟨rfl, hP⟩ := hq
    obtain ⟨E7, Q7, ms7, D7, K7, A7, p1, p2, p3, p4⟩ := hP
    exact ar_ret d_49_37 rfl (⟨rfl, q', x'.1, x'.2, E7, Q7, ms7, D7, K7, A7, p1, p2, p3, Or.inr ⟨x', _, ⟨ms', hpm, rfl⟩, p4⟩⟩)
set_option maxRecDepth 100000 in
theorem g_129 {L : Nat} {xs : Nat → Int32} {fr lo : Nat} {s0 n nn gg : Nat} {C : Int32} {f : Nat → Int32} {q : Nat} {u b : Nat → Int32} {h0 h : ax_H} {Z : ZT} {D : Nat → Nat → Nat → Int32} {K A : Nat → Int64} {E : Nat → Nat → Int32} {TK : Int64} {Q : Nat → Mg} {ms : List Mg} {x : Int32} (hfr : 10 ≤ fr) (hlo : 330 ≤ lo) (hC : CG s0 n nn gg f) (hG : GS Z s0 n nn gg C f q u b h0 h E TK Q ms D K A) : ax_M L xs 129 fr lo [.ref s0, .int x] h (fun r h' => r = none ∧ ∃ (q' : Nat) (u' b' : Nat → Int32), GP Z s0 n nn gg C f q' u' b' h0 h' (va_up E 100 (upd (E 100) 10 0)) TK D (fun S' => (ms = [] ∧ S' = ncm (E, Q, ms, D, K, A)) ∨ ∃ x' : Mg, tkM x' (ncm (E, Q, ms, D, K, A)) S')) := by
  have hC0 := hC
  show ax_A (ax_step L xs) ((129, 0, fr, lo), [(0, .ref s0), (1, .int x)], [], h) _
  obtain ⟨hs0, hsn, hnn3, hnn, hgg1, hgg, hRg⟩ := hC
  have hGG := hG
  obtain ⟨hS, hG0, hM, hE, hK, hz⟩ := hG
  have hM0 := hM
  obtain ⟨hF, hA, hN, hf, hn, hs, hp0⟩ := hS
  replace hF : ax_hs h [cSt s0 n E, cRk n nn gg C, cOr n nn gg f, cAs n E, cEr n 5 512 E, cEr n 6 100 E, cEr n 7 2 E, cAk n, cEr n 9 512 E, cNa n nn, cEr n 0 48 E, cEr n 1 961 E, cTs n gg E TK, cEr n 59 48 E, cEr n 60 48 E, cEr n 61 48 E, cEr n 62 2400 E, cEr n 63 512 E, cEr n 64 961 E, cEr n 65 961 E] := hF
  refine ar_aload_n 1 d_129_0 rfl rfl ?_
  refine ar_iconst 2 (v := 0) d_129_1 rfl (by decide) ?_
  refine ar_putf 5 [.ref (n + 264), .ref n, .ref (n + 266), .ref (n + 328), .ref (n + 320), .ref (n + 262), .ref (n + 263), .int (E 100 7), .int (E 100 8), .int (E 100 9), .int 0] d_129_2 rfl (ci := 0) (k := 10) rfl rfl (hF.at 0 rfl) (Nat.le_of_ble_eq_true rfl) rfl rfl rfl ?_
  replace hF : ax_hs (ax_put h s0 (.inr (0, [.ref (n + 264), .ref n, .ref (n + 266), .ref (n + 328), .ref (n + 320), .ref (n + 262), .ref (n + 263), .int (E 100 7), .int (E 100 8), .int (E 100 9), .int 0]))) [(s0, .inr (0, [.ref (n + 264), .ref n, .ref (n + 266), .ref (n + 328), .ref (n + 320), .ref (n + 262), .ref (n + 263), .int (E 100 7), .int (E 100 8), .int (E 100 9), .int 0])), cRk n nn gg C, cOr n nn gg f, cAs n E, cEr n 5 512 E, cEr n 6 100 E, cEr n 7 2 E, cAk n, cEr n 9 512 E, cNa n nn, cEr n 0 48 E, cEr n 1 961 E, cTs n gg E TK, cEr n 59 48 E, cEr n 60 48 E, cEr n 61 48 E, cEr n 62 2400 E, cEr n 63 512 E, cEr n 64 961 E, cEr n 65 961 E] := hF.put 0 _ rfl rfl
  replace hf := hf.put (a := s0) (c := .inr (0, [.ref (n + 264), .ref n, .ref (n + 266), .ref (n + 328), .ref (n + 320), .ref (n + 262), .ref (n + 263), .int (E 100 7), .int (E 100 8), .int (E 100 9), .int 0])) (Or.inr (by omega))
  replace hN := hN.put (a := s0) (c := .inr (0, [.ref (n + 264), .ref n, .ref (n + 266), .ref (n + 328), .ref (n + 320), .ref (n + 262), .ref (n + 263), .int (E 100 7), .int (E 100 8), .int (E 100 9), .int 0])) (by omega)
  replace hA := hA.put (a := s0) (c := .inr (0, [.ref (n + 264), .ref n, .ref (n + 266), .ref (n + 328), .ref (n + 320), .ref (n + 262), .ref (n + 263), .int (E 100 7), .int (E 100 8), .int (E 100 9), .int 0])) (by omega)
  replace hn : (ax_put h s0 (.inr (0, [.ref (n + 264), .ref n, .ref (n + 266), .ref (n + 328), .ref (n + 320), .ref (n + 262), .ref (n + 263), .int (E 100 7), .int (E 100 8), .int (E 100 9), .int 0]))).1 = h.1 := hn
  replace hs : (ax_put h s0 (.inr (0, [.ref (n + 264), .ref n, .ref (n + 266), .ref (n + 328), .ref (n + 320), .ref (n + 262), .ref (n + 263), .int (E 100 7), .int (E 100 8), .int (E 100 9), .int 0]))).2.1 = h.2.1 := hs
  generalize ax_put h s0 (.inr (0, [.ref (n + 264), .ref n, .ref (n + 266), .ref (n + 328), .ref (n + 320), .ref (n + 262), .ref (n + 263), .int (E 100 7), .int (E 100 8), .int (E 100 9), .int 0])) = hp_1 at hF hf hA hN hn hs ⊢
  refine ar_aload_n 6 d_129_5 rfl rfl ?_
  refine ar_getf 9 d_129_6 rfl (ci := 0) (k := 1) rfl (hF.at 0 rfl) rfl ?_
  obtain ⟨hl128, za, zc, hnet⟩ := hN.netc
  refine ar_getf 12 d_129_9 rfl (ci := 1) (k := 1) rfl hnet rfl ?_
  refine ar_if_le 34 15 d_129_12 (by decide) rfl (fun c1 => ?_) (fun c1 => ?_)
  · have hS1 : AS s0 n nn gg C f q u b h hp_1 (va_up E 100 (upd (E 100) 10 0)) TK Q ms := ⟨hF, hA, hN, hf, hn, hs, hp0⟩
    have hG9 : GS Z s0 n nn gg C f q u b h0 hp_1 (va_up E 100 (upd (E 100) 10 0)) TK Q ms D K A := GS.as hsn hz hG0 hS1 hM hE ⟨hK.1, hK.2.1, Or.inl rfl⟩
    have hnil : ms = [] := List.eq_nil_of_length_eq_zero (Nat.eq_zero_of_not_pos (fun z => nI_nle z (by omega) c1))
    exact ar_ret d_129_34 rfl (⟨rfl, q, u, b, _, _, _, _, _, _, hG9, fun _ _ => rfl, rfl, Or.inl ⟨hnil, rfl⟩⟩)
  · have hpos : 0 < ms.length := Nat.pos_of_ne_zero (fun z => c1 (by rw [z]; exact Int32.le_refl _))
    refine ar_aload_n 16 d_129_15 rfl rfl ?_
    refine ar_getf 19 d_129_16 rfl (ci := 0) (k := 1) rfl (hF.at 0 rfl) rfl ?_
    refine ar_iload_n 20 d_129_19 rfl rfl ?_
    refine ar_aload_n 21 d_129_20 rfl rfl ?_
    refine ar_getf 24 d_129_21 rfl (ci := 0) (k := 1) rfl (hF.at 0 rfl) rfl ?_
    refine ar_getf 27 d_129_24 rfl (ci := 1) (k := 1) rfl hnet rfl ?_
    refine ar_call (r := [.ref n]) (na := 0) (kd := 0) (cm := 50) (fr2 := fr - 1) (lo2 := lo - 22) 30 d_129_27 (ar_hoS (as := [.int x, .int (nI ms.length)]) rfl rfl rfl) rfl (by omega) (show lo - 22 + (19 + 3) = lo by omega) (Nat.le_of_ble_eq_true rfl) (Nat.le_of_ble_eq_true rfl) (c_50 hpos hl128) ?_
    intro v hh hq
    obtain ⟨k, hk, rfl, ehh⟩ := hq
    rw [ehh]
    clear ehh
    have hS1 : AS s0 n nn gg C f q u b h hp_1 (va_up E 100 (upd (E 100) 10 0)) TK Q ms := ⟨hF, hA, hN, hf, hn, hs, hp0⟩
    refine ar_call (r := []) (na := 0) (kd := 0) (cm := 51) (fr2 := fr - 1) (lo2 := lo - 22) 33 d_129_30 (ar_hoV (as := [.int (nI k)]) rfl rfl rfl hnet) rfl (by omega) (show lo - 22 + (19 + 3) = lo by omega) (Nat.le_of_ble_eq_true rfl) (Nat.le_of_ble_eq_true rfl) (hN.take hk) ?_
    intro v hp_2 hq
    obtain ⟨q', x', ms', rfl, hxk, hpm, hN2, hf2, hz1, hz2⟩ := hq
    have hG1 : GS Z s0 n nn gg C f q' x'.1 x'.2 h0 hp_2 (va_up E 100 (upd (E 100) 10 0)) TK Q ms' D K A := GS.as hsn hz hG0 (hS1.take hsn hN2 hf2 hz1 hz2) (perm_mem hpm hM).2 hE ⟨hK.1, hK.2.1, Or.inl rfl⟩
    replace hF : ax_hs hp_2 [(s0, .inr (0, [.ref (n + 264), .ref n, .ref (n + 266), .ref (n + 328), .ref (n + 320), .ref (n + 262), .ref (n + 263), .int (E 100 7), .int (E 100 8), .int (E 100 9), .int 0])), cRk n nn gg C, cOr n nn gg f, cAs n E, cEr n 5 512 E, cEr n 6 100 E, cEr n 7 2 E, cAk n, cEr n 9 512 E, cNa n nn, cEr n 0 48 E, cEr n 1 961 E, cTs n gg E TK, cEr n 59 48 E, cEr n 60 48 E, cEr n 61 48 E, cEr n 62 2400 E, cEr n 63 512 E, cEr n 64 961 E, cEr n 65 961 E] := hG1.1.1
    refine ar_pop 34 d_129_33 rfl rfl ?_
    exact ar_ret d_129_34 rfl (⟨rfl, q', x'.1, x'.2, _, _, _, _, _, _, hG1, fun _ _ => rfl, rfl, Or.inr ⟨x', ms', hpm, rfl⟩⟩)
set_option maxRecDepth 100000 in
theorem g_130 {L : Nat} {xs : Nat → Int32} {fr lo : Nat} {s0 n nn gg : Nat} {C : Int32} {f : Nat → Int32} {q : Nat} {u b : Nat → Int32} {h0 h : ax_H} {Z : ZT} {D : Nat → Nat → Nat → Int32} {K A : Nat → Int64} {E : Nat → Nat → Int32} {TK : Int64} {Q : Nat → Mg} {ms : List Mg} {x : Int32} (hfr : 10 ≤ fr) (hlo : 330 ≤ lo) (hC : CG s0 n nn gg f) (hG : GS Z s0 n nn gg C f q u b h0 h E TK Q ms D K A) : ax_M L xs 130 fr lo [.ref s0, .int x] h (fun r h' => r = none ∧ ∃ (q' : Nat) (u' b' : Nat → Int32), GP Z s0 n nn gg C f q' u' b' h0 h' (va_up E 100 (upd (E 100) 10 0)) TK D (fun S' => (ms = [] ∧ S' = ncm (E, Q, ms, D, K, A)) ∨ ∃ x' : Mg, x' ∈ ms ∧ hoR nn gg C f x' (ncm (E, Q, ms, D, K, A)) S')) := by
  have hC0 := hC
  show ax_A (ax_step L xs) ((130, 0, fr, lo), [(0, .ref s0), (1, .int x)], [], h) _
  obtain ⟨hs0, hsn, hnn3, hnn, hgg1, hgg, hRg⟩ := hC
  have hGG := hG
  obtain ⟨hS, hG0, hM, hE, hK, hz⟩ := hG
  have hM0 := hM
  obtain ⟨hF, hA, hN, hf, hn, hs, hp0⟩ := hS
  replace hF : ax_hs h [cSt s0 n E, cRk n nn gg C, cOr n nn gg f, cAs n E, cEr n 5 512 E, cEr n 6 100 E, cEr n 7 2 E, cAk n, cEr n 9 512 E, cNa n nn, cEr n 0 48 E, cEr n 1 961 E, cTs n gg E TK, cEr n 59 48 E, cEr n 60 48 E, cEr n 61 48 E, cEr n 62 2400 E, cEr n 63 512 E, cEr n 64 961 E, cEr n 65 961 E] := hF
  refine ar_aload_n 1 d_130_0 rfl rfl ?_
  refine ar_iconst 2 (v := 0) d_130_1 rfl (by decide) ?_
  refine ar_putf 5 [.ref (n + 264), .ref n, .ref (n + 266), .ref (n + 328), .ref (n + 320), .ref (n + 262), .ref (n + 263), .int (E 100 7), .int (E 100 8), .int (E 100 9), .int 0] d_130_2 rfl (ci := 0) (k := 10) rfl rfl (hF.at 0 rfl) (Nat.le_of_ble_eq_true rfl) rfl rfl rfl ?_
  replace hF : ax_hs (ax_put h s0 (.inr (0, [.ref (n + 264), .ref n, .ref (n + 266), .ref (n + 328), .ref (n + 320), .ref (n + 262), .ref (n + 263), .int (E 100 7), .int (E 100 8), .int (E 100 9), .int 0]))) [(s0, .inr (0, [.ref (n + 264), .ref n, .ref (n + 266), .ref (n + 328), .ref (n + 320), .ref (n + 262), .ref (n + 263), .int (E 100 7), .int (E 100 8), .int (E 100 9), .int 0])), cRk n nn gg C, cOr n nn gg f, cAs n E, cEr n 5 512 E, cEr n 6 100 E, cEr n 7 2 E, cAk n, cEr n 9 512 E, cNa n nn, cEr n 0 48 E, cEr n 1 961 E, cTs n gg E TK, cEr n 59 48 E, cEr n 60 48 E, cEr n 61 48 E, cEr n 62 2400 E, cEr n 63 512 E, cEr n 64 961 E, cEr n 65 961 E] := hF.put 0 _ rfl rfl
  replace hf := hf.put (a := s0) (c := .inr (0, [.ref (n + 264), .ref n, .ref (n + 266), .ref (n + 328), .ref (n + 320), .ref (n + 262), .ref (n + 263), .int (E 100 7), .int (E 100 8), .int (E 100 9), .int 0])) (Or.inr (by omega))
  replace hN := hN.put (a := s0) (c := .inr (0, [.ref (n + 264), .ref n, .ref (n + 266), .ref (n + 328), .ref (n + 320), .ref (n + 262), .ref (n + 263), .int (E 100 7), .int (E 100 8), .int (E 100 9), .int 0])) (by omega)
  replace hA := hA.put (a := s0) (c := .inr (0, [.ref (n + 264), .ref n, .ref (n + 266), .ref (n + 328), .ref (n + 320), .ref (n + 262), .ref (n + 263), .int (E 100 7), .int (E 100 8), .int (E 100 9), .int 0])) (by omega)
  replace hn : (ax_put h s0 (.inr (0, [.ref (n + 264), .ref n, .ref (n + 266), .ref (n + 328), .ref (n + 320), .ref (n + 262), .ref (n + 263), .int (E 100 7), .int (E 100 8), .int (E 100 9), .int 0]))).1 = h.1 := hn
  replace hs : (ax_put h s0 (.inr (0, [.ref (n + 264), .ref n, .ref (n + 266), .ref (n + 328), .ref (n + 320), .ref (n + 262), .ref (n + 263), .int (E 100 7), .int (E 100 8), .int (E 100 9), .int 0]))).2.1 = h.2.1 := hs
  generalize ax_put h s0 (.inr (0, [.ref (n + 264), .ref n, .ref (n + 266), .ref (n + 328), .ref (n + 320), .ref (n + 262), .ref (n + 263), .int (E 100 7), .int (E 100 8), .int (E 100 9), .int 0])) = hp_1 at hF hf hA hN hn hs ⊢
  refine ar_aload_n 6 d_130_5 rfl rfl ?_
  refine ar_getf 9 d_130_6 rfl (ci := 0) (k := 1) rfl (hF.at 0 rfl) rfl ?_
  obtain ⟨hl128, za, zc, hnet⟩ := hN.netc
  refine ar_getf 12 d_130_9 rfl (ci := 1) (k := 1) rfl hnet rfl ?_
  refine ar_if_le 38 15 d_130_12 (by decide) rfl (fun c1 => ?_) (fun c1 => ?_)
  · have hS1 : AS s0 n nn gg C f q u b h hp_1 (va_up E 100 (upd (E 100) 10 0)) TK Q ms := ⟨hF, hA, hN, hf, hn, hs, hp0⟩
    have hG9 : GS Z s0 n nn gg C f q u b h0 hp_1 (va_up E 100 (upd (E 100) 10 0)) TK Q ms D K A := GS.as hsn hz hG0 hS1 hM hE ⟨hK.1, hK.2.1, Or.inl rfl⟩
    have hnil : ms = [] := List.eq_nil_of_length_eq_zero (Nat.eq_zero_of_not_pos (fun z => nI_nle z (by omega) c1))
    exact ar_ret d_130_38 rfl (⟨rfl, q, u, b, _, _, _, _, _, _, hG9, fun _ _ => rfl, rfl, Or.inl ⟨hnil, rfl⟩⟩)
  · have hpos : 0 < ms.length := Nat.pos_of_ne_zero (fun z => c1 (by rw [z]; exact Int32.le_refl _))
    refine ar_aload_n 16 d_130_15 rfl rfl ?_
    refine ar_aload_n 17 d_130_16 rfl rfl ?_
    refine ar_getf 20 d_130_17 rfl (ci := 0) (k := 1) rfl (hF.at 0 rfl) rfl ?_
    refine ar_getf 23 d_130_20 rfl (ci := 1) (k := 0) rfl hnet rfl ?_
    refine ar_iload_n 24 d_130_23 rfl rfl ?_
    refine ar_aload_n 25 d_130_24 rfl rfl ?_
    refine ar_getf 28 d_130_25 rfl (ci := 0) (k := 1) rfl (hF.at 0 rfl) rfl ?_
    refine ar_getf 31 d_130_28 rfl (ci := 1) (k := 1) rfl hnet rfl ?_
    refine ar_call (r := [.ref (n + 1), .ref s0]) (na := 0) (kd := 0) (cm := 50) (fr2 := fr - 1) (lo2 := lo - 22) 34 d_130_31 (ar_hoS (as := [.int x, .int (nI ms.length)]) rfl rfl rfl) rfl (by omega) (show lo - 22 + (19 + 3) = lo by omega) (Nat.le_of_ble_eq_true rfl) (Nat.le_of_ble_eq_true rfl) (c_50 hpos hl128) ?_
    intro v hh hq
    obtain ⟨k, hk, rfl, ehh⟩ := hq
    rw [ehh]
    clear ehh
    obtain ⟨wf, hw, hw2⟩ := hN.way
    obtain ⟨q', x', hfk, hxk, hN2⟩ := hw2 k hk
    refine ar_aald 35 d_130_34 rfl hw rfl (vin (by omega) (by decide)) ?_
    refine ar_tv (v' := .ref (n + 1 + 1 + 2 * q')) (by rw [nI_clamp (show k < 2 ^ 31 by omega), hfk]; rfl) ?_
    have hG1 : GS Z s0 n nn gg C f q' x'.1 x'.2 h0 hp_1 (va_up E 100 (upd (E 100) 10 0)) TK Q ms D K A := GS.as hsn hz hG0 ⟨hF, hA, hN2, hf, hn, hs, hp0⟩ hM hE ⟨hK.1, hK.2.1, Or.inl rfl⟩
    refine ar_call (r := []) (na := 0) (kd := 0) (cm := 52) (fr2 := fr - 1) (lo2 := lo - 21) 38 d_130_35 (ar_hoV (as := [.ref (n + 1 + 1 + 2 * q')]) rfl rfl rfl (hF.at 0 rfl)) rfl (by omega) (show lo - 21 + (19 + 2) = lo by omega) (Nat.le_of_ble_eq_true rfl) (Nat.le_of_ble_eq_true rfl) (g_52 (by omega) (by omega) hC0 hG1 (hM x' (List.mem_of_getElem? hxk))) ?_
    intro v hp_2 hq
    obtain ⟨rfl, hP⟩ := hq
    obtain ⟨E7, Q7, ms7, D7, K7, A7, p1, p2, p3, p4⟩ := hP
    exact ar_ret d_130_38 rfl (⟨rfl, q', x'.1, x'.2, E7, Q7, ms7, D7, K7, A7, p1, p2, p3, Or.inr ⟨x', List.mem_of_getElem? hxk, p4⟩⟩)

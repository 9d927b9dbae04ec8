/-! readDisk -/
def RD (ff0 : Nat → Int32) (i : Nat) (dc : Int32) (ff rf sw ow tf : Nat → Int32) : Prop := ∃ c : Nat, c ≤ 32 ∧ dc = nI c ∧
  (∀ j, j < c → ∃ s : Nat, s < i ∧ s < 280 ∧ sw j = nI s ∧ ow s = nI j) ∧
  (∀ s, s < 280 → ow s = -1 ∨ ∃ j : Nat, j < c ∧ ow s = nI j ∧ sw j = nI s) ∧
  (∀ s, s < 280 → i ≤ s → tf s = -1 ∧ blE ff s ff0 s) ∧
  (∀ s, s < 280 → s < i → ow s = -1 → (tf s = -1 ∧ ¬ whB ff s) ∨ (¬ tf s = -1 ∧ whB ff s ∧ ff (s * 128 + 1) = tf s)) ∧
  (∀ s, s < 280 → whB ff s → blE ff s ff0 s) ∧
  (∀ s j : Nat, s < 280 → j < c → ow s = nI j → tf s = -1 ∧ fstB (rf (j * 128)) = 0) ∧
  (∀ s t, s < 280 → t < 280 → tf s = tf t → ¬ tf s = -1 → s = t) ∧
  (∀ s, s < 280 → s < i → whB ff0 s → ∃ t, t < 280 ∧ t < i ∧ tf t = ff0 (s * 128 + 1))
theorem RD.flush {ff0 ff rf sw ow tf : Nat → Int32} {c i : Nat} (hc : c ≤ 32) (h : RD ff0 i (nI c) ff rf sw ow tf) : RD ff0 i 0 (flsF rf sw c ff) rf sw (flsO sw c ow) tf ∧ ∀ s, s < 280 → flsO sw c ow s = -1 := by
  obtain ⟨c0, hc0, ec, h1, h2, h3, h4, h5, h6, h7, h8⟩ := h
  have e0 : c0 = c := nI_inj (by omega) (by omega) ec.symm
  subst e0
  have hin : ∀ s, s < 280 → (∃ j, j < c0 ∧ sw j = nI s ∧ ow s = nI j) ∨ ((∀ j, j < c0 → ¬ sw j < 0 ∧ (sw j).toNatClampNeg ≠ s) ∧ ow s = -1) := fun s hs => by
    rcases h2 s hs with e | ⟨j, a1, a2, a3⟩
    · refine Or.inr ⟨fun j hj => ?_, e⟩
      obtain ⟨s2, b0, b1, b2, b3⟩ := h1 j hj
      rw [b2, nI_clamp (by omega)]
      refine ⟨nI_pos (by omega), fun z => ?_⟩
      rw [z, e] at b3
      exact nIneg (by omega) b3.symm
    · exact Or.inl ⟨j, a1, a3, a2⟩
  have hone : ∀ s j k, s < 280 → j < c0 → k < c0 → j ≠ k → sw k = nI s → (sw j).toNatClampNeg ≠ s := fun s j k hs hj hk hjk e z => by
    obtain ⟨s1, b0, b1, b2, b3⟩ := h1 j hj
    obtain ⟨s2, d0, d1, d2, d3⟩ := h1 k hk
    rw [b2, nI_clamp (by omega)] at z
    rw [e] at d2
    have := nI_inj (by omega) (by omega) d2
    subst z this
    rw [b3] at d3
    exact hjk (nI_inj (by omega) (by omega) d3)
  have hO : ∀ s, s < 280 → flsO sw c0 ow s = -1 := fun s hs => by
    rcases hin s hs with ⟨j, a1, a2, a3⟩ | ⟨a1, a2⟩
    · exact flsO_in c0 a1 (by rw [a2, nI_clamp (by omega)])
    · rw [flsO_out c0 (fun j hj => (a1 j hj).2), a2]
  have hF : ∀ s, s < 280 → (∃ j, j < c0 ∧ ow s = nI j ∧ sw j = nI s ∧ ∀ x, x < 128 → flsF rf sw c0 ff (s * 128 + x) = rf (j * 128 + x)) ∨ (ow s = -1 ∧ ∀ x, x < 128 → flsF rf sw c0 ff (s * 128 + x) = ff (s * 128 + x)) := fun s hs => by
    rcases hin s hs with ⟨j, a1, a2, a3⟩ | ⟨a1, a2⟩
    · exact Or.inl ⟨j, a1, a3, a2, fun x hx => flsF_in c0 hx a1 (by rw [a2, nI_clamp (by omega)]) (fun i hi hij => hone s i j hs hi a1 hij a2)⟩
    · exact Or.inr ⟨a2, fun x hx => flsF_out c0 hx a1⟩
  refine ⟨⟨0, by omega, rfl, fun j hj => absurd hj (by omega), fun s hs => Or.inl (hO s hs), fun s hs his => ?_, fun s hs hsi _ => ?_, fun s hs hw => ?_, fun s j _ hj _ => absurd hj (by omega), h7, h8⟩, hO⟩
  · refine ⟨(h3 s hs his).1, ?_⟩
    rcases hF s hs with ⟨j, a1, a2, a4, a3⟩ | ⟨a1, a2⟩
    · obtain ⟨s2, d0, d1, d2, d3⟩ := h1 j a1
      rw [a4] at d2
      have := nI_inj (by omega) (by omega) d2
      omega
    · exact fun x hx => (a2 x hx).trans ((h3 s hs his).2 x hx)
  · rcases hF s hs with ⟨j, a1, a2, _, a3⟩ | ⟨a1, a2⟩
    · have := h6 s j hs a1 a2
      exact Or.inl ⟨this.1, fun z => ((whB_blk a3).mp z).1 this.2⟩
    · rcases h4 s hs hsi a1 with ⟨b1, b2⟩ | ⟨b1, b2, b3⟩
      · exact Or.inl ⟨b1, fun z => b2 ((whB_blk a2).mp z)⟩
      · exact Or.inr ⟨b1, (whB_blk a2).mpr b2, by rw [a2 1 (by decide)]; exact b3⟩
  · rcases hF s hs with ⟨j, a1, a2, _, a3⟩ | ⟨a1, a2⟩
    · exact absurd (h6 s j hs a1 a2).2 ((whB_blk a3).mp hw).1
    · exact fun x hx => (a2 x hx).trans (h5 s hs ((whB_blk a2).mp hw) x hx)
theorem RD.erase {ff0 ff rf sw ow tf : Nat → Int32} {c i t0 : Nat} (hc : c < 32) (hi : i < 280) (h : RD ff0 i (nI c) ff rf sw ow tf) (ht : t0 < 280) (et : tf t0 = ff (i * 128 + 1)) (hnn : ¬ ff (i * 128 + 1) = -1) : RD ff0 (i + 1) (nI (c + 1)) ff (erF rf c) (upd sw c (nI i)) (upd ow i (nI c)) (upd tf i (-1)) := by
  obtain ⟨c0, hc0, ec, h1, h2, h3, h4, h5, h6, h7, h8⟩ := h
  have e0 : c0 = c := nI_inj (by omega) (by omega) ec.symm
  subst e0
  have hti : t0 < i := by
    rcases Nat.lt_or_ge t0 i with z | z
    · exact z
    · exact absurd ((h3 t0 ht z).1.symm.trans et).symm hnn
  refine ⟨c0 + 1, by omega, rfl, fun j hj => ?_, fun s2 hs2 => ?_, fun s hs his => ?_, fun s2 hs2 hsi ho2 => ?_, h5, fun s2 j hs2 hj ho2 => ?_, fun s2 t2 hs2 ht2 e hne2 => ?_, fun s hs hsi hw => ?_⟩
  · by_cases ej : j = c0
    · subst ej
      exact ⟨i, by omega, hi, pk_us, pk_us⟩
    · obtain ⟨s2, d0, d1, d2, d3⟩ := h1 j (by omega)
      exact ⟨s2, by omega, d1, by rw [pk_un ej]; exact d2, by rw [pk_un (show s2 ≠ i by omega)]; exact d3⟩
  · by_cases es : s2 = i
    · subst es
      exact Or.inr ⟨c0, by omega, pk_us, pk_us⟩
    · rw [pk_un es]
      rcases h2 s2 hs2 with e | ⟨j, d1, d2, d3⟩
      · exact Or.inl e
      · exact Or.inr ⟨j, by omega, d2, by rw [pk_un (show j ≠ c0 by omega)]; exact d3⟩
  · rw [pk_un (show s ≠ i by omega)]
    exact h3 s hs (by omega)
  · by_cases es : s2 = i
    · subst es
      rw [pk_us] at ho2
      exact absurd ho2 (nIneg (by omega))
    · rw [pk_un es] at ho2 ⊢
      exact h4 s2 hs2 (by omega) ho2
  · by_cases es : s2 = i
    · subst es
      rw [pk_us] at ho2 ⊢
      have : c0 = j := nI_inj (by omega) (by omega) ho2
      subst this
      exact ⟨rfl, erF_st⟩
    · rw [pk_un es] at ho2 ⊢
      have hj2 : j < c0 := by
        rcases h2 s2 hs2 with e | ⟨i, d1, d2, d3⟩
        · rw [e] at ho2; exact absurd ho2.symm (nIneg (by omega))
        · rw [d2] at ho2
          have : i = j := nI_inj (by omega) (by omega) ho2
          omega
      have := h6 s2 j hs2 hj2 ho2
      exact ⟨this.1, by rw [erF_out (by omega)]; exact this.2⟩
  · by_cases es : s2 = i
    · rw [es, pk_us] at hne2
      exact absurd rfl hne2
    · rw [pk_un es] at e hne2
      by_cases et : t2 = i
      · rw [et, pk_us] at e
        exact absurd e hne2
      · rw [pk_un et] at e
        exact h7 s2 t2 hs2 ht2 e hne2
  · by_cases es : s = i
    · subst es
      refine ⟨t0, ht, by omega, ?_⟩
      rw [pk_un (show t0 ≠ s by omega), et]
      exact (h3 s hs (Nat.le_refl _)).2 1 (by decide)
    · obtain ⟨t, d1, d2, d3⟩ := h8 s hs (by omega) hw
      exact ⟨t, d1, by omega, by rw [pk_un (show t ≠ i by omega)]; exact d3⟩
/-- the tag of a block is noted: it is whole and new, or it is not whole -/
theorem RD.note {ff0 ff rf sw ow tf : Nat → Int32} {dc v : Int32} {i : Nat} (hi : i < 280) (h : RD ff0 i dc ff rf sw ow tf) (hv : (whB ff i ∧ v = ff (i * 128 + 1) ∧ ¬ v = -1 ∧ ∀ s, s < 280 → ¬ tf s = v) ∨ (¬ whB ff i ∧ v = -1)) : RD ff0 (i + 1) dc ff rf sw ow (upd tf i v) := by
  obtain ⟨c0, hc0, ec, h1, h2, h3, h4, h5, h6, h7, h8⟩ := h
  have hoi : ow i = -1 := by
    rcases h2 i hi with e | ⟨j, d1, d2, d3⟩
    · exact e
    · obtain ⟨s2, e0, e1, e2, e3⟩ := h1 j d1
      rw [d3] at e2
      have := nI_inj (by omega) (by omega) e2
      omega
  have hb := (h3 i hi (Nat.le_refl _)).2
  refine ⟨c0, hc0, ec, fun j hj => ?_, h2, fun s hs his => ?_, fun s2 hs2 hsi ho2 => ?_, h5, fun s2 j hs2 hj ho2 => ?_, fun s2 t2 hs2 ht2 e hne2 => ?_, fun s hs hsi hw => ?_⟩
  · obtain ⟨s2, d0, d1, d2, d3⟩ := h1 j hj
    exact ⟨s2, by omega, d1, d2, d3⟩
  · rw [pk_un (show s ≠ i by omega)]
    exact h3 s hs (by omega)
  · by_cases es : s2 = i
    · subst es
      rw [pk_us]
      rcases hv with ⟨a1, a2, a3, a4⟩ | ⟨a1, a2⟩
      · exact Or.inr ⟨a3, a1, a2.symm⟩
      · exact Or.inl ⟨a2, a1⟩
    · rw [pk_un es]
      exact h4 s2 hs2 (by omega) ho2
  · have : s2 ≠ i := fun z => by
      rw [z, hoi] at ho2
      exact absurd ho2.symm (nIneg (by omega))
    rw [pk_un this]
    exact h6 s2 j hs2 hj ho2
  · rcases hv with ⟨a1, a2, a3, a4⟩ | ⟨a1, a2⟩
    · by_cases es : s2 = i
      · by_cases et : t2 = i
        · rw [es, et]
        · rw [es, pk_us, pk_un et] at e
          exact absurd e.symm (a4 t2 ht2)
      · by_cases et : t2 = i
        · rw [et, pk_us, pk_un es] at e
          exact absurd e (a4 s2 hs2)
        · rw [pk_un es, pk_un et] at e
          rw [pk_un es] at hne2
          exact h7 s2 t2 hs2 ht2 e hne2
    · by_cases es : s2 = i
      · rw [es, pk_us, a2] at hne2
        exact absurd rfl hne2
      · rw [pk_un es] at e hne2
        by_cases et : t2 = i
        · rw [et, pk_us, a2] at e
          exact absurd e hne2
        · rw [pk_un et] at e
          exact h7 s2 t2 hs2 ht2 e hne2
  · by_cases es : s = i
    · subst es
      have hw2 := (whB_blk hb).mpr hw
      rcases hv with ⟨a1, a2, a3, a4⟩ | ⟨a1, a2⟩
      · exact ⟨s, hs, by omega, by rw [pk_us, a2]; exact hb 1 (by decide)⟩
      · exact absurd hw2 a1
    · obtain ⟨t, d1, d2, d3⟩ := h8 s hs (by omega) hw
      exact ⟨t, d1, by omega, by rw [pk_un (show t ≠ i by omega)]; exact d3⟩
theorem sloB_cs (tf : Nat → Int32) (t : Int32) : (sloB tf t = -1 ∧ ∀ s, s < 280 → ¬ tf s = t) ∨ ∃ s, s < 280 ∧ sloB tf t = nI s ∧ tf s = t := by
  rcases fst1_spec (fun i => decide (tf i = t)) 280 0 with ⟨j, _, a2, a3, _, a5⟩ | ⟨a1, a2⟩
  · exact Or.inr ⟨j, by omega, a5, of_decide_eq_true a3⟩
  · exact Or.inl ⟨a2, fun s hs e => by have := a1 s (by omega) (by omega); rw [decide_eq_false_iff_not] at this; exact this e⟩
theorem read_lem {B : (Nat → Int32) → Prop} {nn gg : Nat} {C me : Int32} {f u b : Nat → Int32} {ff0 : Nat → Int32} (hB : BX B) (hW : ∀ s, s < 280 → whB ff0 s → B (fun x => ff0 (s * 128 + x))) :
    ∀ (k i : Nat) (D : Nat → Nat → Int32) (K A : Int64) (Y : List Mg), i + k = 280 → RD ff0 i (D 1 4) (D 2) (D 3) (D 4) (D 5) (D 6) →
    ∃ D' : Nat → Nat → Int32, G_19 nn gg C me f u b k i D K A Y = (D', K, A, Y) ∧ (∀ q, q ≠ 4 → D' 1 q = D 1 q) ∧ (∀ q, q = 0 ∨ 6 < q → D' q = D q) ∧ RD ff0 280 (D' 1 4) (D' 2) (D' 3) (D' 4) (D' 5) (D' 6)
  | 0, i, D, K, A, Y, hi, h => by
    have : i = 280 := by omega
    subst this
    exact ⟨D, rfl, fun _ _ => rfl, fun _ _ => rfl, h⟩
  | k + 1, i, D, K, A, Y, hi, h => by
    have rec_ : ∀ D2 : Nat → Nat → Int32, (∀ q, q ≠ 4 → D2 1 q = D 1 q) → (∀ q, q = 0 ∨ 6 < q → D2 q = D q) → RD ff0 (i + 1) (D2 1 4) (D2 2) (D2 3) (D2 4) (D2 5) (D2 6) → ∃ D' : Nat → Nat → Int32, G_19 nn gg C me f u b k (i + 1) D2 K A Y = (D', K, A, Y) ∧ (∀ q, q ≠ 4 → D' 1 q = D 1 q) ∧ (∀ q, q = 0 ∨ 6 < q → D' q = D q) ∧ RD ff0 280 (D' 1 4) (D' 2) (D' 3) (D' 4) (D' 5) (D' 6) := fun D2 g1 g2 g3 => by
      obtain ⟨D', a1, a2, a3, a4⟩ := read_lem hB hW k (i + 1) D2 K A Y (by omega) g3
      exact ⟨D', a1, fun q hq => by rw [a2 q hq, g1 q hq], fun q hq => by rw [a3 q hq, g2 q hq], a4⟩
    unfold G_19
    split
    · rename_i hw
      have hw' : whB (D 2) i := hw
      have hb : blE (D 2) i ff0 i := by
        obtain ⟨_, _, _, _, _, _, _, z, _⟩ := h
        exact z i (by omega) hw'
      have htag : ¬ D 2 (i * 128 + 1) < 0 := by
        rw [hb 1 (by decide)]
        exact hB.2 _ (hW i (by omega) ((whB_blk hb).mp hw'))
      have hne : ¬ D 2 (i * 128 + 1) = -1 := fun e => htag (by rw [e]; decide)
      rw [if_neg htag]
      rcases sloB_cs (D 6) (D 2 (i * 128 + 1)) with ⟨e, hn⟩ | ⟨t0, ht0, e, et⟩
      · rw [if_pos e]
        refine rec_ _ (fun q _ => by rw [va_up_n _ _ (by decide)]) (fun q hq => va_up_n _ _ (by omega)) ?_
        rw [va_up_n _ _ (by decide), va_up_n _ _ (by decide), va_up_n _ _ (by decide), va_up_n _ _ (by decide), va_up_n _ _ (by decide), va_up_s]
        exact h.note (by omega) (Or.inl ⟨hw', rfl, hne, hn⟩)
      · rw [if_neg (by rw [e]; exact nIneg (by omega))]
        obtain ⟨c, hc, ec, hrest⟩ := h
        have h : RD ff0 i (nI c) (D 2) (D 3) (D 4) (D 5) (D 6) := ⟨c, hc, rfl, hrest⟩
        simp only [bnN, bnS]
        split
        · obtain ⟨hf, hfo⟩ := h.flush hc
          have h2 := RD.erase (c := 0) (by decide) (by omega) hf ht0 (by
            rw [et]
            obtain ⟨_, _, _, _, _, z, _⟩ := hf
            have := ((z i (by omega) (Nat.le_refl _)).2) 1 (by decide)
            rw [this]
            exact hb 1 (by decide)) (by
            obtain ⟨_, _, _, _, _, z, _⟩ := hf
            have := ((z i (by omega) (Nat.le_refl _)).2) 1 (by decide)
            rw [this, ← hb 1 (by decide)]
            exact hne)
          have ec2 : (D 1 4).toNatClampNeg = c := by rw [ec, nI_clamp (by omega)]
          refine rec_ _ (fun q hq => ?_) (fun q hq => ?_) ?_
          · simp [va_up, pk_un hq]
          · simp only [va_up]
            repeat rw [if_neg (by omega)]
          · simp only [va_up_s, va_up_n _ _ (show (1 : Nat) ≠ 2 by decide), va_up, upd_s, ec2]
            exact h2
        · rename_i hne32
          have hc32 : c < 32 := by
            rcases Nat.lt_or_ge c 32 with z | z
            · exact z
            · exact absurd (by rw [ec, show c = 32 by omega]; rfl) hne32
          have h2 := h.erase hc32 (by omega) ht0 et hne
          have ec2 : (D 1 4).toNatClampNeg = c := by rw [ec, nI_clamp (by omega)]
          refine rec_ _ (fun q hq => ?_) (fun q hq => ?_) ?_
          · simp [va_up, pk_un hq]
          · simp only [va_up]
            repeat rw [if_neg (by omega)]
          · simp only [va_up_s, va_up, upd_s, ec2]
            exact h2
    · rename_i hw
      have hw' : ¬ whB (D 2) i := hw
      refine rec_ _ (fun q _ => by rw [va_up_n _ _ (by decide)]) (fun q hq => va_up_n _ _ (by omega)) ?_
      rw [va_up_n _ _ (by decide), va_up_n _ _ (by decide), va_up_n _ _ (by decide), va_up_n _ _ (by decide), va_up_n _ _ (by decide), va_up_s]
      exact h.note (by omega) (Or.inr ⟨hw', rfl⟩)
/-- RESTART -/
theorem DN.read {B : (Nat → Int32) → Prop} {nn gg : Nat} {C me : Int32} {f u b : Nat → Int32} {D : Nat → Nat → Int32} {K A : Int64} {Y : List Mg} (hB : BX B) (h : DN B (D 1 4) (D 2) (D 5) (D 6)) :
    ∃ D' : Nat → Nat → Int32, F_19 nn gg C me f u b D K A Y = (D', K, A, Y) ∧ (∀ q, q ≠ 4 → D' 1 q = D 1 q) ∧ (∀ q, q = 0 ∨ 6 < q → D' q = D q) ∧ DU B (D' 1 4) (D' 2) (D' 3) (D' 4) (D' 5) (D' 6) ∧ ∀ x, (∃ s, s < 280 ∧ D' 6 s = x ∧ D' 5 s = -1 ∧ ¬ x = -1) ↔ ∃ s, s < 280 ∧ whB (D 2) s ∧ D 2 (s * 128 + 1) = x := by
  obtain ⟨h1, h2, h3⟩ := h
  have hne : ∀ s, s < 280 → whB (D 2) s → ¬ D 2 (s * 128 + 1) = -1 := fun s hs hw e => hB.2 _ (h3 s hs hw) (by show D 2 (s * 128 + 1) < 0; rw [e]; decide)
  obtain ⟨D', a1, a2, a3, c, b1, b2, b3, b4, b5, b6, b7, b8, b9, b10⟩ := read_lem (nn := nn) (gg := gg) (C := C) (me := me) (f := f) (u := u) (b := b) hB h3 280 0 D K A Y (by omega) ⟨0, by omega, h1, fun j hj => absurd hj (by omega), fun s hs => Or.inl (h2 s hs).1, fun s hs _ => ⟨(h2 s hs).2, fun _ _ => rfl⟩, fun s _ hs => absurd hs (by omega), fun s _ _ _ _ => rfl, fun s j _ hj => absurd hj (by omega), fun s t hs _ _ hne => absurd (h2 s hs).2 hne, fun s _ hs => absurd hs (by omega)⟩
  refine ⟨D', a1, a2, a3, ⟨c, b1, b2, fun j hj => ?_, b4, fun s hs => b6 s hs hs, fun s hs hw => ?_, fun s j hs hj e => Or.inl (b8 s j hs hj e), b9⟩, fun x => ⟨fun ⟨s, hs, e1, e2, e3⟩ => ?_, fun ⟨s, hs, e1, e2⟩ => ?_⟩⟩
  · obtain ⟨s, d0, d1, d2, d3⟩ := b3 j hj
    exact ⟨s, d1, d2, d3⟩
  · have z := b7 s hs hw
    exact hB.1 _ _ (fun i _ hi => (z i (by omega)).symm) (h3 s hs ((whB_blk z).mp hw))
  · rcases b6 s hs hs e2 with ⟨d1, _⟩ | ⟨_, d2, d3⟩
    · exact absurd (e1.symm.trans d1) e3
    · have z := b7 s hs d2
      exact ⟨s, hs, (whB_blk z).mp d2, by rw [← z 1 (by decide), d3, e1]⟩
  · obtain ⟨t, d1, _, d3⟩ := b10 s hs hs e1
    have hx : ¬ x = -1 := fun z => hne s hs e1 (by rw [e2, z])
    refine ⟨t, d1, by rw [d3, e2], ?_, hx⟩
    rcases b4 t d1 with e | ⟨j, g1, g2, g3⟩
    · exact e
    · exact absurd ((b8 t j d1 g1 g2).1.symm.trans d3) (fun z => hx (by rw [← e2, ← z]))

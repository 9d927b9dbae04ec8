/-! a DISK that is UP: what stands in memory, what stands FLUSHED (B: a block is as it must be) -/
def DU (B : (Nat → Int32) → Prop) (dc : Int32) (ff rf sw ow tf : Nat → Int32) : Prop := ∃ c : Nat, c ≤ 32 ∧ dc = nI c ∧
  (∀ j, j < c → ∃ s : Nat, s < 280 ∧ sw j = nI s ∧ ow s = nI j) ∧
  (∀ s, s < 280 → ow s = -1 ∨ ∃ j : Nat, j < c ∧ ow s = nI j ∧ sw j = nI s) ∧
  (∀ s, s < 280 → ow s = -1 → (tf s = -1 ∧ ¬ whB ff s) ∨ (¬ tf s = -1 ∧ whB ff s ∧ ff (s * 128 + 1) = tf s)) ∧
  (∀ s, s < 280 → whB ff s → B (fun x => ff (s * 128 + x))) ∧
  (∀ s j : Nat, s < 280 → j < c → ow s = nI j → (tf s = -1 ∧ fstB (rf (j * 128)) = 0) ∨ (¬ tf s = -1 ∧ ¬ whB ff s ∧ rf (j * 128 + 1) = tf s ∧ B (fun x => rf (j * 128 + x)) ∧ whB rf j ∧ ¬ fstB (rf (j * 128)) = lstB (ff (s * 128 + 127)))) ∧
  (∀ s t, s < 280 → t < 280 → tf s = tf t → ¬ tf s = -1 → s = t)
/-- a DISK whose NODE is DOWN -/
def DN (B : (Nat → Int32) → Prop) (dc : Int32) (ff ow tf : Nat → Int32) : Prop := dc = 0 ∧ (∀ s, s < 280 → ow s = -1 ∧ tf s = -1) ∧ (∀ s, s < 280 → whB ff s → B (fun x => ff (s * 128 + x)))
/-- B looks at words 1 to 126 alone, and at no block with a negative tag -/
def BX (B : (Nat → Int32) → Prop) : Prop := (∀ w w' : Nat → Int32, (∀ i, 1 ≤ i → i < 127 → w i = w' i) → B w → B w') ∧ ∀ w, B w → ¬ w 1 < 0
theorem nIneg {j : Nat} (h : j < 2 ^ 31) : ¬ nI j = -1 := fun e => nI_pos h (by rw [e]; decide)
theorem whB_blk {f g : Nat → Int32} {s t : Nat} (h : ∀ x, x < 128 → g (s * 128 + x) = f (t * 128 + x)) : whB g s ↔ whB f t := by
  have h0 := h 0 (by decide)
  have h1 := h 127 (by decide)
  rw [Nat.add_zero, Nat.add_zero] at h0
  unfold whB
  rw [h0, h1]
theorem DU.flush {B : (Nat → Int32) → Prop} {ff rf sw ow tf : Nat → Int32} {c : Nat} (hB : BX B) (hc : c ≤ 32) (h : DU B (nI c) ff rf sw ow tf) : DU B 0 (flsF rf sw c ff) rf sw (flsO sw c ow) tf ∧ ∀ s, s < 280 → flsO sw c ow s = -1 := by
  obtain ⟨c0, hc0, ec, h1, h2, h3, h4, h5, h6⟩ := h
  have e0 : c0 = c := nI_inj (by omega) (by omega) ec.symm
  subst e0
  have hin : ∀ s, s < 280 → (∃ j, j < c0 ∧ sw j = nI s ∧ ow s = nI j) ∨ ((∀ j, j < c0 → ¬ sw j < 0 ∧ (sw j).toNatClampNeg ≠ s) ∧ ow s = -1) := fun s hs => by
    rcases h2 s hs with e | ⟨j, a1, a2, a3⟩
    · refine Or.inr ⟨fun j hj => ?_, e⟩
      obtain ⟨s2, b1, b2, b3⟩ := h1 j hj
      rw [b2, nI_clamp (by omega)]
      refine ⟨nI_pos (by omega), fun z => ?_⟩
      rw [z, e] at b3
      exact nIneg (by omega) b3.symm
    · exact Or.inl ⟨j, a1, a3, a2⟩
  have hone : ∀ s j k, s < 280 → j < c0 → k < c0 → j ≠ k → sw k = nI s → (sw j).toNatClampNeg ≠ s := fun s j k hs hj hk hjk e z => by
    obtain ⟨s1, b1, b2, b3⟩ := h1 j hj
    obtain ⟨s2, d1, d2, d3⟩ := h1 k hk
    rw [b2, nI_clamp (by omega)] at z
    rw [e] at d2
    have := nI_inj (by omega) (by omega) d2
    subst z this
    rw [b3] at d3
    exact hjk (nI_inj (by omega) (by omega) d3)
  have hO : ∀ s, s < 280 → flsO sw c0 ow s = -1 := fun s hs => by
    rcases hin s hs with ⟨j, a1, a2, a3⟩ | ⟨a1, a2⟩
    · exact flsO_in c0 a1 (by rw [a2, nI_clamp (by omega)])
    · rw [flsO_out c0 (fun j hj => (a1 j hj).2), a2]
  have hF : ∀ s, s < 280 → (∃ j, j < c0 ∧ ow s = nI j ∧ ∀ x, x < 128 → flsF rf sw c0 ff (s * 128 + x) = rf (j * 128 + x)) ∨ (ow s = -1 ∧ ∀ x, x < 128 → flsF rf sw c0 ff (s * 128 + x) = ff (s * 128 + x)) := fun s hs => by
    rcases hin s hs with ⟨j, a1, a2, a3⟩ | ⟨a1, a2⟩
    · exact Or.inl ⟨j, a1, a3, fun x hx => flsF_in c0 hx a1 (by rw [a2, nI_clamp (by omega)]) (fun i hi hij => hone s i j hs hi a1 hij a2)⟩
    · exact Or.inr ⟨a2, fun x hx => flsF_out c0 hx a1⟩
  refine ⟨⟨0, by omega, rfl, fun j hj => absurd hj (by omega), fun s hs => Or.inl (hO s hs), fun s hs _ => ?_, fun s hs hw => ?_, fun s j _ hj _ => absurd hj (by omega), h6⟩, hO⟩
  · rcases hF s hs with ⟨j, a1, a2, a3⟩ | ⟨a1, a2⟩
    · rcases h5 s j hs a1 a2 with ⟨b1, b2⟩ | ⟨b1, b2, b3, b4, b5, b6⟩
      · exact Or.inl ⟨b1, fun z => ((whB_blk a3).mp z).1 b2⟩
      · exact Or.inr ⟨b1, (whB_blk a3).mpr b5, by rw [a3 1 (by decide)]; exact b3⟩
    · rcases h3 s hs a1 with ⟨b1, b2⟩ | ⟨b1, b2, b3⟩
      · exact Or.inl ⟨b1, fun z => b2 ((whB_blk a2).mp z)⟩
      · exact Or.inr ⟨b1, (whB_blk a2).mpr b2, by rw [a2 1 (by decide)]; exact b3⟩
  · rcases hF s hs with ⟨j, a1, a2, a3⟩ | ⟨a1, a2⟩
    · rcases h5 s j hs a1 a2 with ⟨b1, b2⟩ | ⟨b1, b2, b3, b4, b5, b6⟩
      · exact absurd b2 ((whB_blk a3).mp hw).1
      · exact hB.1 _ _ (fun i _ hi => (a3 i (by omega)).symm) b4
    · exact hB.1 _ _ (fun i _ hi => (a2 i (by omega)).symm) (h4 s hs ((whB_blk a2).mp hw))
/-- a new block at a free place -/
theorem DU.write {B : (Nat → Int32) → Prop} {ff rf sw ow tf b : Nat → Int32} {c s : Nat} {t : Int32} (hB : BX B) (hc : c < 32) (h : DU B (nI c) ff rf sw ow tf) (hs : s < 280) (ho : ow s = -1) (ht : tf s = -1) (hb : B b) (hb1 : b 1 = t) (hn : ∀ i, i < 280 → ¬ tf i = t) : DU B (nI (c + 1)) ff (wrF b rf c (ostB ff s)) (upd sw c (nI s)) (upd ow s (nI c)) (upd tf s t) := by
  obtain ⟨c0, hc0, ec, h1, h2, h3, h4, h5, h6⟩ := h
  have e0 : c0 = c := nI_inj (by omega) (by omega) ec.symm
  subst e0
  have hne : ¬ t = -1 := fun e => hB.2 b hb (by rw [hb1, e]; decide)
  have hown : ∀ j, j < c0 → ∀ s2, sw j = nI s2 → s2 < 280 → s2 ≠ s := fun j hj s2 e hs2 z => by
    obtain ⟨s3, d1, d2, d3⟩ := h1 j hj
    rw [e] at d2
    have := nI_inj (by omega) (by omega) d2
    subst this z
    rw [ho] at d3
    exact nIneg (by omega) d3.symm
  refine ⟨c0 + 1, by omega, rfl, fun j hj => ?_, fun s2 hs2 => ?_, fun s2 hs2 ho2 => ?_, h4, fun s2 j hs2 hj ho2 => ?_, fun s2 t2 hs2 ht2 e hne2 => ?_⟩
  · by_cases ej : j = c0
    · subst ej
      exact ⟨s, hs, pk_us, pk_us⟩
    · obtain ⟨s2, d1, d2, d3⟩ := h1 j (by omega)
      exact ⟨s2, d1, by rw [pk_un ej]; exact d2, by rw [pk_un (hown j (by omega) s2 d2 d1)]; exact d3⟩
  · by_cases es : s2 = s
    · subst es
      exact Or.inr ⟨c0, by omega, pk_us, pk_us⟩
    · rw [pk_un es]
      rcases h2 s2 hs2 with e | ⟨j, d1, d2, d3⟩
      · exact Or.inl e
      · exact Or.inr ⟨j, by omega, d2, by rw [pk_un (show j ≠ c0 by omega)]; exact d3⟩
  · by_cases es : s2 = s
    · subst es
      rw [pk_us] at ho2
      exact absurd ho2 (nIneg (by omega))
    · rw [pk_un es] at ho2 ⊢
      exact h3 s2 hs2 ho2
  · by_cases es : s2 = s
    · subst es
      rw [pk_us] at ho2 ⊢
      have : c0 = j := nI_inj (by omega) (by omega) ho2
      subst this
      refine Or.inr ⟨hne, ?_, ?_, ?_, ?_, wrF_st⟩
      · rcases h3 s2 hs2 ho with ⟨_, d2⟩ | ⟨d1, _⟩
        · exact d2
        · exact absurd ht d1
      · rw [wrF_x (by decide) (by decide), hb1]
      · exact hB.1 _ _ (fun i hi hi2 => (wrF_x hi hi2).symm) hb
      · have hst : ∀ v : Int32, v = 1 ∨ v = 2 → ¬ fstB (v <<< (24 &&& 31)) = 0 ∧ fstB (v <<< (24 &&& 31)) = lstB v := by
          intro v hv
          rcases hv with e | e <;> subst e <;> decide
        have hv : ostB ff s2 = 1 ∨ ostB ff s2 = 2 := by unfold ostB; split; exact Or.inr rfl; exact Or.inl rfl
        have := hst _ hv
        refine ⟨?_, ?_⟩
        · rw [wrF_0]; exact this.1
        · rw [wrF_0, this.2]
          show _ = lstB (upd (upd _ _ _) (c0 * 128 + 127) _ (c0 * 128 + 127))
          rw [pk_us]
    · rw [pk_un es] at ho2 ⊢
      have hj2 : j < c0 := by
        rcases h2 s2 hs2 with e | ⟨i, d1, d2, d3⟩
        · rw [e] at ho2; exact absurd ho2.symm (nIneg (by omega))
        · rw [d2] at ho2
          have : i = j := nI_inj (by omega) (by omega) ho2
          omega
      rcases h5 s2 j hs2 hj2 ho2 with ⟨d1, d2⟩ | ⟨d1, d2, d3, d4, d5, d6⟩
      · exact Or.inl ⟨d1, by rw [wrF_out (by omega)]; exact d2⟩
      · have hbl : ∀ x, x < 128 → wrF b rf c0 (ostB ff s) (j * 128 + x) = rf (j * 128 + x) := fun x hx => wrF_out (by omega)
        have hbl0 := hbl 0 (by decide)
        rw [Nat.add_zero] at hbl0
        exact Or.inr ⟨d1, d2, by rw [hbl 1 (by decide)]; exact d3, hB.1 _ _ (fun i _ hi => (hbl i (by omega)).symm) d4, (whB_blk hbl).mpr d5, by rw [hbl0]; exact d6⟩
  · by_cases es : s2 = s
    · by_cases et : t2 = s
      · rw [es, et]
      · rw [es, pk_us, pk_un et] at e
        exact absurd e.symm (hn t2 ht2)
    · by_cases et : t2 = s
      · rw [et, pk_us, pk_un es] at e
        exact absurd e (hn s2 hs2)
      · rw [pk_un es, pk_un et] at e
        rw [pk_un es] at hne2
        exact h6 s2 t2 hs2 ht2 e hne2
/-- a block that is FLUSHED (or nothing there) is erased -/
theorem DU.erase {B : (Nat → Int32) → Prop} {ff rf sw ow tf : Nat → Int32} {c s : Nat} (hB : BX B) (hc : c < 32) (h : DU B (nI c) ff rf sw ow tf) (hs : s < 280) (ho : ow s = -1) : DU B (nI (c + 1)) ff (erF rf c) (upd sw c (nI s)) (upd ow s (nI c)) (upd tf s (-1)) := by
  obtain ⟨c0, hc0, ec, h1, h2, h3, h4, h5, h6⟩ := h
  have e0 : c0 = c := nI_inj (by omega) (by omega) ec.symm
  subst e0
  have hown : ∀ j, j < c0 → ∀ s2, sw j = nI s2 → s2 < 280 → s2 ≠ s := fun j hj s2 e hs2 z => by
    obtain ⟨s3, d1, d2, d3⟩ := h1 j hj
    rw [e] at d2
    have := nI_inj (by omega) (by omega) d2
    subst this z
    rw [ho] at d3
    exact nIneg (by omega) d3.symm
  refine ⟨c0 + 1, by omega, rfl, fun j hj => ?_, fun s2 hs2 => ?_, fun s2 hs2 ho2 => ?_, h4, fun s2 j hs2 hj ho2 => ?_, fun s2 t2 hs2 ht2 e hne2 => ?_⟩
  · by_cases ej : j = c0
    · subst ej
      exact ⟨s, hs, pk_us, pk_us⟩
    · obtain ⟨s2, d1, d2, d3⟩ := h1 j (by omega)
      exact ⟨s2, d1, by rw [pk_un ej]; exact d2, by rw [pk_un (hown j (by omega) s2 d2 d1)]; exact d3⟩
  · by_cases es : s2 = s
    · subst es
      exact Or.inr ⟨c0, by omega, pk_us, pk_us⟩
    · rw [pk_un es]
      rcases h2 s2 hs2 with e | ⟨j, d1, d2, d3⟩
      · exact Or.inl e
      · exact Or.inr ⟨j, by omega, d2, by rw [pk_un (show j ≠ c0 by omega)]; exact d3⟩
  · by_cases es : s2 = s
    · subst es
      rw [pk_us] at ho2
      exact absurd ho2 (nIneg (by omega))
    · rw [pk_un es] at ho2 ⊢
      exact h3 s2 hs2 ho2
  · by_cases es : s2 = s
    · subst es
      rw [pk_us] at ho2 ⊢
      have : c0 = j := nI_inj (by omega) (by omega) ho2
      subst this
      exact Or.inl ⟨rfl, erF_st⟩
    · rw [pk_un es] at ho2 ⊢
      have hj2 : j < c0 := by
        rcases h2 s2 hs2 with e | ⟨i, d1, d2, d3⟩
        · rw [e] at ho2; exact absurd ho2.symm (nIneg (by omega))
        · rw [d2] at ho2
          have : i = j := nI_inj (by omega) (by omega) ho2
          omega
      rcases h5 s2 j hs2 hj2 ho2 with ⟨d1, d2⟩ | ⟨d1, d2, d3, d4, d5, d6⟩
      · exact Or.inl ⟨d1, by rw [erF_out (by omega)]; exact d2⟩
      · have hbl : ∀ x, x < 128 → erF rf c0 (j * 128 + x) = rf (j * 128 + x) := fun x hx => erF_out (by omega)
        have hbl0 := hbl 0 (by decide)
        rw [Nat.add_zero] at hbl0
        exact Or.inr ⟨d1, d2, by rw [hbl 1 (by decide)]; exact d3, hB.1 _ _ (fun i _ hi => (hbl i (by omega)).symm) d4, (whB_blk hbl).mpr d5, by rw [hbl0]; exact d6⟩
  · by_cases es : s2 = s
    · rw [es, pk_us] at hne2
      exact absurd rfl hne2
    · rw [pk_un es] at e hne2
      by_cases et : t2 = s
      · rw [et, pk_us] at e
        exact absurd e hne2
      · rw [pk_un et] at e
        exact h6 s2 t2 hs2 ht2 e hne2
/-- a block that is not FLUSHED yet is erased -/
theorem DU.erase2 {B : (Nat → Int32) → Prop} {ff rf sw ow tf : Nat → Int32} {c s k : Nat} (hB : BX B) (h : DU B (nI c) ff rf sw ow tf) (hc : c ≤ 32) (hs : s < 280) (hk : k < c) (ho : ow s = nI k) : DU B (nI c) ff (erF rf k) sw ow (upd tf s (-1)) := by
  obtain ⟨c0, hc0, ec, h1, h2, h3, h4, h5, h6⟩ := h
  have e0 : c0 = c := nI_inj (by omega) (by omega) ec.symm
  subst e0
  refine ⟨c0, hc0, rfl, h1, h2, fun s2 hs2 ho2 => ?_, h4, fun s2 j hs2 hj ho2 => ?_, fun s2 t2 hs2 ht2 e hne2 => ?_⟩
  · by_cases es : s2 = s
    · subst es
      rw [ho2] at ho
      exact absurd ho.symm (nIneg (by omega))
    · rw [pk_un es]
      exact h3 s2 hs2 ho2
  · by_cases es : s2 = s
    · subst es
      rw [ho] at ho2
      have : k = j := nI_inj (by omega) (by omega) ho2
      subst this
      rw [pk_us]
      exact Or.inl ⟨rfl, erF_st⟩
    · rw [pk_un es]
      have hjk : j ≠ k := fun z => by
        subst z
        obtain ⟨a, b1, b2, b3⟩ := h1 j hj
        rcases h2 s hs with e | ⟨i, d1, d2, d3⟩
        · rw [e] at ho; exact absurd ho.symm (nIneg (by omega))
        · rcases h2 s2 hs2 with e | ⟨i2, e1, e2, e3⟩
          · rw [e] at ho2; exact absurd ho2.symm (nIneg (by omega))
          · rw [d2] at ho
            rw [e2] at ho2
            have x1 : i = j := nI_inj (by omega) (by omega) ho
            have x2 : i2 = j := nI_inj (by omega) (by omega) ho2
            subst x1
            subst x2
            rw [d3] at e3
            exact es (nI_inj (by omega) (by omega) e3).symm
      rcases h5 s2 j hs2 hj ho2 with ⟨d1, d2⟩ | ⟨d1, d2, d3, d4, d5, d6⟩
      · exact Or.inl ⟨d1, by rw [erF_out (by omega)]; exact d2⟩
      · have hbl : ∀ x, x < 128 → erF rf k (j * 128 + x) = rf (j * 128 + x) := fun x hx => erF_out (by omega)
        have hbl0 := hbl 0 (by decide)
        rw [Nat.add_zero] at hbl0
        exact Or.inr ⟨d1, d2, by rw [hbl 1 (by decide)]; exact d3, hB.1 _ _ (fun i _ hi => (hbl i (by omega)).symm) d4, (whB_blk hbl).mpr d5, by rw [hbl0]; exact d6⟩
  · by_cases es : s2 = s
    · rw [es, pk_us] at hne2
      exact absurd rfl hne2
    · rw [pk_un es] at e hne2
      by_cases et : t2 = s
      · rw [et, pk_us] at e
        exact absurd e hne2
      · rw [pk_un et] at e
        exact h6 s2 t2 hs2 ht2 e hne2

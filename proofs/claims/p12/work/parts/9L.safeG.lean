/-! the DISK's bounds are kept by what is done to it -/
theorem gd.cg {Z : ZT} {b c : Nat → Int32} {o p : Nat} (h : gd Z b o) (e1 : c (p + 1) = b (o + 1)) (e2 : c (p + 15) = b (o + 15)) (e3 : c (p + 16) = b (o + 16)) : gd Z c p := by
  intro k hk e
  rw [e1] at e
  rw [e2, e3]
  exact h k hk e
theorem gd.zero {Z : ZT} {b : Nat → Int32} {o : Nat} (e : b (o + 1) = 0) : gd Z b o := by
  intro k hk e2
  rw [e] at e2
  have : 0 = k := nI_inj (by decide) hk e2
  subst this
  exact ⟨fun z => absurd z (by decide), fun z => absurd z (by decide)⟩
theorem wrF_x {wf rf : Nat → Int32} {c x : Nat} {v : Int32} (h0 : 0 < x) (h : x < 127) : wrF wf rf c v (c * 128 + x) = wf x := by
  unfold wrF stmp
  rw [pk_un (by omega), pk_un (by omega), pk_cpy_in (by omega) (by omega)]
  congr 1
  omega
theorem wrF_0 {wf rf : Nat → Int32} {c : Nat} {v : Int32} : wrF wf rf c v (c * 128) = v <<< (24 &&& 31) := by
  unfold wrF stmp
  rw [pk_un (by omega), pk_us]
theorem wrF_out {wf rf : Nat → Int32} {c y : Nat} {v : Int32} (h : y < c * 128 ∨ c * 128 + 128 ≤ y) : wrF wf rf c v y = rf y := by
  unfold wrF stmp
  rw [pk_un (by omega), pk_un (by omega), pk_cpy_out (by omega)]
theorem erF_in {rf : Nat → Int32} {c x : Nat} (h : x < 128) : erF rf c (c * 128 + x) = 0 := if_pos ⟨by omega, by omega⟩
theorem erF_out {rf : Nat → Int32} {c y : Nat} (h : y < c * 128 ∨ c * 128 + 128 ≤ y) : erF rf c y = rf y := if_neg (by omega)
theorem fst_ost (ff : Nat → Int32) (i : Nat) : ¬ fstB (ostB ff i <<< (24 &&& 31)) = lstB (ff (i * 128 + 127)) := by
  unfold ostB
  by_cases h : lstB (ff (i * 128 + 127)) = 1
  · rw [if_pos h, h]
    decide
  · rw [if_neg h]
    intro e
    exact h (e.symm.trans (by decide))
variable {Z : ZT} {up dc : Int32} {ff rf sw ow tf : Nat → Int32}
theorem DI.owm (h : DI Z up dc ff rf sw ow tf) {s : Nat} (hs : s < 280) : ow s < 0 ↔ ow s = -1 := by
  obtain ⟨⟨c, hc, ec, h1, h2⟩, -⟩ := h
  refine ⟨fun z => ?_, fun z => by rw [z]; decide⟩
  rcases h2 s hs with e | ⟨j, hj, e, _⟩
  · exact e
  · rw [e] at z
    exact absurd z (nI_pos (by omega))
/-- one more block that is not FLUSHED: i's, with what rf' says in it -/
theorem DI.more {c i : Nat} {t : Int32} {rf' : Nat → Int32} (h : DI Z up (nI c) ff rf sw ow tf) (hup : ¬ up = 0) (hc : c < 32) (hi : i < 280) (ho : ow i < 0) (hout : ∀ y, y < c * 128 ∨ c * 128 + 128 ≤ y → rf' y = rf y) (hg : gd Z rf' (c * 128)) (ht : ¬ t = -1 → rf' (c * 128 + 1) = t) (hst : fstB (rf' (c * 128)) = 0 ∨ ¬ fstB (rf' (c * 128)) = lstB (ff (i * 128 + 127))) : DI Z up (nI (c + 1)) ff rf' (upd sw c (nI i)) (upd ow i (nI c)) (upd tf i t) := by
  have hoe := (h.owm hi).mp ho
  obtain ⟨⟨c0, hc0, ec, h1, h2⟩, h3, h4, h5⟩ := h
  have e0 : c0 = c := nI_inj (by omega) (by omega) ec.symm
  subst e0
  refine ⟨⟨c0 + 1, by omega, rfl, fun j hj => ?_, fun s hs => ?_⟩, h3, fun s hs z1 z2 => ?_, fun z => absurd z hup⟩
  · by_cases e : j = c0
    · subst e
      exact ⟨i, hi, pk_us, pk_us, hg, fun z => by
        rw [pk_us] at z ⊢
        exact ht z, hst⟩
    · obtain ⟨s, a1, a2, a3, a4, a5, a6⟩ := h1 j (by omega)
      have hsi : s ≠ i := fun z => by
        rw [z, hoe] at a3
        exact nIm (by omega) a3.symm
      have q := hout (j * 128) (by omega)
      have q1 := hout (j * 128 + 1) (by omega)
      refine ⟨s, a1, by rw [pk_un e]; exact a2, by rw [pk_un hsi]; exact a3, a4.cg q1 (hout _ (by omega)) (hout _ (by omega)), fun z => ?_, ?_⟩
      · rw [pk_un hsi] at z ⊢
        rw [q1]
        exact a5 z
      · rw [q]
        exact a6
  · by_cases e : s = i
    · subst e
      exact Or.inr ⟨c0, by omega, pk_us, pk_us⟩
    · rw [pk_un e]
      rcases h2 s hs with z | ⟨j, a1, a2, a3⟩
      · exact Or.inl z
      · exact Or.inr ⟨j, by omega, a2, by rw [pk_un (by omega)]; exact a3⟩
  · by_cases e : s = i
    · rw [e, pk_us] at z1
      exact absurd z1 (nI_pos (by omega))
    · rw [pk_un e] at z1 z2 ⊢
      exact h4 s hs z1 z2
/-- a block that is not FLUSHED is written with zeros -/
theorem DI.again {c i k : Nat} (h : DI Z up (nI c) ff rf sw ow tf) (hup : ¬ up = 0) (hi : i < 280) (hk : k < 32) (ho : ow i = nI k) : DI Z up (nI c) ff (erF rf k) sw ow (upd tf i (-1)) := by
  obtain ⟨⟨c0, hc0, ec, h1, h2⟩, h3, h4, h5⟩ := h
  obtain ⟨j0, b1, b2, b3⟩ := (h2 i hi).resolve_left (fun z => nIm (by omega) (ho.symm.trans z))
  have ek : j0 = k := nI_inj (by omega) (by omega) (b2.symm.trans ho)
  subst ek
  refine ⟨⟨c0, hc0, ec, fun j hj => ?_, h2⟩, h3, fun s hs z1 z2 => ?_, fun z => absurd z hup⟩
  · obtain ⟨s, a1, a2, a3, a4, a5, a6⟩ := h1 j hj
    by_cases e : j = j0
    · subst e
      have es : s = i := nI_inj (by omega) (by omega) (a2.symm.trans b3)
      subst es
      refine ⟨s, a1, a2, a3, gd.zero (erF_in (by omega)), fun z => absurd pk_us z, Or.inl ?_⟩
      rw [show j * 128 = j * 128 + 0 from rfl, erF_in (by omega)]
      decide
    · have hsi : s ≠ i := fun z => e (nI_inj (by omega) (by omega) (a3.symm.trans (by rw [z]; exact ho)))
      refine ⟨s, a1, a2, a3, a4.cg (erF_out (by omega)) (erF_out (by omega)) (erF_out (by omega)), fun z => ?_, ?_⟩
      · rw [pk_un hsi] at z ⊢
        rw [erF_out (by omega)]
        exact a5 z
      · rw [erF_out (by omega)]
        exact a6
  · by_cases e : s = i
    · rw [e, pk_us] at z2
      exact absurd rfl z2
    · rw [pk_un e] at z2 ⊢
      exact h4 s hs z1 z2
theorem flsF_out : ∀ (c : Nat) {s x : Nat}, x < 128 → (∀ j, j < c → ¬ sw j < 0 ∧ (sw j).toNatClampNeg ≠ s) → flsF rf sw c ff (s * 128 + x) = ff (s * 128 + x)
  | 0, _, _, _, _ => rfl
  | c + 1, s, x, hx, h => by
    show va_cpy rf (flsF rf sw c ff) (c * 128) ((sw c).toNatClampNeg * 128) 128 (s * 128 + x) = _
    have := (h c (by omega)).2
    rw [pk_cpy_out (by omega), flsF_out c hx (fun j hj => h j (by omega))]
theorem flsF_in : ∀ (c : Nat) {s x k : Nat}, x < 128 → k < c → (sw k).toNatClampNeg = s → (∀ j, j < c → j ≠ k → (sw j).toNatClampNeg ≠ s) → flsF rf sw c ff (s * 128 + x) = rf (k * 128 + x)
  | 0, _, _, _, _, hk, _, _ => absurd hk (by omega)
  | c + 1, s, x, k, hx, hk, e, h => by
    show va_cpy rf (flsF rf sw c ff) (c * 128) ((sw c).toNatClampNeg * 128) 128 (s * 128 + x) = _
    by_cases ek : k = c
    · subst ek
      rw [e, pk_cpy_in (by omega) (by omega)]
      congr 1
      omega
    · have := h c (by omega) (fun z => ek z.symm)
      rw [pk_cpy_out (by omega)]
      exact flsF_in c hx (by omega) e (fun j hj hjk => h j (by omega) hjk)
theorem flsO_in : ∀ (c : Nat) {s k : Nat}, k < c → (sw k).toNatClampNeg = s → flsO sw c ow s = -1
  | 0, _, _, hk, _ => absurd hk (by omega)
  | c + 1, s, k, hk, e => by
    show upd (flsO sw c ow) ((sw c).toNatClampNeg) (-1) s = -1
    by_cases ek : s = (sw c).toNatClampNeg
    · rw [ek, pk_us]
    · rw [pk_un ek]
      exact flsO_in c (show k < c from by
        rcases Nat.lt_or_ge k c with z | z
        · exact z
        · exact absurd (by rw [← e, show k = c by omega]) ek) e
theorem flsO_out : ∀ (c : Nat) {s : Nat}, (∀ j, j < c → (sw j).toNatClampNeg ≠ s) → flsO sw c ow s = ow s
  | 0, _, _ => rfl
  | c + 1, s, h => by
    show upd (flsO sw c ow) ((sw c).toNatClampNeg) (-1) s = ow s
    rw [pk_un (fun z => h c (by omega) z.symm)]
    exact flsO_out c (fun j hj => h j (by omega))
/-- the slots of the blocks that are not FLUSHED -/
theorem DI.swr {c : Nat} (h : DI Z up (nI c) ff rf sw ow tf) (hc : c ≤ 32) : ∀ j, j < c → ¬ sw j < 0 ∧ (sw j).toNatClampNeg < 280 := by
  obtain ⟨⟨c0, hc0, ec, h1, h2⟩, -⟩ := h
  have e0 : c0 = c := nI_inj (by omega) (by omega) ec.symm
  subst e0
  intro j hj
  obtain ⟨s, a1, a2, -⟩ := h1 j hj
  rw [a2, nI_clamp (by omega)]
  exact ⟨nI_pos (by omega), a1⟩
theorem DI.flush {c : Nat} (h : DI Z up (nI c) ff rf sw ow tf) (hc : c ≤ 32) (hup : ¬ up = 0) : DI Z up 0 (flsF rf sw c ff) rf sw (flsO sw c ow) tf ∧ ∀ s, s < 280 → flsO sw c ow s = -1 := by
  have hsw := h.swr hc
  obtain ⟨⟨c0, hc0, ec, h1, h2⟩, h3, h4, h5⟩ := h
  have e0 : c0 = c := nI_inj (by omega) (by omega) ec.symm
  subst e0
  have hin : ∀ s, s < 280 → (∃ j, j < c0 ∧ sw j = nI s ∧ ow s = nI j) ∨ ((∀ j, j < c0 → (sw j).toNatClampNeg ≠ s) ∧ ow s = -1) := fun s hs => by
    rcases h2 s hs with e | ⟨j, a1, a2, a3⟩
    · refine Or.inr ⟨fun j hj z => ?_, e⟩
      obtain ⟨s2, b1, b2, b3, -⟩ := h1 j hj
      rw [b2, nI_clamp (by omega)] at z
      rw [z, e] at b3
      exact nIm (by omega) b3.symm
    · exact Or.inl ⟨j, a1, a3, a2⟩
  have hone : ∀ s j k, s < 280 → j < c0 → k < c0 → j ≠ k → sw k = nI s → (sw j).toNatClampNeg ≠ s := fun s j k hs hj hk hjk e z => by
    obtain ⟨s1, b1, b2, b3, -⟩ := h1 j hj
    obtain ⟨s2, d1, d2, d3, -⟩ := h1 k hk
    rw [b2, nI_clamp (by omega)] at z
    have e2 : s2 = s := nI_inj (by omega) (by omega) (d2.symm.trans e)
    rw [z] at b3
    rw [e2] at d3
    exact hjk (nI_inj (by omega) (by omega) (b3.symm.trans d3))
  have hall : ∀ s, s < 280 → flsO sw c0 ow s = -1 := fun s hs => by
    rcases hin s hs with ⟨j, a1, a2, -⟩ | ⟨a1, a2⟩
    · exact flsO_in c0 a1 (by rw [a2, nI_clamp (by omega)])
    · rw [flsO_out c0 a1]
      exact a2
  refine ⟨⟨⟨0, by omega, rfl, fun j hj => absurd hj (by omega), fun s hs => Or.inl (hall s hs)⟩, fun s hs z => ?_, fun s hs _ z => ?_, fun z => absurd z hup⟩, hall⟩
  · rcases hin s hs with ⟨j, a1, a2, -⟩ | ⟨a1, a2⟩
    · obtain ⟨s1, b1, b2, b3, b4, -⟩ := h1 j a1
      have q : ∀ x, x < 128 → flsF rf sw c0 ff (s * 128 + x) = rf (j * 128 + x) := fun x hx => flsF_in c0 hx a1 (by rw [a2, nI_clamp (by omega)]) (fun k hk hkj => hone s k j hs hk a1 hkj a2)
      exact b4.cg (q 1 (by omega)) (q 15 (by omega)) (q 16 (by omega))
    · have q : ∀ x, x < 128 → flsF rf sw c0 ff (s * 128 + x) = ff (s * 128 + x) := fun x hx => flsF_out c0 hx (fun j hj => ⟨(hsw j hj).1, a1 j hj⟩)
      refine (h3 s hs ?_).cg (q 1 (by omega)) (q 15 (by omega)) (q 16 (by omega))
      unfold whB at z ⊢
      have q0 := q 0 (by omega)
      rw [Nat.add_zero] at q0
      rw [q0, q 127 (by omega)] at z
      exact z
  · rcases hin s hs with ⟨j, a1, a2, -⟩ | ⟨a1, a2⟩
    · obtain ⟨s1, b1, b2, b3, b4, b5, -⟩ := h1 j a1
      have es : s1 = s := nI_inj (by omega) (by omega) (b2.symm.trans a2)
      subst es
      have q : ∀ x, x < 128 → flsF rf sw c0 ff (s1 * 128 + x) = rf (j * 128 + x) := fun x hx => flsF_in c0 hx a1 (by rw [a2, nI_clamp (by omega)]) (fun k hk hkj => hone s1 k j hs hk a1 hkj a2)
      exact ⟨(q 1 (by omega)).trans (b5 z), b4.cg (q 1 (by omega)) (q 15 (by omega)) (q 16 (by omega))⟩
    · have q : ∀ x, x < 128 → flsF rf sw c0 ff (s * 128 + x) = ff (s * 128 + x) := fun x hx => flsF_out c0 hx (fun j hj => ⟨(hsw j hj).1, a1 j hj⟩)
      have h6 := h4 s hs (by rw [a2]; decide) z
      exact ⟨(q 1 (by omega)).trans h6.1, h6.2.cg (q 1 (by omega)) (q 15 (by omega)) (q 16 (by omega))⟩
theorem DI.tag {i : Nat} {t : Int32} (h : DI Z up dc ff rf sw ow tf) (hup : ¬ up = 0) (hi : i < 280) (ho : ow i < 0) (ht : ¬ t = -1 → ff (i * 128 + 1) = t ∧ gd Z ff (i * 128)) : DI Z up dc ff rf sw ow (upd tf i t) := by
  have hoe := (h.owm hi).mp ho
  obtain ⟨⟨c0, hc0, ec, h1, h2⟩, h3, h4, h5⟩ := h
  refine ⟨⟨c0, hc0, ec, fun j hj => ?_, h2⟩, h3, fun s hs z1 z2 => ?_, fun z => absurd z hup⟩
  · obtain ⟨s, a1, a2, a3, a4, a5, a6⟩ := h1 j hj
    have hsi : s ≠ i := fun z => by
      rw [z, hoe] at a3
      exact nIm (by omega) a3.symm
    exact ⟨s, a1, a2, a3, a4, fun z => by
      rw [pk_un hsi] at z ⊢
      exact a5 z, a6⟩
  · by_cases e : s = i
    · subst e
      rw [pk_us] at z2 ⊢
      exact ht z2
    · rw [pk_un e] at z2 ⊢
      exact h4 s hs z1 z2



/-! settle of the quiet store: one MESSAGE is handed over -/
def SD (h : ax_H) (n nn gg p j ej kc : Nat) : Prop := (ej = 1 ∨ ej = 2) ∧ ∃ ep st hd cl ni tu md fm, ax_hs h (QN (n + 329 + 22 * j) (n + 264) n (nI gg) (nI j) 1 (nI ej) (allN nn) ep st hd cl ni tu md fm) ∧ (j = p → cl = nI kc)
def SQ (h : ax_H) (s0 n nn gg cc p : Nat) (f : Nat → Int32) (e : Nat → Nat) (km kc : Nat) (ids : List Nat) (ms : List Mg) (q : Nat) (u b : Nat → Int32) : Prop :=
  (3 ≤ nn ∧ nn ≤ 6 ∧ 1 ≤ gg ∧ gg ≤ 16 ∧ p < nn ∧ s0 < n) ∧ nof f 0 (allN nn) nn 0 0 = nI p ∧ (∃ c, ax_hs h (W0 s0 n nn gg cc f c 2 (nI km))) ∧ NTL h n (n + 1) ids ms q u b ∧ ∀ j, j < nn → SD h n nn gg p j (e j) kc
theorem SQ.upd {h h' : ax_H} {s0 n nn gg cc p q j km kc kc' : Nat} {f u b : Nat → Int32} {e : Nat → Nat} {v : Nat} {ids ids' : List Nat} {ms ms' : List Mg} (hQ : SQ h s0 n nn gg cc p f e km kc ids ms q u b) (hf : ax_fr (JA n j) h h') (hN : NTL h' n (n + 1) ids' ms' q u b) (hD : SD h' n nn gg p j v kc') (hkc : j ≠ p → kc' = kc) : SQ h' s0 n nn gg cc p f (va_up e j v) km kc' ids' ms' q u b := by
  obtain ⟨hb, hp, ⟨c, hW⟩, hN0, hD0⟩ := hQ
  refine ⟨hb, hp, ⟨c, hW.fr hf (fun z hz hA => ?_)⟩, hN, fun k hk => ?_⟩
  · have := W0.lt hb.2.2.2.2.2 z hz
    rcases hA with hA | hA
    · unfold NTA at hA
      omega
    · omega
  · by_cases ek : k = j
    · subst ek
      rw [va_up_s]
      exact hD
    · rw [va_up_n _ _ ek]
      obtain ⟨h0, ep, st, hd, cl, ni, tu, md, fm, h1, h2⟩ := hD0 k hk
      refine ⟨h0, ep, st, hd, cl, ni, tu, md, fm, h1.fr hf (fun z hz hA => ?_), fun ekp => ?_⟩
      · have := QN.lt z hz
        rcases hA with hA | hA
        · unfold NTA at hA
          omega
        · omega
      · rw [h2 ekp, hkc (fun z => ek (ekp.trans z.symm))]

/-! settle's rounds keep it -/
theorem CL1.nil {P : Pm} {g : Gh} {S : SS} (h : S.2.2.1 = []) : CL1 P g S := fun i x n hx => by rw [h] at hx; cases hx
theorem stl_C {P : Pm} {l : Nat} (hP : PmO P) (hl : l < P.nn) : ∀ (k t : Nat) {g : Gh} {S S' : SS}, SU P g S → lds P g l g.ep → S.2.2.1.length ≤ 128 → CL1 P g S → CL2 P g l S → CL3 P g l S → (¬ t = 0 → S.2.2.1 = []) → stl P.nn P.gg P.C P.f k t S S' → ∃ g', Gs g g' ∧ SU P g' S' ∧ CL2 P g' l S' ∧ S'.1 100 = S.1 100
  | 0, t, g, S, S', h, _, _, _, h2, _, _, hr => by
    have hr : S' = S := hr
    rw [hr]; exact ⟨g, Gs.rf g, h, h2, rfl⟩
  | k + 1, t, g, S, S', h, hld, hlen, h1, h2, h3, ht, hr => by
    rcases hr with ⟨_, z⟩ | ⟨_, S1, S2, z1, z2, z3⟩
    · rw [z]; exact ⟨g, Gs.rf g, h, h2, rfl⟩
    · have hgo : ∀ {g2 : Gh}, Gs g g2 → SU P g2 S2 → CL2 P g2 l S2 → CL3 P g2 l S2 → S2.2.2.1 = [] → S2.1 100 = S.1 100 → ∃ g', Gs g g' ∧ SU P g' S' ∧ CL2 P g' l S' ∧ S'.1 100 = S.1 100 := fun {g2} a1 a2 a3 a4 a5 a6 => by
        obtain ⟨g3, b1, b2, b3, b4⟩ := stl_C hP hl k (t + 1) a2 (by rw [lds_gs a1, a1.ep]; exact hld) (by rw [a5]; exact Nat.zero_le _) (CL1.nil a5) a3 a4 (fun _ => a5) z3
        exact ⟨g3, a1.tr b1, b2, b3, by rw [b4, a6]⟩
      rcases z1 with ⟨_, w⟩ | ⟨w0, w⟩
      · subst w
        obtain ⟨c1, g2, c2, c3, c4, c5, _, c7⟩ := dr_C hP hl h hlen hld h1 h2 z2
        exact hgo c2 c3 c4 (c5 h3) c1 c7
      · obtain ⟨g1, d1, d2, d3, d4, _, d5, d6, d7⟩ := tk_C hP hl h hld (ht w0) h2 h3 w
        have hld1 : lds P g1 l g1.ep := by rw [lds_gs d1, d1.ep]; exact hld
        obtain ⟨c1, g2, c2, c3, c4, _, c6, c7⟩ := dr_C hP hl d2 d3 hld1 d5 d6 z2
        refine hgo (d1.tr c2) c3 c4 (fun n hn _ j hj => Or.inl ?_) c1 (by rw [c7, d4])
        rw [c6 j (by omega) (d7 j (by omega)), c2.ep]
/-! where settle is done -/
theorem clA_ok {gg : Nat} {D : Nat → Nat → Int32} : ∀ (k i : Nat), ¬ clA gg D k i = 0 → ∀ a, i ≤ a → a < i + k → D 16 a < 0 ∨ ¬ sfB (D 8) (D 11) (D 16) (D 17) gg a = 0
  | 0, i, _, a, h1, h2 => by omega
  | k + 1, i, h, a, h1, h2 => by
    have h : ¬ (if D 16 i < 0 then clA gg D k (i + 1) else if ¬ sfB (D 8) (D 11) (D 16) (D 17) gg i = 0 then clA gg D k (i + 1) else 0) = 0 := h
    by_cases c : D 16 i < 0
    · rw [if_pos c] at h
      rcases Nat.lt_or_ge i a with q | q
      · exact clA_ok k (i + 1) h a (by omega) (by omega)
      · have : a = i := by omega
        rw [this]; exact Or.inl c
    · rw [if_neg c] at h
      by_cases d : sfB (D 8) (D 11) (D 16) (D 17) gg i = 0
      · rw [if_neg (fun z => z d)] at h; exact absurd rfl h
      · rw [if_pos d] at h
        rcases Nat.lt_or_ge i a with q | q
        · exact clA_ok k (i + 1) h a (by omega) (by omega)
        · have : a = i := by omega
          rw [this]; exact Or.inr d

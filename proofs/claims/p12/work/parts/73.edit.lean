/-! a MESSAGE is sent, and then filled in -/
theorem NT.edit {h h' : ax_H} {nt w cnt t m : Nat} {p : Nat → Nat} {M B : Nat → Nat → Int32} {u' b' : Nat → Int32} (hN : NT h nt w cnt p t M B) (hm : m < 130) (hf : ax_fr (fun x => x = w + 1 + 2 * m ∨ x = w + 1 + 2 * m + 1) h h') (g : ms_at h' (w + 1 + 2 * m) u' b') : NT h' nt w cnt p t (va_up M m u') (va_up B m b') := by
  obtain ⟨k1, k2, ⟨f, k3, k4⟩, k5⟩ := hN
  have hnw := k1.1
  refine ⟨k1, hf.g k2 (by omega), ⟨f, hf.g k3 (by omega), k4⟩, fun j hj => ?_⟩
  by_cases e : j = m
  · subst e
    rw [va_up_s, va_up_s]
    exact g
  · rw [va_up_n _ _ e, va_up_n _ _ e]
    exact ⟨hf.g (k5 j hj).1 (by omega), hf.g (k5 j hj).2 (by omega)⟩
theorem c_36H {L : Nat} {xs : Nat → Int32} {fr lo : Nat} {h : ax_H} {nt w q : Nat} {ids : List Nat} {ms : List Mg} {u b : Nat → Int32} {kd fm tt ep st : Int32} (hN : NTL h nt w ids ms q u b) : ax_M L xs 36 fr lo [.ref nt, .int kd, .int fm, .int tt, .int ep, .int st] h (fun r h2 => ∃ (m : Nat) (bm : Nat → Int32) (ids' : List Nat), m < 130 ∧ r = some (.ref (w + 1 + 2 * m)) ∧ m ≠ q ∧ ms_at h2 (w + 1 + 2 * m) (mg kd fm tt ep st) bm ∧ (∀ (h' : ax_H) (u' b' : Nat → Int32), ax_fr (fun x => x = w + 1 + 2 * m ∨ x = w + 1 + 2 * m + 1) h2 h' → ms_at h' (w + 1 + 2 * m) u' b' → NTL h' nt w ids' (pst ms (u', b')) q u b) ∧ ax_fr (NTA nt w) h h2 ∧ h2.1 = h.1 ∧ h2.2.1 = h.2.1) := by
  obtain ⟨p, t, M, B, k1, k2, k3, q1, q2, q3, rfl, rfl⟩ := hN
  refine ax_A.post (c_36 k1) (fun r h2 hq => ?_)
  obtain ⟨m, m1, m2, m3, m4, m5, m6⟩ := hq
  have hp := k1.1.2.2.2.2.1
  have hinj := k1.1.2.2.2.2.2
  rcases m6 with ⟨c8, rfl, m6⟩ | ⟨c8, rfl, m6⟩
  · have hmq : p ids.length ≠ q := q3 _ (Nat.le_refl _) c8
    have hmm := m6.2.2.2 (p ids.length) m1
    rw [va_up_s] at hmm
    refine ⟨p ids.length, _, ids ++ [p ids.length], m1, m2, hmq, hmm, fun h' u' b' hf hg => ?_, m3, m4, m5⟩
    have hE := m6.edit m1 hf hg
    have epst : pst ms (u', b') = ms ++ [(u', b')] := if_pos (by omega)
    rw [epst]
    refine ⟨p, t, _, _, by rw [List.length_append]; exact hE, by rw [List.length_append, List.length_append, k2]; rfl, fun i hi => ?_, q1, q2, fun i hi => ?_, by rw [va_up_n _ _ (Ne.symm hmq), va_up_n _ _ (Ne.symm hmq)], by rw [va_up_n _ _ (Ne.symm hmq)]⟩
    · rw [List.length_append] at hi
      have hi : i < ids.length + 1 := hi
      by_cases hil : i < ids.length
      · have hne : p i ≠ p ids.length := fun e => absurd (hinj i ids.length (by omega) c8 e) (by omega)
        rw [List.getElem?_append_left hil, List.getElem?_append_left (by omega), va_up_n _ _ hne, va_up_n _ _ hne, va_up_n _ _ hne]
        exact k3 i hil
      · have e : i = ids.length := by omega
        subst e
        rw [List.getElem?_append_right (Nat.le_refl _), List.getElem?_append_right (by omega), k2, Nat.sub_self, va_up_s, va_up_s]
        exact ⟨rfl, rfl⟩
    · rw [List.length_append] at hi
      exact q3 i (by omega)
  · have hmm := m6.2.2.2 1 m1
    rw [va_up_s] at hmm
    refine ⟨1, _, ids, m1, m2, fun z => q2 z.symm, hmm, fun h' u' b' hf hg => ?_, m3, m4, m5⟩
    have hE := m6.edit m1 hf hg
    have epst : pst ms (u', b') = ms := if_neg (by omega)
    rw [epst]
    refine ⟨p, t, _, _, hE, k2, fun i hi => ?_, q1, q2, q3, by rw [va_up_n _ _ q2, va_up_n _ _ q2], by rw [va_up_n _ _ q2]⟩
    have hne := (hp i (by omega)).2.1
    rw [va_up_n _ _ hne, va_up_n _ _ hne, va_up_n _ _ hne]
    exact k3 i hi


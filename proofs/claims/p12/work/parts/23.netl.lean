/-! the net as a list: ids the MESSAGES under way, ms what they say (and their bodies); MESSAGE q is read just now: no post writes it -/
abbrev Mg : Type := (Nat → Int32) × (Nat → Int32)
def NTL (h : ax_H) (nt w : Nat) (ids : List Nat) (ms : List Mg) (q : Nat) (u b : Nat → Int32) : Prop := ∃ (p : Nat → Nat) (t : Nat) (M B : Nat → Nat → Int32), NT h nt w ids.length p t M B ∧ ms.length = ids.length ∧ (∀ i, i < ids.length → ids[i]? = some (p i) ∧ ms[i]? = some (M (p i), B (p i))) ∧ (q < 130 ∧ q ≠ 1 ∧ (∀ i, ids.length ≤ i → i < 128 → p i ≠ q) ∧ M q = u ∧ B q = b)
theorem NTL.fr {A : Nat → Prop} {h h' : ax_H} {nt w q : Nat} {ids : List Nat} {ms : List Mg} {u b : Nat → Int32} (hN : NTL h nt w ids ms q u b) (hf : ax_fr A h h') (hA : ∀ x, NTA nt w x → ¬ A x) : NTL h' nt w ids ms q u b := by
  obtain ⟨p, t, M, B, k1, k2⟩ := hN
  exact ⟨p, t, M, B, k1.fr hf hA, k2⟩
theorem NTL.len {h : ax_H} {nt w q : Nat} {ids : List Nat} {ms : List Mg} {u b : Nat → Int32} (hN : NTL h nt w ids ms q u b) : ms.length = ids.length ∧ ids.length ≤ 128 ∧ nt < w := by
  obtain ⟨p, t, M, B, k1, k2, -⟩ := hN
  exact ⟨k2, k1.1.2.1, k1.1.1⟩
theorem NTL.read {h : ax_H} {nt w q : Nat} {ids : List Nat} {ms : List Mg} {u b : Nat → Int32} (hN : NTL h nt w ids ms q u b) : ms_at h (w + 1 + 2 * q) u b ∧ q < 130 := by
  obtain ⟨p, t, M, B, k1, k2, k3, q1, q2, q3, rfl, rfl⟩ := hN
  exact ⟨k1.2.2.2 q q1, q1⟩
theorem NTL.net {h : ax_H} {nt w q : Nat} {ids : List Nat} {ms : List Mg} {u b : Nat → Int32} (hN : NTL h nt w ids ms q u b) : ∃ a c, ax_g h nt = some (.inr (1, [.ref w, .int (nI ids.length), .ref a, .ref c])) := by
  obtain ⟨p, t, M, B, k1, -⟩ := hN
  exact ⟨_, _, k1.2.1⟩
theorem c_36L {L : Nat} {xs : Nat → Int32} {fr lo : Nat} {h : ax_H} {nt w q : Nat} {ids : List Nat} {ms : List Mg} {u b : Nat → Int32} {kd fm tt ep st : Int32} (hN : NTL h nt w ids ms q u b) (hl : ids.length < 128) : ax_M L xs 36 fr lo [.ref nt, .int kd, .int fm, .int tt, .int ep, .int st] h (fun r h' => ∃ m bm, m < 130 ∧ r = some (.ref (w + 1 + 2 * m)) ∧ m ≠ q ∧ NTL h' nt w (ids ++ [m]) (ms ++ [(mg kd fm tt ep st, bm)]) q u b ∧ ax_fr (NTA nt w) h h' ∧ h'.1 = h.1 ∧ h'.2.1 = h.2.1) := by
  obtain ⟨p, t, M, B, k1, k2, k3, q1, q2, q3, rfl, rfl⟩ := hN
  refine ax_A.post (c_36 k1) (fun r h' hq => ?_)
  obtain ⟨m, m1, m2, m3, m4, m5, m6⟩ := hq
  rcases m6 with ⟨-, rfl, m6⟩ | ⟨c8, -⟩
  · have hmq : p ids.length ≠ q := q3 _ (Nat.le_refl _) hl
    refine ⟨p ids.length, B (p ids.length), m1, m2, hmq, ⟨p, t, va_up M (p ids.length) (mg kd fm tt ep st), B, by rw [List.length_append]; exact m6, by rw [List.length_append, List.length_append, k2]; rfl, fun i hi => ?_, q1, q2, fun i hi => ?_, va_up_n M _ (Ne.symm hmq), rfl⟩, m3, m4, m5⟩
    · rw [List.length_append] at hi
      have hi : i < ids.length + 1 := hi
      by_cases hil : i < ids.length
      · have hne : p i ≠ p ids.length := fun e => absurd (k1.1.2.2.2.2.2 i ids.length (by omega) hl e) (by omega)
        rw [List.getElem?_append_left hil, List.getElem?_append_left (by omega), va_up_n M _ hne]
        exact k3 i hil
      · have e : i = ids.length := by omega
        subst e
        rw [List.getElem?_append_right (Nat.le_refl _), List.getElem?_append_right (by omega), k2, Nat.sub_self, va_up_s]
        exact ⟨rfl, rfl⟩
    · rw [List.length_append] at hi
      exact q3 i (by omega)
  · omega
/-- all MESSAGES under way keep P -/
def NTP (h : ax_H) (nt w : Nat) (P : (Nat → Int32) → Prop) (q : Nat) (u b : Nat → Int32) : Prop := ∃ ids ms, NTL h nt w ids ms q u b ∧ ∀ x ∈ ms, P x.1
theorem NTP.fr {A : Nat → Prop} {h h' : ax_H} {nt w q : Nat} {P : (Nat → Int32) → Prop} {u b : Nat → Int32} (hN : NTP h nt w P q u b) (hf : ax_fr A h h') (hA : ∀ x, NTA nt w x → ¬ A x) : NTP h' nt w P q u b := by
  obtain ⟨ids, ms, k1, k2⟩ := hN
  exact ⟨ids, ms, k1.fr hf hA, k2⟩

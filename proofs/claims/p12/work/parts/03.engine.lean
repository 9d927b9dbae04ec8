/-! THE ENGINE: a deterministic machine over handles, given by one step; its weakest precondition, by fuel and without. -/
abbrev ax_H : Type := Nat × Nat × (Nat → va_E)
abbrev ax_S : Type := (Nat × Nat × Nat × Nat) × List (Nat × Value) × List Value × ax_H
abbrev ax_O : Type := Prop × (ax_S ⊕ ((Option Value × ax_H) ⊕ (ax_S × (Option Value → ax_H → ax_S))))
abbrev ax_Po : Type := Option Value → ax_H → Prop
def ax_le (h h' : ax_H) : Prop := h.1 ≤ h'.1 ∧ h.2.1 ≤ h'.2.1
theorem ax_le.rf {h : ax_H} : ax_le h h := ⟨Nat.le_refl _, Nat.le_refl _⟩
theorem ax_le.tr {a b c : ax_H} (h : ax_le a b) (h' : ax_le b c) : ax_le a c := ⟨Nat.le_trans h.1 h'.1, Nat.le_trans h.2 h'.2⟩
def ax_F (o : ax_O) (P : ax_S → ax_Po → Prop) (h0 : ax_H) (post : ax_Po) : Prop :=
  o.1 ∧ match o.2 with
    | .inl s' => ax_le h0 s'.2.2.2 ∧ P s' post
    | .inr (.inl (v, h)) => ax_le h0 h ∧ post v h
    | .inr (.inr (ce, k)) => ax_le h0 ce.2.2.2 ∧ P ce (fun v h => ax_le h (k v h).2.2.2 ∧ P (k v h) post)
def ax_wp (stp : ax_S → ax_O) : Nat → ax_S → ax_Po → Prop
  | 0, _, _ => False
  | n + 1, s, post => ax_F (stp s) (ax_wp stp n) s.2.2.2 post
theorem ax_F.mono {o : ax_O} {P P' : ax_S → ax_Po → Prop} {h0 : ax_H} {p q : ax_Po} (hP : ∀ s r, P s r → P' s r) (hM : ∀ s (r r' : ax_Po), (∀ v h, r v h → r' v h) → P' s r → P' s r') (hpq : ∀ v h, p v h → q v h) (h : ax_F o P h0 p) : ax_F o P' h0 q := by
  obtain ⟨g, o⟩ := o
  obtain ⟨h1, h2⟩ := h
  refine ⟨h1, ?_⟩
  rcases o with s' | ⟨v, h⟩ | ⟨ce, k⟩
  · exact ⟨h2.1, hM _ _ _ hpq (hP _ _ h2.2)⟩
  · exact ⟨h2.1, hpq _ _ h2.2⟩
  · exact ⟨h2.1, hM _ _ _ (fun v h q => ⟨q.1, hM _ _ _ hpq (hP _ _ q.2)⟩) (hP _ _ h2.2)⟩
theorem ax_wp.post {stp : ax_S → ax_O} : ∀ (n : Nat) (s : ax_S) (p q : ax_Po), (∀ v h, p v h → q v h) → ax_wp stp n s p → ax_wp stp n s q
  | 0, _, _, _, _, h => h
  | n + 1, _, _, _, hpq, h => ax_F.mono (P := ax_wp stp n) (P' := ax_wp stp n) (fun _ _ z => z) (fun s r r' hr hz => ax_wp.post n s r r' hr hz) hpq h
theorem ax_wp.succ {stp : ax_S → ax_O} : ∀ (n : Nat) (s : ax_S) (p : ax_Po), ax_wp stp n s p → ax_wp stp (n + 1) s p
  | 0, _, _, h => h.elim
  | n + 1, _, _, h => ax_F.mono (P := ax_wp stp n) (P' := ax_wp stp (n + 1)) (fun s r z => ax_wp.succ n s r z) (fun s r r' hr hz => ax_wp.post (n + 1) s r r' hr hz) (fun _ _ z => z) h
theorem ax_wp.up {stp : ax_S → ax_O} {n m : Nat} {s : ax_S} {p : ax_Po} (hnm : n ≤ m) (h : ax_wp stp n s p) : ax_wp stp m s p := by
  induction hnm with
  | refl => exact h
  | step _ ih => exact ax_wp.succ _ _ _ ih
/-- the end is one -/
theorem ax_wp.det {stp : ax_S → ax_O} : ∀ (n : Nat) (s : ax_S) (p : ax_Po), ax_wp stp n s p → ∃ v h, p v h ∧ ax_le s.2.2.2 h ∧ ax_wp stp n s (fun v' h' => v' = v ∧ h' = h)
  | 0, _, _, h => h.elim
  | n + 1, s, p, h => by
    have h' : ax_F (stp s) (ax_wp stp n) s.2.2.2 p := h
    show ∃ v h, p v h ∧ ax_le s.2.2.2 h ∧ ax_F (stp s) (ax_wp stp n) s.2.2.2 (fun v' h' => v' = v ∧ h' = h)
    generalize stp s = o at h'
    obtain ⟨g, o⟩ := o
    obtain ⟨h1, h2⟩ := h'
    rcases o with s' | ⟨v, hh⟩ | ⟨ce, k⟩
    · obtain ⟨v, hh, q1, q2, q3⟩ := ax_wp.det n _ _ h2.2
      exact ⟨v, hh, q1, h2.1.tr q2, h1, h2.1, q3⟩
    · exact ⟨v, hh, h2.2, h2.1, h1, h2.1, rfl, rfl⟩
    · obtain ⟨v, hh, q1, q2, q3⟩ := ax_wp.det n _ _ h2.2
      obtain ⟨v2, hh2, r1, r2, r3⟩ := ax_wp.det n _ _ q1.2
      refine ⟨v2, hh2, r1, h2.1.tr (q2.tr (q1.1.tr r2)), h1, h2.1, ax_wp.post n _ _ _ (fun v' h' e => ?_) q3⟩
      obtain ⟨rfl, rfl⟩ := e
      exact ⟨q1.1, r3⟩
/-- it comes to an end with post -/
def ax_A (stp : ax_S → ax_O) (s : ax_S) (post : ax_Po) : Prop := ∃ n, ax_wp stp n s post
theorem ax_A.F {stp : ax_S → ax_O} {s : ax_S} {post : ax_Po} {o : ax_O} (ho : stp s = o) (h : ax_F o (ax_A stp) s.2.2.2 post) : ax_A stp s post := by
  obtain ⟨g, o⟩ := o
  obtain ⟨h1, h2⟩ := h
  rcases o with s' | ⟨v, hh⟩ | ⟨ce, k⟩
  · obtain ⟨q, n, hn⟩ := h2
    refine ⟨n + 1, ?_⟩
    show ax_F (stp s) (ax_wp stp n) s.2.2.2 post
    rw [ho]
    exact ⟨h1, q, hn⟩
  · refine ⟨1, ?_⟩
    show ax_F (stp s) (ax_wp stp 0) s.2.2.2 post
    rw [ho]
    exact ⟨h1, h2⟩
  · obtain ⟨q, n, hn⟩ := h2
    obtain ⟨v, hh, ⟨q1, m, hm⟩, q2, q3⟩ := ax_wp.det n _ _ hn
    refine ⟨max n m + 1, ?_⟩
    show ax_F (stp s) (ax_wp stp (max n m)) s.2.2.2 post
    rw [ho]
    refine ⟨h1, q, ax_wp.post _ _ _ _ (fun v' h' e => ?_) (ax_wp.up (Nat.le_max_left n m) q3)⟩
    obtain ⟨rfl, rfl⟩ := e
    exact ⟨q1, ax_wp.up (Nat.le_max_right n m) hm⟩
theorem ax_A.post {stp : ax_S → ax_O} {s : ax_S} {p q : ax_Po} (h : ax_A stp s p) (hpq : ∀ v h, p v h → q v h) : ax_A stp s q := by
  obtain ⟨n, hn⟩ := h
  exact ⟨n, ax_wp.post n _ _ _ hpq hn⟩
theorem ax_A.ite {stp : ax_S → ax_O} {c : Prop} [Decidable c] {a b : ax_S} {p : ax_Po} (h1 : c → ax_A stp a p) (h2 : ¬ c → ax_A stp b p) : ax_A stp (if c then a else b) p := by
  by_cases hc : c
  · rw [if_pos hc]; exact h1 hc
  · rw [if_neg hc]; exact h2 hc


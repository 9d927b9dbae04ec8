/-! WORLDS over handles: a list of cells, apart -/
def ax_hs (h : ax_H) (F : List (Nat × va_E)) : Prop := (∀ (i j : Nat) (p q : Nat × va_E), F[i]? = some p → F[j]? = some q → p.1 = q.1 → i = j) ∧ ∀ (k : Nat) (q : Nat × va_E), F[k]? = some q → ax_g h q.1 = some q.2
theorem ax_hs.at {h : ax_H} {F : List (Nat × va_E)} (hF : ax_hs h F) (k : Nat) {a : Nat} {c : va_E} (e : F[k]? = some (a, c)) : ax_g h a = some c := hF.2 k (a, c) e
theorem ax_hs.put {h : ax_H} {F : List (Nat × va_E)} (hF : ax_hs h F) (k : Nat) {a : Nat} {c : va_E} (c' : va_E) (e : F[k]? = some (a, c)) {F' : List (Nat × va_E)} (hF' : F.set k (a, c') = F') : ax_hs (ax_put h a c') F' := by
  subst hF'
  have hl := (List.getElem?_eq_some_iff.mp e).1
  have key : ∀ (j : Nat) (q : Nat × va_E), (F.set k (a, c'))[j]? = some q → (j = k ∧ q = (a, c')) ∨ (j ≠ k ∧ F[j]? = some q) := by
    intro j q hq
    by_cases hj : j = k
    · subst hj
      rw [List.getElem?_set_self hl] at hq
      cases hq
      exact Or.inl ⟨rfl, rfl⟩
    · rw [List.getElem?_set_ne (Ne.symm hj)] at hq
      exact Or.inr ⟨hj, hq⟩
  refine ⟨fun i j p q hi hj hpq => ?_, fun j q hq => ?_⟩
  · rcases key i p hi with ⟨i1, i2⟩ | ⟨i1, i2⟩ <;> rcases key j q hj with ⟨j1, j2⟩ | ⟨j1, j2⟩
    · omega
    · subst i2
      exact absurd (hF.1 k j _ _ e j2 hpq) (by omega)
    · subst j2
      exact absurd (hF.1 i k _ _ i2 e hpq) (by omega)
    · exact hF.1 i j _ _ i2 j2 hpq
  · rcases key j q hq with ⟨j1, j2⟩ | ⟨j1, j2⟩
    · subst j2
      exact ag_same (hF.2 k _ e)
    · rw [ag_other (fun z => j1 (hF.1 j k _ _ j2 e z))]
      exact hF.2 j q j2
theorem ax_g_lt {h : ax_H} {a : Nat} {c : va_E} (g : ax_g h a = some c) : 0 < a ∧ a < h.1 := by
  unfold ax_g at g
  split at g
  · next q => exact q
  · cases g
theorem ax_hs.push {h : ax_H} {F : List (Nat × va_E)} (hF : ax_hs h F) (h0 : 0 < h.1) (n : Nat) (c : va_E) {F' : List (Nat × va_E)} (hF' : F ++ [(h.1, c)] = F') : ax_hs (ax_push h n c) F' := by
  subst hF'
  have key : ∀ (j : Nat) (q : Nat × va_E), (F ++ [(h.1, c)])[j]? = some q → (j = F.length ∧ q = (h.1, c)) ∨ (F[j]? = some q ∧ j < F.length ∧ q.1 < h.1) := by
    intro j q hq
    by_cases hj : j < F.length
    · rw [List.getElem?_append_left hj] at hq
      exact Or.inr ⟨hq, hj, (ax_g_lt (hF.2 j q hq)).2⟩
    · rw [List.getElem?_append_right (by omega)] at hq
      have hz : j - F.length < 1 := (List.getElem?_eq_some_iff.mp hq).1
      rw [show j - F.length = 0 by omega] at hq
      cases hq
      exact Or.inl ⟨by omega, rfl⟩
  refine ⟨fun i j p q hi hj hpq => ?_, fun j q hq => ?_⟩
  · rcases key i p hi with ⟨i1, i2⟩ | ⟨i1, i2, i3⟩ <;> rcases key j q hj with ⟨j1, j2⟩ | ⟨j1, j2, j3⟩
    · omega
    · subst i2
      have : h.1 = q.1 := hpq
      omega
    · subst j2
      have : p.1 = h.1 := hpq
      omega
    · exact hF.1 i j _ _ i1 j1 hpq
  · rcases key j q hq with ⟨j1, j2⟩ | ⟨j1, j2, j3⟩
    · subst j2
      exact ag_new h0
    · exact ag_old (hF.2 j q j1)
theorem ax_hs.sub {h : ax_H} {F F' : List (Nat × va_E)} (hF : ax_hs h F) (is : List Nat) (hn : va_nd is = true) (hs : is.map (fun i => F[i]?) = F'.map some) : ax_hs h F' := by
  have key : ∀ (k : Nat) (q : Nat × va_E), F'[k]? = some q → ∃ i, is[k]? = some i ∧ F[i]? = some q := by
    intro k q hk
    have h1 : (is.map (fun i => F[i]?))[k]? = some (some q) := by rw [hs, List.getElem?_map, hk]; rfl
    rw [List.getElem?_map] at h1
    cases hi : is[k]? with
    | none => rw [hi] at h1; cases h1
    | some i => rw [hi] at h1; exact ⟨i, rfl, Option.some.inj h1⟩
  refine ⟨fun i j x y hi hj hxy => ?_, fun k q hk => ?_⟩
  · obtain ⟨a, h1, h2⟩ := key i x hi
    obtain ⟨b, h3, h4⟩ := key j y hj
    have hab := hF.1 a b x y h2 h4 hxy
    subst hab
    exact va_nd_inj is hn i j a h1 h3
  · obtain ⟨a, -, h2⟩ := key k q hk
    exact hF.2 a q h2
theorem ax_hs.nil {h : ax_H} : ax_hs h [] := ⟨fun i j p q hi => by simp at hi, fun k q hk => by simp at hk⟩


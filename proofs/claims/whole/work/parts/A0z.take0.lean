/-! take(0), exactly: the last one comes to its place -/
theorem c_51Q {L : Nat} {xs : Nat → Int32} {fr lo : Nat} {h : ax_H} {nt w q i : Nat} {ids : List Nat} {ms : List Mg} {u b : Nat → Int32} (hN : NTL h nt w ids ms q u b) (hi : i < ids.length) : ax_M L xs 51 fr lo [.ref nt, .int (nI i)] h (fun r h' => ∃ (q' : Nat) (x : Mg) (ids' : List Nat) (ms' : List Mg), r = some (.ref (w + 1 + 2 * q')) ∧ ms[i]? = some x ∧ ms' = tkl ms i ∧ (x :: ms').Perm ms ∧ NTL h' nt w ids' ms' q' x.1 x.2 ∧ ax_fr (NTA nt w) h h' ∧ h'.1 = h.1 ∧ h'.2.1 = h.2.1) := by
  obtain ⟨p, t, M, B, k1, k2, k3, q1, q2, q3, rfl, rfl⟩ := hN
  refine ax_A.post (c_51 k1 hi) (fun r h' hq => ?_)
  obtain ⟨m1, m2, m3, m4, m5⟩ := hq
  have hc := k1.1.2.1
  have hp := k1.1.2.2.2.2.1
  have hinj := k1.1.2.2.2.2.2
  have key : ∀ {α : Type} (l : List α) (f : Nat → α), l.length = ids.length → (∀ j, j < ids.length → l[j]? = some (f (p j))) → ∀ j, j < ids.length - 1 → (tkl l i)[j]? = some (f (tk p t (ids.length - 1) i j)) := by
    intro α l f hl hf j hj
    have hne : l ≠ [] := by
      intro e
      rw [e] at hl
      have hl : 0 = ids.length := hl
      omega
    have hlast : l.getLast? = some (f (p (ids.length - 1))) := by
      rw [List.getLast?_eq_getElem?, hl]
      exact hf _ (by omega)
    have hdl : l.dropLast.length = ids.length - 1 := by rw [List.length_dropLast, hl]
    have hd : l.dropLast[j]? = some (f (p j)) := by
      have h0 := hf j (by omega)
      rw [(List.dropLast_concat_getLast hne).symm, List.getElem?_append_left (by omega)] at h0
      exact h0
    unfold tkl
    rw [hlast]
    show (if i + 1 = l.length then l.dropLast else l.dropLast.set i (f (p (ids.length - 1))))[j]? = _
    unfold tk
    rw [if_neg (show ¬ j = ids.length - 1 by omega)]
    by_cases e : i + 1 = l.length
    · rw [if_pos e, if_neg (show ¬ j = i by omega)]
      exact hd
    · rw [if_neg e]
      by_cases ej : j = i
      · subst ej
        rw [if_pos rfl, List.getElem?_set_self (by omega)]
      · rw [if_neg ej, List.getElem?_set_ne (Ne.symm ej)]
        exact hd
  have kl : ∀ {α : Type} (l : List α), l.length = ids.length → (tkl l i).length = ids.length - 1 := by
    intro α l hl
    have hne : l ≠ [] := by
      intro e
      rw [e] at hl
      have hl : 0 = ids.length := hl
      omega
    unfold tkl
    rw [List.getLast?_eq_some_getLast hne]
    show (if i + 1 = l.length then l.dropLast else l.dropLast.set i (l.getLast hne)).length = _
    split
    · rw [List.length_dropLast, hl]
    · rw [List.length_set, List.length_dropLast, hl]
  have l1 := kl ids rfl
  have l2 := kl ms k2
  refine ⟨p i, (M (p i), B (p i)), tkl ids i, tkl ms i, m1, (k3 i hi).2, rfl, tkl_perm (k3 i hi).2, ⟨tk p t (ids.length - 1) i, p i, M, B, by rw [l1]; exact m5, by rw [l1, l2], fun j hj => ?_, (hp i (by omega)).1, (hp i (by omega)).2.1, fun j h1 h2 => ?_, rfl, rfl⟩, m2, m3, m4⟩
  · rw [l1] at hj
    exact ⟨key ids (fun z => z) rfl (fun j hj => (k3 j hj).1) j hj, key ms (fun z => (M z, B z)) k2 (fun j hj => (k3 j hj).2) j hj⟩
  · rw [l1] at h1
    exact (m5.1.2.2.2.2.1 j h2).2.2
theorem NeX.take0 {L : Nat} {xs : Nat → Int32} {fr lo : Nat} {h : ax_H} {n q i : Nat} {ms : List Mg} {u b : Nat → Int32} (hN : NeX h n ms q u b) (hi : i < ms.length) : ax_M L xs 51 fr lo [.ref n, .int (nI i)] h (fun r h' => ∃ (q' : Nat) (x : Mg) (ms' : List Mg), r = some (.ref (n + 1 + 1 + 2 * q')) ∧ ms[i]? = some x ∧ ms' = tkl ms i ∧ (x :: ms').Perm ms ∧ NeX h' n ms' q' x.1 x.2 ∧ ax_fr (NTA n (n + 1)) h h' ∧ h'.1 = h.1 ∧ h'.2.1 = h.2.1) := by
  obtain ⟨ids, k⟩ := hN
  refine ax_A.post (c_51Q k (by have := k.len; omega)) (fun r h' hq => ?_)
  obtain ⟨q', x, ids', ms', k1, k2, k0, k3, k4, k5⟩ := hq
  exact ⟨q', x, ms', k1, k2, k0, k3, ⟨ids', k4⟩, k5⟩
/-- the first of those under way is taken -/
def tk0 (x : Mg) (S S' : SS) : Prop := S.2.2.1[0]? = some x ∧ S' = (S.1, S.2.1, tkl S.2.2.1 0, S.2.2.2)
theorem tk0.tkM {x : Mg} {S S' : SS} (h : tk0 x S S') : tkM x S S' := ⟨_, tkl_perm h.1, h.2⟩

/-! frames of calls -/
theorem ax_fr.putN {A : Nat → Prop} {h0 h : ax_H} {a : Nat} {c : va_E} (hf : ax_fr A h0 h) (ha : h0.1 ≤ a) : ax_fr A h0 (ax_put h a c) := ⟨hf.1, fun x hx hA => by
  have hxa : x ≠ a := by omega
  show (if x = a then c else h.2.2 x) = _
  rw [if_neg hxa]
  exact hf.2 x hx hA⟩
theorem ax_fr.trC {A B : Nat → Prop} {h0 h h' : ax_H} (h1 : ax_fr A h0 h) (h2 : ax_fr B h h') (hB : ∀ x, x < h0.1 → B x → A x) : ax_fr A h0 h' := ⟨h1.1.tr h2.1, fun x hx hA => (h2.2 x (Nat.lt_of_lt_of_le hx h1.1.1) (fun z => hA (hB x hx z))).trans (h1.2 x hx hA)⟩
theorem ax_pick {F F' : List (Nat × va_E)} {is : List Nat} (hs : is.map (fun i => F[i]?) = F'.map some) {k : Nat} {q : Nat × va_E} (hk : F'[k]? = some q) : ∃ i, is[k]? = some i ∧ F[i]? = some q := by
  have h1 : (is.map (fun i => F[i]?))[k]? = some (some q) := by rw [hs, List.getElem?_map, hk]; rfl
  rw [List.getElem?_map] at h1
  cases hi : is[k]? with
  | none => rw [hi] at h1; cases h1
  | some i => rw [hi] at h1; exact ⟨i, rfl, Option.some.inj h1⟩
theorem ax_hs.app {h : ax_H} {F G : List (Nat × va_E)} (hF : ax_hs h F) (hG : ax_hs h G) (hd : ∀ (i j : Nat) (p q : Nat × va_E), F[i]? = some p → G[j]? = some q → p.1 ≠ q.1) : ax_hs h (F ++ G) := by
  have key : ∀ (k : Nat) (q : Nat × va_E), (F ++ G)[k]? = some q → (k < F.length ∧ F[k]? = some q) ∨ (F.length ≤ k ∧ G[k - F.length]? = some q) := by
    intro k q hk
    by_cases hl : k < F.length
    · rw [List.getElem?_append_left hl] at hk
      exact Or.inl ⟨hl, hk⟩
    · rw [List.getElem?_append_right (by omega)] at hk
      exact Or.inr ⟨by omega, hk⟩
  refine ⟨fun i j p q hi hj hpq => ?_, fun k q hk => ?_⟩
  · rcases key i p hi with ⟨l1, a1⟩ | ⟨l1, a1⟩ <;> rcases key j q hj with ⟨l2, a2⟩ | ⟨l2, a2⟩
    · exact hF.1 i j p q a1 a2 hpq
    · exact absurd hpq (hd _ _ p q a1 a2)
    · exact absurd hpq.symm (hd _ _ q p a2 a1)
    · have := hG.1 _ _ p q a1 a2 hpq
      omega
  · rcases key k q hk with ⟨-, a1⟩ | ⟨-, a1⟩
    · exact hF.2 _ q a1
    · exact hG.2 _ q a1
/-- behind a call: As are the addresses (of cells at the places is) that the callee may write; the cells F' that it leaves are at those of is, or new -/
theorem ax_hs.call {h h' : ax_H} {W F' rest : List (Nat × va_E)} {As news : List Nat} (is js : List Nat) (hF : ax_hs h W) (hf : ax_fr (fun x => x ∈ As) h h') (hF' : ax_hs h' F') (hr : js.map (fun i => W[i]?) = rest.map some) (hnd : va_nd js = true) (hdis : js.all (fun j => !is.contains j) = true) (is1 : List Nat) (h1 : is1.map (fun i => (W[i]?).map (·.1)) = As.map some) (h1s : is1.all (fun i => is.contains i) = true) (is2 : List Nat) (h2 : (is2.map (fun i => (W[i]?).map (·.1))) ++ news.map some = (F'.map (·.1)).map some) (h2s : is2.all (fun i => is.contains i) = true) (hnew : ∀ x ∈ news, h.1 ≤ x) {G : List (Nat × va_E)} (hG : rest ++ F' = G) : ax_hs h' G := by
  subst hG
  have hR := hF.sub js hnd hr
  have apart : ∀ (k : Nat) (q : Nat × va_E), rest[k]? = some q → ∀ i ∈ is, ∀ a, (W[i]?).map (·.1) = some a → q.1 ≠ a := by
    intro k q hk i hi a ha e
    obtain ⟨j, j1, j2⟩ := ax_pick hr hk
    obtain ⟨⟨a', c⟩, w1, w2⟩ := Option.map_eq_some_iff.mp ha
    have w2' : a' = a := w2
    subst w2'
    have := hF.1 j i q (a', c) j2 w1 e
    subst this
    have hc := List.all_eq_true.mp hdis j (List.mem_of_getElem? j1)
    simp at hc
    exact hc hi
  refine ax_hs.app (hR.fr hf (fun q hq hA => ?_)) hF' (fun i j p q hp hq e => ?_)
  · obtain ⟨k, hk⟩ := List.getElem?_of_mem hq
    have hm : some q.1 ∈ is1.map (fun i => (W[i]?).map (·.1)) := by
      rw [h1]
      exact List.mem_map.mpr ⟨q.1, hA, rfl⟩
    obtain ⟨i, hi, he⟩ := List.mem_map.mp hm
    have hii := List.all_eq_true.mp h1s i hi
    exact apart k q hk i (by simpa using hii) q.1 he rfl
  · have hm : some q.1 ∈ (is2.map (fun i => (W[i]?).map (·.1))) ++ news.map some := by
      rw [h2]
      exact List.mem_map.mpr ⟨q.1, List.mem_map.mpr ⟨q, List.mem_of_getElem? hq, rfl⟩, rfl⟩
    rcases List.mem_append.mp hm with hm | hm
    · obtain ⟨k, hk, he⟩ := List.mem_map.mp hm
      have hii := List.all_eq_true.mp h2s k hk
      exact apart i p hp k (by simpa using hii) q.1 he e
    · obtain ⟨x, hx, he⟩ := List.mem_map.mp hm
      have hx2 := hnew x hx
      have hxe : x = q.1 := Option.some.inj he
      have := (ax_g_lt (hR.2 i p hp)).2
      omega


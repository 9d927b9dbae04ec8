/-! the quiet store: handOver goes to a NODE's hear, or to that of those who ask -/
def W0 (s0 n nn gg cc : Nat) (f : Nat → Int32) (c e mh : Int32) : List (Nat × va_E) := [(s0, .inr (0, [.ref (n + 264), .ref n, .ref (n + 266), .ref (n + 328), .ref (n + 320), .ref (n + 262), .ref (n + 263), .int 0, .int 0, .int 0, .int c])), (n + 264, .inr (3, [.int (nI nn), .int (nI cc), .int (nI gg), .ref (n + 265)])), (n + 265, .inl (0, gg * nn, .inl f)), (n + 266, .inr (4, [.ref (n + 264), .ref n, .ref (n + 267), .int 0, .ref (n + 268), .ref (n + 269), .ref (n + 270), .ref (n + 271), .int 0, .int 0, .int 0, .int 0, .int (-1), .int e, .int (allN nn), .int mh])), (n + 328, .inl (5, nn, .inr (.inr (.inr (.inr (fun j => if j < nn then some (n + 329 + 22 * j) else none))))))]
/-- what is under way: a LIST of the leader, or an empty LISTED to it -/
def PQ (p nn : Nat) (u : Nat → Int32) : Prop := u 3 = 1 ∧ ((u 0 = 4 ∧ u 1 = nI p ∧ ∃ j, j < nn ∧ u 2 = nI j) ∨ (u 0 = 5 ∧ u 2 = nI p ∧ u 6 = 0 ∧ u 7 = 0))
def QD (h : ax_H) (n nn gg p j : Nat) : Prop := ∃ hd cl ni tu md fm, ax_hs h (QN (n + 329 + 22 * j) (n + 264) n (nI gg) (nI j) 1 1 (allN nn) (if j = p then 1 else 0) (if j = p then allN nn else 0) hd cl ni tu md fm) ∧ (∃ k, k < 961 ∧ ni = nI k) ∧ (∃ k, k < nn ∧ tu = nI k)
def QT (h : ax_H) (s0 n nn gg cc p : Nat) (f : Nat → Int32) (q : Nat) (u b : Nat → Int32) : Prop :=
  (3 ≤ nn ∧ nn ≤ 6 ∧ 1 ≤ gg ∧ gg ≤ 16 ∧ p < nn ∧ s0 < n) ∧ nof f 0 (allN nn) nn 0 0 = nI p ∧ (∃ c, ax_hs h (W0 s0 n nn gg cc f c 1 (allN nn))) ∧ (∃ (ids : List Nat) (ms : List Mg), NTL h n (n + 1) ids ms q u b ∧ ∀ x ∈ ms, PQ p nn x.1) ∧ ∀ j, j < nn → QD h n nn gg p j
theorem W0.lt {s0 n nn gg cc : Nat} {f : Nat → Int32} {c e mh : Int32} (hs : s0 < n) : ∀ q ∈ W0 s0 n nn gg cc f c e mh, q.1 < n ∨ (n + 264 ≤ q.1 ∧ q.1 < n + 329) := by
  intro q hq
  simp only [W0, List.mem_cons, List.not_mem_nil, or_false] at hq
  rcases hq with rfl | rfl | rfl | rfl | rfl <;> dsimp only <;> omega
/-- the part of the store that NODE j and the net have -/
def JA (n j x : Nat) : Prop := NTA n (n + 1) x ∨ (n + 329 + 22 * j ≤ x ∧ x < n + 329 + 22 * j + 22)
theorem QT.upd {h h' : ax_H} {s0 n nn gg cc p q j : Nat} {f u b : Nat → Int32} (hQ : QT h s0 n nn gg cc p f q u b) (hf : ax_fr (JA n j) h h') (hN : ∃ (ids : List Nat) (ms : List Mg), NTL h' n (n + 1) ids ms q u b ∧ ∀ x ∈ ms, PQ p nn x.1) (hD : QD h' n nn gg p j) : QT h' s0 n nn gg cc p f q u b := by
  obtain ⟨hb, hp, ⟨c, hW⟩, hN0, hD0⟩ := hQ
  refine ⟨hb, hp, ⟨c, hW.fr hf (fun z hz hA => ?_)⟩, hN, fun k hk => ?_⟩
  · have := W0.lt hb.2.2.2.2.2 z hz
    rcases hA with hA | hA
    · unfold NTA at hA
      omega
    · omega
  · by_cases e : k = j
    · rw [e]
      exact hD
    · obtain ⟨hd, cl, ni, tu, md, fm, h1, h2⟩ := hD0 k hk
      refine ⟨hd, cl, ni, tu, md, fm, h1.fr hf (fun z hz hA => ?_), h2⟩
      have := QN.lt z hz
      rcases hA with hA | hA
      · unfold NTA at hA
        omega
      · omega
/-- sizes as they were, and only the store's own cells written -/
def SZ (m : Nat) (h h' : ax_H) : Prop := h'.1 = h.1 ∧ h'.2.1 = h.2.1 ∧ ax_fr (fun x => x < m) h h'
theorem SZ.rf {m : Nat} {h : ax_H} : SZ m h h := ⟨rfl, rfl, ax_fr.rf⟩
theorem SZ.tr {m : Nat} {a b c : ax_H} (h1 : SZ m a b) (h2 : SZ m b c) : SZ m a c := ⟨h2.1.trans h1.1, h2.2.1.trans h1.2.1, h1.2.2.tr h2.2.2⟩

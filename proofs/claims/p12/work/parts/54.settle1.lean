/-! settle of the quiet store: what is under way, and that it comes to an end -/
def iM (nn j : Nat) (u : Nat → Int32) : Prop := u 0 = 0 ∧ u 2 = nI j ∧ u 3 = 2 ∧ u 4 = allN nn
def iH (nn j : Nat) (u : Nat → Int32) : Prop := u 0 = 1 ∧ u 1 = nI j ∧ u 2 = nI nn ∧ u 3 = 2
def iL (p nn t j : Nat) (u : Nat → Int32) : Prop := u 0 = 4 ∧ u 1 = nI p ∧ u 2 = nI j ∧ u 3 = nI t ∧ u 4 = allN nn
def iD (p t j : Nat) (u : Nat → Int32) : Prop := u 0 = 5 ∧ u 1 = nI j ∧ u 2 = nI p ∧ u 3 = nI t ∧ u 6 = 0 ∧ u 7 = 0
def okM (p nn ep : Nat) (u : Nat → Int32) : Prop := ∃ j, j < nn ∧ (iM nn j u ∨ iH nn j u ∨ ∃ t, (t = 1 ∨ t = 2) ∧ (t = 2 → ep = 2) ∧ (iL p nn t j u ∨ iD p t j u))
def Iv (p nn ep km kc : Nat) (us : List (Nat → Int32)) : Prop :=
  (∀ u ∈ us, okM p nn ep u) ∧ (∀ j, j < nn → (∃ u ∈ us, iM nn j u) ∨ (∃ u ∈ us, iH nn j u) ∨ km.testBit j = true) ∧ (ep = 1 → ∃ u ∈ us, iM nn p u) ∧ (ep = 2 → ∀ j, j < nn → (∃ u ∈ us, iL p nn 2 j u) ∨ (∃ u ∈ us, iD p 2 j u) ∨ kc.testBit j = true) ∧ (ep = 1 ∨ ep = 2) ∧ km < 2 ^ nn ∧ kc < 2 ^ nn
def wt (u : Nat → Int32) : Nat := if u 0 = 0 ∨ u 0 = 4 then 2 else 1
theorem Iv.perm {p nn ep km kc : Nat} {us vs : List (Nat → Int32)} (hI : Iv p nn ep km kc us) (h : us.Perm vs) : Iv p nn ep km kc vs := by
  obtain ⟨h1, h2, h3, h4, h5⟩ := hI
  have hm : ∀ {R : (Nat → Int32) → Prop}, (∃ u ∈ us, R u) → ∃ u ∈ vs, R u := fun ⟨u, hu, hR⟩ => ⟨u, h.mem_iff.mp hu, hR⟩
  exact ⟨fun u hu => h1 u (h.mem_iff.mpr hu), fun j hj => (h2 j hj).imp hm (Or.imp hm id), fun e => hm (h3 e), fun e j hj => (h4 e j hj).imp hm (Or.imp hm id), h5⟩

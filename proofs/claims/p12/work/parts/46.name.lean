/-! name with an empty TAPE; begin as nothing was begun -/
theorem mul50 : ∀ k, k < 2 → (nI k) * 50 = nI (k * 50) ∧ ((nI k) + 1) * 50 = nI ((k + 1) * 50) := by decide
theorem upd_s (f : Nat → Int32) (i : Nat) (v : Int32) : upd f i v i = v := if_pos rfl

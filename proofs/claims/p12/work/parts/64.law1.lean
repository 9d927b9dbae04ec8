/-! the law: one call on the fresh store, and on the reference as new -/
theorem MW.ge {m nn gg cc : Nat} : ∀ q ∈ MW m (m + 1) nn gg cc, m ≤ q.1 := by
  intro q hq
  simp only [MW, List.mem_cons, List.not_mem_nil, or_false] at hq
  rcases hq with rfl | rfl | rfl | rfl | rfl | rfl | rfl | rfl | rfl | rfl | rfl | rfl | rfl | rfl | rfl | rfl | rfl | rfl | rfl | rfl | rfl | rfl <;> dsimp only <;> omega
theorem and31 (x : Int32) : ∃ k, k < 32 ∧ x &&& 31 = nI k := by
  refine ⟨(x &&& 31).toInt.toNat, ?_, ?_⟩
  · have h1 : (x &&& 31).toBitVec = x.toBitVec &&& 31#32 := rfl
    have h2 : (x &&& 31).toBitVec.toNat ≤ 31 := by
      rw [h1, BitVec.toNat_and]
      exact Nat.and_le_right
    have h3 : (x &&& 31).toInt = (x &&& 31).toBitVec.toInt := rfl
    rw [h3, BitVec.toInt_eq_toNat_of_lt (by omega)]
    omega
  · have h1 : (x &&& 31).toBitVec = x.toBitVec &&& 31#32 := rfl
    have h2 : (x &&& 31).toBitVec.toNat ≤ 31 := by
      rw [h1, BitVec.toNat_and]
      exact Nat.and_le_right
    have h3 : (x &&& 31).toInt = (x &&& 31).toBitVec.toInt := rfl
    have h4 : (x &&& 31).toInt = ((x &&& 31).toBitVec.toNat : Int) := by rw [h3, BitVec.toInt_eq_toNat_of_lt (by omega)]
    apply Int32.toInt.inj
    rw [nI_toInt' (by omega)]
    omega

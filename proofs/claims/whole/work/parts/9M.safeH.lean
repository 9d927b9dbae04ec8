/-! DISKS: fail for every state -/
theorem bv_shl24 (a : Int32) : (a <<< ((24 : Int32) &&& 31)).toBitVec = a.toBitVec <<< 24 := rfl
theorem bv_shl16 (a : Int32) : (a <<< ((16 : Int32) &&& 31)).toBitVec = a.toBitVec <<< 16 := rfl
theorem bv_shl8 (a : Int32) : (a <<< ((8 : Int32) &&& 31)).toBitVec = a.toBitVec <<< 8 := rfl
theorem bv_fst (a : Int32) : (fstB a).toBitVec = a.toBitVec >>> 24 := rfl
theorem bv_lst (a : Int32) : (lstB a).toBitVec = a.toBitVec &&& 255#32 := rfl
theorem b255 : ∀ i, i < 32 → (255#32).getLsbD i = decide (i < 8) := by decide
theorem bm24 : ∀ i, i < 32 → ((255#32 <<< 24) ^^^ (-1#32)).getLsbD i = decide (i < 24) := by decide
theorem bm16 : ∀ i, i < 32 → ((255#32 <<< 16) ^^^ (-1#32)).getLsbD i = decide (i < 16 ∨ 24 ≤ i) := by decide
theorem bm8 : ∀ i, i < 32 → ((255#32 <<< 8) ^^^ (-1#32)).getLsbD i = decide (i < 8 ∨ 16 ≤ i) := by decide
theorem bl24 (x v : BitVec 32) : ((x &&& ((255#32 <<< 24) ^^^ (-1#32))) ||| (v <<< 24)) &&& 255#32 = x &&& 255#32 := by
  apply BitVec.eq_of_getLsbD_eq
  intro i hi
  rw [BitVec.getLsbD_and, BitVec.getLsbD_or, BitVec.getLsbD_and, bm24 i hi, BitVec.getLsbD_shiftLeft, b255 i hi, BitVec.getLsbD_and, b255 i hi]
  by_cases h : i < 8
  · simp [h, show i < 24 by omega]
  · simp [h]
theorem bl16 (x v : BitVec 32) : ((x &&& ((255#32 <<< 16) ^^^ (-1#32))) ||| (v <<< 16)) &&& 255#32 = x &&& 255#32 := by
  apply BitVec.eq_of_getLsbD_eq
  intro i hi
  rw [BitVec.getLsbD_and, BitVec.getLsbD_or, BitVec.getLsbD_and, bm16 i hi, BitVec.getLsbD_shiftLeft, b255 i hi, BitVec.getLsbD_and, b255 i hi]
  by_cases h : i < 8
  · simp [h, show i < 16 by omega]
  · simp [h]
theorem bl8 (x v : BitVec 32) : ((x &&& ((255#32 <<< 8) ^^^ (-1#32))) ||| (v <<< 8)) &&& 255#32 = x &&& 255#32 := by
  apply BitVec.eq_of_getLsbD_eq
  intro i hi
  rw [BitVec.getLsbD_and, BitVec.getLsbD_or, BitVec.getLsbD_and, bm8 i hi, BitVec.getLsbD_shiftLeft, b255 i hi, BitVec.getLsbD_and, b255 i hi]
  by_cases h : i < 8
  · simp [h]
  · simp [h]
theorem bf24 (x v : BitVec 32) : ((x &&& ((255#32 <<< 24) ^^^ (-1#32))) ||| ((v &&& 255#32) <<< 24)) >>> 24 = v &&& 255#32 := by
  apply BitVec.eq_of_getLsbD_eq
  intro i hi
  rw [BitVec.getLsbD_ushiftRight, BitVec.getLsbD_or, BitVec.getLsbD_and, BitVec.getLsbD_shiftLeft]
  by_cases h : i < 8
  · rw [bm24 (24 + i) (by omega), BitVec.getLsbD_and, show 24 + i - 24 = i by omega]
    simp [show 24 + i < 32 by omega, show ¬ 24 + i < 24 by omega]
  · rw [BitVec.getLsbD_of_ge x (24 + i) (by omega), BitVec.getLsbD_and, b255 i hi]
    simp [h, show ¬ 24 + i < 32 by omega]
theorem bf16 (x v : BitVec 32) : ((x &&& ((255#32 <<< 16) ^^^ (-1#32))) ||| ((v &&& 255#32) <<< 16)) >>> 24 = x >>> 24 := by
  apply BitVec.eq_of_getLsbD_eq
  intro i hi
  rw [BitVec.getLsbD_ushiftRight, BitVec.getLsbD_ushiftRight, BitVec.getLsbD_or, BitVec.getLsbD_and, BitVec.getLsbD_shiftLeft]
  by_cases h : i < 8
  · rw [bm16 (24 + i) (by omega), BitVec.getLsbD_and, b255 (24 + i - 16) (by omega)]
    simp [show ¬ 24 + i - 16 < 8 by omega]
  · rw [BitVec.getLsbD_of_ge x (24 + i) (by omega)]
    simp [show ¬ 24 + i < 32 by omega]
theorem bf8 (x v : BitVec 32) : ((x &&& ((255#32 <<< 8) ^^^ (-1#32))) ||| ((v &&& 255#32) <<< 8)) >>> 24 = x >>> 24 := by
  apply BitVec.eq_of_getLsbD_eq
  intro i hi
  rw [BitVec.getLsbD_ushiftRight, BitVec.getLsbD_ushiftRight, BitVec.getLsbD_or, BitVec.getLsbD_and, BitVec.getLsbD_shiftLeft]
  by_cases h : i < 8
  · rw [bm8 (24 + i) (by omega), BitVec.getLsbD_and, b255 (24 + i - 8) (by omega)]
    simp [show ¬ 24 + i - 8 < 8 by omega]
  · rw [BitVec.getLsbD_of_ge x (24 + i) (by omega)]
    simp [show ¬ 24 + i < 32 by omega]
/-- a word with byte r of it set to v -/
def sbW (x v : Int32) (r : Nat) : Int32 := (x &&& ((255 <<< ((24 - (8 * ((nI r) &&& 3))) &&& 31)) ^^^ (-1))) ||| (v <<< ((24 - (8 * ((nI r) &&& 3))) &&& 31))
theorem lst_sb (x v : Int32) {r : Nat} (hr : r < 3) : lstB (sbW x v r) = lstB x := by
  apply Int32.toBitVec_inj.mp
  rcases r with _ | _ | _ | r
  · exact bl24 x.toBitVec v.toBitVec
  · exact bl16 x.toBitVec v.toBitVec
  · exact bl8 x.toBitVec v.toBitVec
  · omega
theorem fst_sb (x v : Int32) {r : Nat} (hr : r < 3) : fstB (sbW x (v &&& 255) r) = if r = 0 then v &&& 255 else fstB x := by
  apply Int32.toBitVec_inj.mp
  rcases r with _ | _ | _ | r
  · exact bf24 x.toBitVec v.toBitVec
  · exact bf16 x.toBitVec v.toBitVec
  · exact bf8 x.toBitVec v.toBitVec
  · omega


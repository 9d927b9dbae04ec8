/-! masks of NODES, and of FILES, by their bits -/
theorem bt_one {i j : Nat} (hi : i < 32) (hj : j < 32) : bt ((1 : Int32) <<< (nI i &&& 31)) j = decide (j = i) := by
  rw [b_shl i hi 1 hj]
  by_cases e : j = i
  · subst e
    rw [Nat.sub_self, bt_1 0 (by omega)]
    simp
  · by_cases h : i ≤ j
    · rw [bt_1 (j - i) (by omega)]
      have : ¬ j - i = 0 := by omega
      simp [this, e]
    · simp [h, e]
theorem bt_set (x : Int32) {i j : Nat} (hi : i < 32) (hj : j < 32) : bt (x ||| ((1 : Int32) <<< (nI i &&& 31))) j = (bt x j || decide (j = i)) := by rw [b_or, bt_one hi hj]
theorem bt_not (x : Int32) {j : Nat} (hj : j < 32) : bt (x ^^^ (-1)) j = !bt x j := by rw [b_xor, b_m1 j hj]; simp
theorem bt_clr (x : Int32) {i j : Nat} (hi : i < 32) (hj : j < 32) : bt (x &&& (((1 : Int32) <<< (nI i &&& 31)) ^^^ (-1))) j = (bt x j && !decide (j = i)) := by rw [b_and, bt_not _ hj, bt_one hi hj]
theorem bt_sub (x m : Int32) : x &&& m = m ↔ ∀ i, i < 32 → bt m i = true → bt x i = true := by
  constructor
  · intro h i hi hm
    have : bt (x &&& m) i = bt m i := by rw [h]
    rw [b_and, hm] at this
    simpa using this
  · intro h
    refine b_ext (fun i hi => ?_)
    rw [b_and]
    cases e : bt m i with
    | false => simp
    | true => simp [h i hi e]
theorem bt_z (x : Int32) : x = 0 ↔ ∀ i, i < 32 → bt x i = false := by
  constructor
  · intro h i _
    rw [h, b_0]
  · intro h
    exact b_ext (fun i hi => by rw [h i hi, b_0])
/-! Int64 -/
def bq (x : Int64) (i : Nat) : Bool := x.toBitVec.getLsbD i
theorem q_ext {x y : Int64} (h : ∀ i, i < 64 → bq x i = bq y i) : x = y := Int64.toBitVec_inj.mp (BitVec.eq_of_getLsbD_eq (fun i hi => h i hi))
theorem q_or (x y : Int64) (i : Nat) : bq (x ||| y) i = (bq x i || bq y i) := by unfold bq; rw [Int64.toBitVec_or, BitVec.getLsbD_or]
theorem q_and (x y : Int64) (i : Nat) : bq (x &&& y) i = (bq x i && bq y i) := by unfold bq; rw [Int64.toBitVec_and, BitVec.getLsbD_and]
theorem q_xor (x y : Int64) (i : Nat) : bq (x ^^^ y) i = (bq x i ^^ bq y i) := by unfold bq; rw [Int64.toBitVec_xor, BitVec.getLsbD_xor]
theorem q_m1 : ∀ i, i < 64 → bq (-1) i = true := by decide +kernel
theorem q_0 (i : Nat) : bq 0 i = false := BitVec.getLsbD_zero
theorem q_1 : ∀ i, i < 64 → bq 1 i = decide (i = 0) := by decide +kernel
theorem s_l64 : ∀ n, n < 64 → (((nI n).toInt64 &&& 63).toBitVec.smod 64).toNat = n := by decide +kernel
theorem q_shl (n : Nat) (hn : n < 64) (x : Int64) {i : Nat} (hi : i < 64) : bq (x <<< ((nI n).toInt64 &&& 63)) i = (decide (n ≤ i) && bq x (i - n)) := by
  unfold bq
  rw [Int64.toBitVec_shiftLeft]
  show (x.toBitVec <<< (((nI n).toInt64 &&& 63).toBitVec.smod 64).toNat).getLsbD i = _
  rw [s_l64 n hn, BitVec.getLsbD_shiftLeft]
  rcases Nat.lt_or_ge i n with h | h
  · simp [h, Nat.not_le.mpr h]
  · simp [hi, h, Nat.not_lt.mpr h]
theorem q_sshr (n : Nat) (hn : n < 64) (x : Int64) {i : Nat} (hi : i < 64) : bq (x >>> ((nI n).toInt64 &&& 63)) i = if n + i < 64 then bq x (n + i) else bq x 63 := by
  unfold bq
  rw [Int64.toBitVec_shiftRight]
  show (x.toBitVec.sshiftRight (((nI n).toInt64 &&& 63).toBitVec.smod 64).toNat).getLsbD i = _
  rw [s_l64 n hn, BitVec.getLsbD_sshiftRight, BitVec.msb_eq_getLsbD_last]
  simp [hi]
theorem q_one {i j : Nat} (hi : i < 64) (hj : j < 64) : bq ((1 : Int64) <<< ((nI i).toInt64 &&& 63)) j = decide (j = i) := by
  rw [q_shl i hi 1 hj]
  by_cases e : j = i
  · subst e
    rw [Nat.sub_self, q_1 0 (by omega)]
    simp
  · by_cases h : i ≤ j
    · rw [q_1 (j - i) (by omega)]
      have : ¬ j - i = 0 := by omega
      simp [this, e]
    · simp [h, e]
theorem q_set (x : Int64) {i j : Nat} (hi : i < 64) (hj : j < 64) : bq (x ||| ((1 : Int64) <<< ((nI i).toInt64 &&& 63))) j = (bq x j || decide (j = i)) := by rw [q_or, q_one hi hj]
theorem q_clr (x : Int64) {i j : Nat} (hi : i < 64) (hj : j < 64) : bq (x &&& (((1 : Int64) <<< ((nI i).toInt64 &&& 63)) ^^^ (-1))) j = (bq x j && !decide (j = i)) := by rw [q_and, q_xor, q_m1 j hj, q_one hi hj]; simp
theorem bqz (x : Int64) {j : Nat} (hj : j < 64) : (x >>> ((nI j).toInt64 &&& 63)) &&& 1 = 0 ↔ bq x j = false := by
  constructor
  · intro h
    have h1 : bq ((x >>> ((nI j).toInt64 &&& 63)) &&& 1) 0 = bq 0 0 := by rw [h]
    rw [q_and, q_sshr j hj x (by omega), if_pos (by omega), q_1 0 (by omega), q_0] at h1
    simpa using h1
  · intro h
    refine q_ext (fun i hi => ?_)
    rw [q_and, q_0, q_1 i hi]
    by_cases e : i = 0
    · subst e
      rw [q_sshr j hj x hi, if_pos (by omega), Nat.add_zero, h]
      rfl
    · simp [e]
theorem knB_z (K : Int64) {f : Nat} (hf : f < 64) : knB K f = 0 ↔ bq K f = false := bqz K hf
def n64 (x : Int64) : Nat := x.toBitVec.toNat
theorem n64_lt (x : Int64) : n64 x < 2 ^ 64 := x.toBitVec.isLt
theorem n64_and (x y : Int64) : n64 (x &&& y) = n64 x &&& n64 y := by unfold n64; rw [Int64.toBitVec_and, BitVec.toNat_and]
theorem n64_add {x y : Int64} (h : n64 x + n64 y < 2 ^ 64) : n64 (x + y) = n64 x + n64 y := by unfold n64 at *; rw [Int64.toBitVec_add, BitVec.toNat_add, Nat.mod_eq_of_lt h]
theorem n64_sub {x y : Int64} (h : n64 y ≤ n64 x) : n64 (x - y) = n64 x - n64 y := by
  have := n64_lt x
  unfold n64 at *
  rw [Int64.toBitVec_sub, BitVec.toNat_sub]
  omega
theorem s_u64 : ∀ n, n < 64 → (((nI n).toInt64.toUInt64 &&& Int64.toUInt64 63).toBitVec % 64).toNat = n := by decide +kernel
theorem n64_shr (n : Nat) (hn : n < 64) (x : Int64) : n64 ((x.toUInt64 >>> ((nI n).toInt64.toUInt64 &&& Int64.toUInt64 63)).toInt64) = n64 x / 2 ^ n := by
  show (x.toUInt64 >>> ((nI n).toInt64.toUInt64 &&& Int64.toUInt64 63)).toBitVec.toNat = x.toBitVec.toNat / 2 ^ n
  rw [UInt64.toBitVec_shiftRight]
  show (x.toUInt64.toBitVec >>> (((nI n).toInt64.toUInt64 &&& Int64.toUInt64 63).toBitVec % 64).toNat).toNat = _
  rw [s_u64 n hn, BitVec.toNat_ushiftRight, Nat.shiftRight_eq_div_pow]
  rfl
theorem bq_n (x : Int64) (i : Nat) : (if bq x i = true then 1 else 0) = n64 x / 2 ^ i % 2 := by
  unfold bq n64 BitVec.getLsbD
  rw [Nat.testBit_eq_decide_div_mod_eq]
  have := Nat.mod_two_eq_zero_or_one (x.toBitVec.toNat / 2 ^ i)
  rcases this with h | h <;> simp [h]
theorem S2_Sm (g : Nat → Nat) : ∀ n, S2 g n = Sm g n
  | 0 => rfl
  | n + 1 => by show S2 g n + g n = Sm g n + g n; rw [S2_Sm g n]
theorem i32_127 {y6 : Int64} {s : Nat} (hf : n64 y6 % 128 = s) (p10 : s ≤ 64) : y6.toInt32 &&& 127 = nI s := by
  apply Int32.toBitVec_inj.mp
  apply BitVec.eq_of_toNat_eq
  rw [Int32.toBitVec_and, BitVec.toNat_and]
  show (y6.toInt32).toBitVec.toNat &&& 127 = (Int32.ofNat s).toBitVec.toNat
  rw [show (127 : Nat) = 2 ^ 7 - 1 by decide, Nat.and_two_pow_sub_one_eq_mod]
  have : (y6.toInt32).toBitVec.toNat = n64 y6 % 2 ^ 32 := by
    unfold n64
    rw [Int64.toBitVec_toInt32, BitVec.signExtend_eq_setWidth_of_le _ (by decide), BitVec.toNat_setWidth]
  rw [this]
  show _ = (BitVec.ofNat 32 s).toNat
  rw [BitVec.toNat_ofNat]
  omega
/-- Long.bitCount -/
theorem bcL_eq (K : Int64) : bcL K = nI (Sm (fun i => if bq K i = true then 1 else 0) 64) := by
  have hS : Sm (fun i => if bq K i = true then 1 else 0) 64 = S2 (fun i => n64 K / 2 ^ i % 2) 64 := by
    rw [S2_Sm]
    exact Sm_cg (fun i _ => bq_n K i)
  rw [hS]
  obtain ⟨p1, p2, p3, p4, p5, p6, p7, p8, p9, p10⟩ := pop_nat (n64 K) (n64_lt K)
  have c1 : n64 (6148914691236517205 : Int64) = 6148914691236517205 := by decide +kernel
  have c2 : n64 (3689348814741910323 : Int64) = 3689348814741910323 := by decide +kernel
  have c3 : n64 (1085102592571150095 : Int64) = 1085102592571150095 := by decide +kernel
  suffices H : ∀ y1 y2 y3 y4 y5 y6 : Int64, y1 = K - (((K.toUInt64 >>> ((1 : Int32).toInt64.toUInt64 &&& Int64.toUInt64 63)).toInt64) &&& 6148914691236517205) → y2 = (y1 &&& 3689348814741910323) + (((y1.toUInt64 >>> ((2 : Int32).toInt64.toUInt64 &&& Int64.toUInt64 63)).toInt64) &&& 3689348814741910323) → y3 = (y2 + ((y2.toUInt64 >>> ((4 : Int32).toInt64.toUInt64 &&& Int64.toUInt64 63)).toInt64)) &&& 1085102592571150095 → y4 = y3 + ((y3.toUInt64 >>> ((8 : Int32).toInt64.toUInt64 &&& Int64.toUInt64 63)).toInt64) → y5 = y4 + ((y4.toUInt64 >>> ((16 : Int32).toInt64.toUInt64 &&& Int64.toUInt64 63)).toInt64) → y6 = y5 + ((y5.toUInt64 >>> ((32 : Int32).toInt64.toUInt64 &&& Int64.toUInt64 63)).toInt64) → y6.toInt32 &&& 127 = nI (S2 (fun i => n64 K / 2 ^ i % 2) 64) from H _ _ _ _ _ _ rfl rfl rfl rfl rfl rfl
  intro y1 y2 y3 y4 y5 y6 q1 q2 q3 q4 q5 q6
  have e1 : n64 y1 = n64 K - (n64 K / 2 &&& 6148914691236517205) := by
    rw [q1]
    have : n64 (((K.toUInt64 >>> ((1 : Int32).toInt64.toUInt64 &&& Int64.toUInt64 63)).toInt64) &&& 6148914691236517205) = n64 K / 2 &&& 6148914691236517205 := by
      rw [n64_and, c1]
      exact congrArg (· &&& _) (n64_shr 1 (by decide) K)
    rw [n64_sub (by rw [this]; exact p1), this]
  have e2 : n64 y2 = (n64 y1 &&& 3689348814741910323) + (n64 y1 / 4 &&& 3689348814741910323) := by
    rw [q2]
    have a : n64 (((y1.toUInt64 >>> ((2 : Int32).toInt64.toUInt64 &&& Int64.toUInt64 63)).toInt64) &&& 3689348814741910323) = n64 y1 / 4 &&& 3689348814741910323 := by
      rw [n64_and, c2]
      exact congrArg (· &&& _) (n64_shr 2 (by decide) y1)
    have b : n64 (y1 &&& 3689348814741910323) = n64 y1 &&& 3689348814741910323 := by rw [n64_and, c2]
    rw [n64_add (by rw [a, b, e1]; exact Nat.lt_trans p3 (by decide)), a, b]
  rw [e1] at e2
  have e3 : n64 y3 = (n64 y2 + n64 y2 / 16) &&& 1085102592571150095 := by
    rw [q3]
    have a : n64 ((y2.toUInt64 >>> ((4 : Int32).toInt64.toUInt64 &&& Int64.toUInt64 63)).toInt64) = n64 y2 / 16 := n64_shr 4 (by decide) y2
    rw [n64_and, c3, n64_add (by rw [a, e2]; exact p4), a]
  have e4 : n64 y4 = n64 y3 + n64 y3 / 256 := by
    rw [q4]
    have a : n64 ((y3.toUInt64 >>> ((8 : Int32).toInt64.toUInt64 &&& Int64.toUInt64 63)).toInt64) = n64 y3 / 256 := n64_shr 8 (by decide) y3
    rw [n64_add (by rw [a, e3, e2]; exact p6), a]
  have e5 : n64 y5 = n64 y4 + n64 y4 / 65536 := by
    rw [q5]
    have a : n64 ((y4.toUInt64 >>> ((16 : Int32).toInt64.toUInt64 &&& Int64.toUInt64 63)).toInt64) = n64 y4 / 65536 := n64_shr 16 (by decide) y4
    rw [n64_add (by rw [a, e4, e3, e2]; exact p7), a]
  have e6 : n64 y6 = n64 y5 + n64 y5 / 4294967296 := by
    rw [q6]
    have a : n64 ((y5.toUInt64 >>> ((32 : Int32).toInt64.toUInt64 &&& Int64.toUInt64 63)).toInt64) = n64 y5 / 4294967296 := n64_shr 32 (by decide) y5
    rw [n64_add (by rw [a, e5, e4, e3, e2]; exact p8), a]
  have hf : n64 y6 % 128 = S2 (fun i => n64 K / 2 ^ i % 2) 64 := by rw [e6, e5, e4, e3, e2]; exact p9
  exact i32_127 hf p10

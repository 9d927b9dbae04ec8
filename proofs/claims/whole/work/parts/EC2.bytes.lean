/-! bytes in words -/
theorem b_255 : ∀ i, i < 32 → bt 255 i = decide (i < 8) := by decide +kernel
theorem sh_r : ∀ r, r < 4 → (24 - (8 * ((nI r) &&& 3)) : Int32) = nI (24 - 8 * r) := by decide +kernel
theorem and3n (k : Nat) : (nI k) &&& 3 = nI (k % 4) := by
  apply Int32.toBitVec_inj.mp
  apply BitVec.eq_of_toNat_eq
  rw [Int32.toBitVec_and, BitVec.toNat_and]
  show (BitVec.ofNat 32 k).toNat &&& 3 = (BitVec.ofNat 32 (k % 4)).toNat
  rw [BitVec.toNat_ofNat, BitVec.toNat_ofNat, show (3 : Nat) = 2 ^ 2 - 1 by decide, Nat.and_two_pow_sub_one_eq_mod]
  omega
theorem shA (k : Nat) : (24 - (8 * ((nI k) &&& 3)) : Int32) = nI (24 - 8 * (k % 4)) := by
  rw [and3n, ← sh_r (k % 4) (Nat.mod_lt _ (by decide)), and3n, Nat.mod_mod]
/-- a byte's bits -/
theorem byt_b (f : Nat → Int32) (k : Nat) {i : Nat} (hi : i < 32) : bt (bytA f k) i = (decide (i < 8) && bt (f (k / 4)) (24 - 8 * (k % 4) + i)) := by
  unfold bytA
  rw [shA, b_and, b_ushr _ (by omega), b_255 i hi, Bool.and_comm]
theorem byt_ext {f g : Nat → Int32} {j k : Nat} (h : ∀ i, i < 8 → bt (f (j / 4)) (24 - 8 * (j % 4) + i) = bt (g (k / 4)) (24 - 8 * (k % 4) + i)) : bytA f j = bytA g k := b_ext (fun i hi => by
  rw [byt_b f j hi, byt_b g k hi]
  by_cases c : i < 8
  · rw [h i c]
  · simp [c])
/-- the word in which one byte is put anew -/
theorem sbt_b (x : Int32) (F : Nat → Int32) (z p : Nat) {i : Nat} (hi : i < 32) : bt ((x &&& ((255 <<< ((24 - (8 * ((nI p) &&& 3))) &&& 31)) ^^^ (-1))) ||| ((bytA F z) <<< ((24 - (8 * ((nI p) &&& 3))) &&& 31))) i = (if 24 - 8 * (p % 4) ≤ i ∧ i < 24 - 8 * (p % 4) + 8 then bt (F (z / 4)) (24 - 8 * (z % 4) + (i - (24 - 8 * (p % 4)))) else bt x i) := by
  have hr : p % 4 < 4 := Nat.mod_lt _ (by decide)
  rw [shA, b_or, b_and, bt_not _ hi, b_shl _ (by omega) _ hi, b_shl _ (by omega) _ hi, byt_b F z (by omega), b_255 _ (by omega)]
  generalize hs : 24 - 8 * (p % 4) = s
  by_cases c : s ≤ i ∧ i < s + 8
  · rw [if_pos c]
    have c1 : decide (s ≤ i) = true := decide_eq_true c.1
    have c2 : decide (i - s < 8) = true := decide_eq_true (by omega)
    rw [c1, c2]
    simp
  · rw [if_neg c]
    by_cases d : s ≤ i
    · have c2 : decide (i - s < 8) = false := decide_eq_false (by omega)
      rw [c2]
      simp
    · have c1 : decide (s ≤ i) = false := decide_eq_false d
      rw [c1]
      simp
/-- one byte -/
theorem byt_put (t F : Nat → Int32) (z p y : Nat) : bytA (upd t (p / 4) ((t (p / 4) &&& ((255 <<< ((24 - (8 * ((nI p) &&& 3))) &&& 31)) ^^^ (-1))) ||| ((bytA F z) <<< ((24 - (8 * ((nI p) &&& 3))) &&& 31)))) y = if y = p then bytA F z else bytA t y := by
  by_cases e : y = p
  · rw [if_pos e, e]
    refine byt_ext (fun i hi => ?_)
    rw [pk_us, sbt_b _ _ _ _ (by omega), if_pos (by omega)]
    congr 1
    omega
  · rw [if_neg e]
    refine byt_ext (fun i hi => ?_)
    by_cases e2 : y / 4 = p / 4
    · rw [e2, pk_us, sbt_b _ _ _ _ (by omega), if_neg (by omega)]
    · rw [pk_un e2]
theorem mvB_byt (F : Nat → Int32) (i j : Nat) : ∀ (m k : Nat) (t : Nat → Int32) (y : Nat), bytA (mvB F i j m k t) y = if j + k ≤ y ∧ y < j + k + m then bytA F (i + (y - j)) else bytA t y
  | 0, k, t, y => by
    show bytA t y = _
    rw [if_neg (by omega)]
  | m + 1, k, t, y => by
    show bytA (mvB F i j m (k + 1) _) y = _
    rw [mvB_byt F i j m (k + 1) _ y, byt_put t F (i + k) (j + k) y]
    by_cases c : j + k = y
    · subst c
      rw [if_neg (by omega), if_pos rfl, if_pos (by omega)]
      congr 1
      omega
    · by_cases d : j + k ≤ y ∧ y < j + k + (m + 1)
      · rw [if_pos d, if_pos (by omega)]
      · rw [if_neg d, if_neg (by omega), if_neg (by omega)]
/-- Bytes.move -/
theorem mvF_byt (F : Nat → Int32) (i j n : Nat) (t : Nat → Int32) (y : Nat) : bytA (mvF F i j n t) y = if j ≤ y ∧ y < j + n then bytA F (i + (y - j)) else bytA t y := by
  unfold mvF
  by_cases c : i % 4 = 0 ∧ j % 4 = 0
  · rw [if_pos c, mvB_byt]
    by_cases d : j + n / 4 * 4 ≤ y ∧ y < j + n / 4 * 4 + (n - n / 4 * 4)
    · rw [if_pos d, if_pos (by omega)]
    · rw [if_neg d]
      by_cases e : j ≤ y ∧ y < j + n
      · rw [if_pos e]
        refine byt_ext (fun q hq => ?_)
        rw [pk_cpy_in (by omega) (by omega), show i / 4 + (y / 4 - j / 4) = (i + (y - j)) / 4 by omega, show (i + (y - j)) % 4 = y % 4 by omega]
      · rw [if_neg e]
        refine byt_ext (fun q hq => ?_)
        rw [pk_cpy_out (by omega)]
  · rw [if_neg c, mvB_byt, Nat.add_zero]
/-- one byte is 0 -/
theorem byt_z (t : Nat → Int32) (p y : Nat) : bytA (upd t (p / 4) (t (p / 4) &&& ((255 <<< ((24 - (8 * ((nI p) &&& 3))) &&& 31)) ^^^ (-1)))) y = if y = p then 0 else bytA t y := by
  have hr : p % 4 < 4 := Nat.mod_lt _ (by decide)
  have key : ∀ i, i < 32 → bt (t (p / 4) &&& ((255 <<< ((24 - (8 * ((nI p) &&& 3))) &&& 31)) ^^^ (-1))) i = if 24 - 8 * (p % 4) ≤ i ∧ i < 24 - 8 * (p % 4) + 8 then false else bt (t (p / 4)) i := fun i hi => by
    rw [shA, b_and, bt_not _ hi, b_shl _ (by omega) _ hi, b_255 _ (by omega)]
    generalize hs : 24 - 8 * (p % 4) = s
    by_cases c : s ≤ i ∧ i < s + 8
    · rw [if_pos c, decide_eq_true c.1, decide_eq_true (show i - s < 8 by omega)]
      simp
    · rw [if_neg c]
      by_cases d : s ≤ i
      · rw [decide_eq_true d, decide_eq_false (show ¬ i - s < 8 by omega)]
        simp
      · rw [decide_eq_false d]
        simp
  by_cases e : y = p
  · rw [if_pos e, e]
    refine b_ext (fun i hi => ?_)
    rw [byt_b _ _ hi, b_0, pk_us]
    by_cases c : i < 8
    · rw [key _ (by omega), if_pos (by omega)]
      simp
    · simp [c]
  · rw [if_neg e]
    refine byt_ext (fun i hi => ?_)
    by_cases e2 : y / 4 = p / 4
    · rw [e2, pk_us, key _ (by omega), if_neg (by omega)]
    · rw [pk_un e2]
/-- Bytes.clear -/
theorem clB_byt : ∀ (m k : Nat) (t : Nat → Int32) (y : Nat), bytA (clB m k t) y = if k ≤ y ∧ y < k + m then 0 else bytA t y
  | 0, k, t, y => by
    show bytA t y = _
    rw [if_neg (by omega)]
  | m + 1, k, t, y => by
    show bytA (clB m (k + 1) _) y = _
    rw [clB_byt m (k + 1) _ y, byt_z t k y]
    by_cases c : k = y
    · subst c
      rw [if_neg (by omega), if_pos rfl, if_pos (by omega)]
    · by_cases d : k ≤ y ∧ y < k + (m + 1)
      · rw [if_pos d, if_pos (by omega)]
      · rw [if_neg d, if_neg (by omega), if_neg (by omega)]
theorem clB_o2 : ∀ (m k : Nat) (t : Nat → Int32) (x : Nat), (x < k / 4 ∨ (k + m + 3) / 4 ≤ x) → clB m k t x = t x
  | 0, k, t, x, _ => rfl
  | m + 1, k, t, x, h => by
    show clB m (k + 1) _ x = _
    rw [clB_o2 m (k + 1) _ x (by omega), pk_un (by omega)]
/-- words by their bytes -/
theorem byt_w {f g : Nat → Int32} {x y : Nat} (h : ∀ r, r < 4 → bytA f (4 * x + r) = bytA g (4 * y + r)) : f x = g y := b_ext (fun i hi => by
  have := congrArg (fun z => bt z (i % 8)) (h (3 - i / 8) (by omega))
  simp only [byt_b _ _ (show i % 8 < 32 by omega)] at this
  rw [show (4 * x + (3 - i / 8)) / 4 = x by omega, show (4 * y + (3 - i / 8)) / 4 = y by omega, show 24 - 8 * ((4 * x + (3 - i / 8)) % 4) + i % 8 = i by omega, show 24 - 8 * ((4 * y + (3 - i / 8)) % 4) + i % 8 = i by omega, decide_eq_true (show i % 8 < 8 by omega)] at this
  simpa using this)
theorem byt_cg {f g : Nat → Int32} {y z : Nat} (h : f (y / 4) = g (z / 4)) (hm : y % 4 = z % 4) : bytA f y = bytA g z := byt_ext (fun i _ => by rw [h, hm])

/-! Long.bitCount counts bits -/
def dg (b : Nat) (g : Nat → Nat) : Nat → Nat
  | 0 => 0
  | n + 1 => g 0 + b * dg b (fun i => g (i + 1)) n
theorem dg_cg {b : Nat} : ∀ {n : Nat} {g h : Nat → Nat}, (∀ i, i < n → g i = h i) → dg b g n = dg b h n
  | 0, _, _, _ => rfl
  | n + 1, g, h, H => by
    show g 0 + b * dg b _ n = h 0 + b * dg b _ n
    rw [H 0 (by omega), dg_cg (fun i hi => H (i + 1) (by omega))]
theorem dg_lt {b : Nat} (hb : 0 < b) : ∀ {n : Nat} {g : Nat → Nat}, (∀ i, i < n → g i < b) → dg b g n < b ^ n
  | 0, _, _ => by show 0 < b ^ 0; rw [Nat.pow_zero]; omega
  | n + 1, g, H => by
    show g 0 + b * dg b _ n < b ^ (n + 1)
    have h1 := H 0 (by omega)
    have h2 := dg_lt hb (n := n) (g := fun i => g (i + 1)) (fun i hi => H (i + 1) (by omega))
    have h3 : b * dg b (fun i => g (i + 1)) n + b ≤ b * b ^ n := by
      rw [← Nat.mul_succ]
      exact Nat.mul_le_mul_left b h2
    rw [Nat.pow_succ, Nat.mul_comm (b ^ n) b]
    omega
theorem dg_self {b : Nat} (hb : 0 < b) : ∀ (n x : Nat), x < b ^ n → dg b (fun i => x / b ^ i % b) n = x
  | 0, x, h => by rw [Nat.pow_zero] at h; show 0 = x; omega
  | n + 1, x, h => by
    show x / b ^ 0 % b + b * dg b (fun i => x / b ^ (i + 1) % b) n = x
    have e : (fun i => x / b ^ (i + 1) % b) = fun i => x / b / b ^ i % b := by
      funext i
      rw [Nat.pow_succ, Nat.mul_comm, Nat.div_div_eq_div_mul]
    rw [e, dg_self hb n (x / b) (Nat.div_lt_of_lt_mul (by rw [Nat.pow_succ, Nat.mul_comm] at h; exact h)), Nat.pow_zero, Nat.div_one]
    exact Nat.mod_add_div x b
theorem dg_add {b : Nat} : ∀ (n : Nat) (g h : Nat → Nat), dg b g n + dg b h n = dg b (fun i => g i + h i) n
  | 0, _, _ => rfl
  | n + 1, g, h => by
    show g 0 + b * dg b _ n + (h 0 + b * dg b _ n) = g 0 + h 0 + b * dg b (fun i => g (i + 1) + h (i + 1)) n
    rw [← dg_add n (fun i => g (i + 1)) (fun i => h (i + 1)), Nat.mul_add]
    omega
theorem dg_sub {b : Nat} (n : Nat) (g h : Nat → Nat) (H : ∀ i, i < n → h i ≤ g i) : dg b g n - dg b h n = dg b (fun i => g i - h i) n := by
  have : dg b h n + dg b (fun i => g i - h i) n = dg b g n := by
    rw [dg_add]
    exact dg_cg (fun i hi => by have := H i hi; omega)
  omega
theorem land_dig {w a m A M : Nat} (ha : a < 2 ^ w) (hm : m < 2 ^ w) : (a + 2 ^ w * A) &&& (m + 2 ^ w * M) = (a &&& m) + 2 ^ w * (A &&& M) := by
  apply Nat.eq_of_testBit_eq
  intro i
  rw [Nat.testBit_and, Nat.add_comm a, Nat.add_comm m, Nat.add_comm (a &&& m), Nat.testBit_two_pow_mul_add _ ha, Nat.testBit_two_pow_mul_add _ hm, Nat.testBit_two_pow_mul_add _ (Nat.lt_of_le_of_lt Nat.and_le_left ha)]
  split
  · rw [Nat.testBit_and]
  · rw [Nat.testBit_and]
theorem dg_and {w : Nat} : ∀ (n : Nat) (g h : Nat → Nat), (∀ i, i < n → g i < 2 ^ w) → (∀ i, i < n → h i < 2 ^ w) → dg (2 ^ w) g n &&& dg (2 ^ w) h n = dg (2 ^ w) (fun i => g i &&& h i) n
  | 0, _, _, _, _ => Nat.zero_and 0
  | n + 1, g, h, hg, hh => by
    show (g 0 + 2 ^ w * dg _ _ n) &&& (h 0 + 2 ^ w * dg _ _ n) = (g 0 &&& h 0) + 2 ^ w * dg (2 ^ w) (fun i => g (i + 1) &&& h (i + 1)) n
    rw [land_dig (hg 0 (by omega)) (hh 0 (by omega)), dg_and n _ _ (fun i hi => hg (i + 1) (by omega)) (fun i hi => hh (i + 1) (by omega))]
theorem dg_div {b : Nat} (hb : 0 < b) (n : Nat) (g : Nat → Nat) (h : g 0 < b) : dg b g (n + 1) / b = dg b (fun i => g (i + 1)) n := by
  show (g 0 + b * dg b _ n) / b = _
  rw [Nat.add_mul_div_left _ _ hb, Nat.div_eq_of_lt h, Nat.zero_add]
/-- one digit more, which is 0 -/
theorem dg_ext {b : Nat} : ∀ (n : Nat) (g : Nat → Nat), g n = 0 → dg b g (n + 1) = dg b g n
  | 0, g, h => by show g 0 + b * 0 = 0; omega
  | n + 1, g, h => by
    show g 0 + b * dg b (fun i => g (i + 1)) (n + 1) = g 0 + b * dg b (fun i => g (i + 1)) n
    rw [dg_ext n (fun i => g (i + 1)) h]
/-- two digits in one -/
theorem dg_two {b : Nat} : ∀ (n : Nat) (g : Nat → Nat), dg b g (2 * n) = dg (b * b) (fun i => g (2 * i) + b * g (2 * i + 1)) n
  | 0, _ => rfl
  | n + 1, g => by
    show dg b g (2 * n + 1 + 1) = g (2 * 0) + b * g (2 * 0 + 1) + b * b * dg (b * b) (fun i => g (2 * (i + 1)) + b * g (2 * (i + 1) + 1)) n
    show g 0 + b * (g (0 + 1) + b * dg b (fun i => g (i + 1 + 1)) (2 * n)) = _
    rw [dg_two n (fun i => g (i + 1 + 1)), Nat.mul_add, Nat.mul_assoc]
    have e : (fun i => g (2 * i + 1 + 1) + b * g (2 * i + 1 + 1 + 1)) = fun i => g (2 * (i + 1)) + b * g (2 * (i + 1) + 1) := by
      funext i
      rw [show 2 * i + 1 + 1 = 2 * (i + 1) by omega]
    rw [e]
    show _ = g 0 + b * g (0 + 1) + _
    omega
def S2 (g : Nat → Nat) : Nat → Nat
  | 0 => 0
  | n + 1 => S2 g n + g n
theorem S2_two (g : Nat → Nat) : ∀ n, S2 g (2 * n) = S2 (fun i => g (2 * i) + g (2 * i + 1)) n
  | 0 => rfl
  | n + 1 => by
    show S2 g (2 * n) + g (2 * n) + g (2 * n + 1) = S2 _ n + (g (2 * n) + g (2 * n + 1))
    rw [S2_two g n]
    omega
theorem S2_cg {g h : Nat → Nat} : ∀ {n : Nat}, (∀ i, i < n → g i = h i) → S2 g n = S2 h n
  | 0, _ => rfl
  | n + 1, H => by
    show S2 g n + g n = S2 h n + h n
    rw [S2_cg (fun i hi => H i (by omega)), H n (by omega)]
theorem dg_sh {b : Nat} (hb : 0 < b) : ∀ (n : Nat) (g : Nat → Nat), g 0 < b → g n = 0 → dg b g n / b = dg b (fun i => g (i + 1)) n
  | 0, g, _, _ => Nat.zero_div b
  | n + 1, g, h0, hz => by rw [dg_div hb n g h0, dg_ext n (fun i => g (i + 1)) hz]
theorem pop_tail {r : Nat → Nat} {y3 : Nat} (hr : ∀ i, r i ≤ 8) (hz : ∀ i, 8 ≤ i → r i = 0) (e3 : y3 = dg (2 ^ 8) r 8) :
    y3 < 2 ^ 64 ∧ y3 + y3 / 256 < 2 ^ 64 ∧ y3 + y3 / 256 + (y3 + y3 / 256) / 65536 < 2 ^ 64 ∧ y3 + y3 / 256 + (y3 + y3 / 256) / 65536 + (y3 + y3 / 256 + (y3 + y3 / 256) / 65536) / 4294967296 < 2 ^ 64 ∧ (y3 + y3 / 256 + (y3 + y3 / 256) / 65536 + (y3 + y3 / 256 + (y3 + y3 / 256) / 65536) / 4294967296) % 128 = r 0 + r 1 + r 2 + r 3 + r 4 + r 5 + r 6 + r 7 := by
  have sh : ∀ g : Nat → Nat, (∀ i, g i < 256) → (∀ i, 8 ≤ i → g i = 0) → dg (2 ^ 8) g 8 / 256 = dg (2 ^ 8) (fun i => g (i + 1)) 8 := fun g h1 h2 => dg_sh (b := 2 ^ 8) (by decide) 8 g (h1 0) (h2 8 (by omega))
  have lt : ∀ g : Nat → Nat, (∀ i, g i < 256) → dg (2 ^ 8) g 8 < 2 ^ 64 := fun g h => dg_lt (b := 2 ^ 8) (by decide) (fun i _ => h i)
  have b0 : ∀ i, r i < 256 := fun i => by have := hr i; omega
  have d3 : y3 / 256 = dg (2 ^ 8) (fun i => r (i + 1)) 8 := by rw [e3]; exact sh r b0 hz
  have e4 : y3 + y3 / 256 = dg (2 ^ 8) (fun i => r i + r (i + 1)) 8 := by rw [d3, e3, dg_add]
  have l3 : y3 < 2 ^ 64 := by rw [e3]; exact lt r b0
  generalize y3 + y3 / 256 = y4 at *
  have b4 : ∀ i, r i + r (i + 1) < 256 := fun i => by have := hr i; have := hr (i + 1); omega
  have l4 : y4 < 2 ^ 64 := by rw [e4]; exact lt _ b4
  have d4 : y4 / 65536 = dg (2 ^ 8) (fun i => r (i + 2) + r (i + 3)) 8 := by
    rw [show 65536 = 256 * 256 by decide, ← Nat.div_div_eq_div_mul, e4, sh _ b4 (fun i hi => by rw [hz i hi, hz (i + 1) (by omega)])]
    exact sh (fun i => r (i + 1) + r (i + 1 + 1)) (fun i => b4 (i + 1)) (fun i hi => by rw [hz (i + 1) (by omega), hz (i + 1 + 1) (by omega)])
  have e5 : y4 + y4 / 65536 = dg (2 ^ 8) (fun i => r i + r (i + 1) + (r (i + 2) + r (i + 3))) 8 := by rw [d4, e4, dg_add]
  generalize y4 + y4 / 65536 = y5 at *
  let g5 : Nat → Nat := fun i => r i + r (i + 1) + (r (i + 2) + r (i + 3))
  have b5 : ∀ i, g5 i ≤ 32 := fun i => by have := hr i; have := hr (i + 1); have := hr (i + 2); have := hr (i + 3); show r i + r (i + 1) + (r (i + 2) + r (i + 3)) ≤ 32; omega
  have z5 : ∀ i, 8 ≤ i → g5 i = 0 := fun i hi => by show r i + r (i + 1) + (r (i + 2) + r (i + 3)) = 0; rw [hz i hi, hz (i + 1) (by omega), hz (i + 2) (by omega), hz (i + 3) (by omega)]
  have e5 : y5 = dg (2 ^ 8) g5 8 := e5
  have l5 : y5 < 2 ^ 64 := by rw [e5]; exact lt _ (fun i => by have := b5 i; omega)
  have d5 : y5 / 4294967296 = dg (2 ^ 8) (fun i => g5 (i + 4)) 8 := by
    rw [show 4294967296 = 256 * 256 * 256 * 256 by decide, ← Nat.div_div_eq_div_mul, ← Nat.div_div_eq_div_mul, ← Nat.div_div_eq_div_mul, e5, sh g5 (fun i => by have := b5 i; omega) z5, sh (fun i => g5 (i + 1)) (fun i => by have := b5 (i + 1); omega) (fun i hi => z5 _ (by omega)), sh (fun i => g5 (i + 1 + 1)) (fun i => by have := b5 (i + 1 + 1); omega) (fun i hi => z5 _ (by omega)), sh (fun i => g5 (i + 1 + 1 + 1)) (fun i => by have := b5 (i + 1 + 1 + 1); omega) (fun i hi => z5 _ (by omega))]
  have e6 : y5 + y5 / 4294967296 = dg (2 ^ 8) (fun i => g5 i + g5 (i + 4)) 8 := by rw [d5, e5, dg_add]
  refine ⟨l3, l4, l5, ?_, ?_⟩
  · rw [e6]
    exact lt _ (fun i => by have := b5 i; have := b5 (i + 4); omega)
  · rw [e6]
    show (g5 0 + g5 (0 + 4) + 2 ^ 8 * dg (2 ^ 8) _ 7) % 128 = _
    rw [show 2 ^ 8 = 128 * 2 by decide, Nat.mul_assoc, Nat.add_mul_mod_self_left, Nat.mod_eq_of_lt (by have := b5 0; have := b5 (0 + 4); omega)]
    show r 0 + r 1 + (r 2 + r 3) + (r 4 + r 5 + (r 6 + r 7)) = _
    omega
/-- the steps of Long.bitCount on natural numbers -/
theorem pop_nat (x : Nat) (hx : x < 2 ^ 64) :
    let y1 := x - (x / 2 &&& 6148914691236517205)
    let y2 := (y1 &&& 3689348814741910323) + (y1 / 4 &&& 3689348814741910323)
    let y3 := (y2 + y2 / 16) &&& 1085102592571150095
    let y4 := y3 + y3 / 256
    let y5 := y4 + y4 / 65536
    let y6 := y5 + y5 / 4294967296
    (x / 2 &&& 6148914691236517205) ≤ x ∧ y1 < 2 ^ 64 ∧ y2 < 2 ^ 63 ∧ y2 + y2 / 16 < 2 ^ 64 ∧ y3 < 2 ^ 64 ∧ y4 < 2 ^ 64 ∧ y5 < 2 ^ 64 ∧ y6 < 2 ^ 64 ∧ y6 % 128 = S2 (fun i => x / 2 ^ i % 2) 64 ∧ S2 (fun i => x / 2 ^ i % 2) 64 ≤ 64 := by
  intro y1 y2 y3 y4 y5 y6
  let d : Nat → Nat := fun i => x / 4 ^ i % 4
  have hd : ∀ i, d i < 4 := fun i => Nat.mod_lt _ (by decide)
  have ex : x = dg 4 d 32 := (dg_self (by decide) 32 x (by rw [show 4 ^ 32 = 2 ^ 64 by decide]; exact hx)).symm
  let e : Nat → Nat := fun i => d i / 2
  -- x / 2 &&& 0x55..
  have h55 : x / 2 &&& 6148914691236517205 = dg 4 e 32 := by
    have m : (6148914691236517205 : Nat) = dg (2 ^ 1) (fun i => if i % 2 = 0 then 1 else 0) 64 := by decide +kernel
    have xb : x = dg (2 ^ 1) (fun i => x / 2 ^ i % 2) 64 := (dg_self (by decide) 64 x hx).symm
    have xd : x / 2 = dg (2 ^ 1) (fun i => x / 2 ^ (i + 1) % 2) 64 := by
      rw [dg_ext 63 (fun i => x / 2 ^ (i + 1) % 2) (by show x / 2 ^ 64 % 2 = 0; rw [Nat.div_eq_of_lt hx])]
      have := dg_div (b := 2 ^ 1) (by decide) 63 (fun i => x / 2 ^ i % 2) (Nat.mod_lt _ (by decide))
      rw [← xb] at this
      exact this
    rw [m, xd, dg_and 64 _ _ (fun i _ => Nat.mod_lt _ (by decide)) (fun i _ => by split <;> decide), show 64 = 2 * 32 by decide, dg_two]
    refine dg_cg (fun i hi => ?_)
    have a1 : (2 * i) % 2 = 0 := by omega
    have a2 : ¬ (2 * i + 1) % 2 = 0 := by omega
    simp only [if_pos a1, if_neg a2, Nat.and_zero, Nat.mul_zero, Nat.add_zero, Nat.and_one_is_mod, Nat.mod_mod]
    show x / 2 ^ (2 * i + 1) % 2 = x / 4 ^ i % 4 / 2
    rw [Nat.pow_succ, Nat.pow_mul, ← Nat.div_div_eq_div_mul, show (2 ^ 2) = 4 by decide]
    omega
  let c : Nat → Nat := fun i => d i - d i / 2
  have hc : ∀ i, c i ≤ 2 := fun i => by have := hd i; show d i - d i / 2 ≤ 2; omega
  have hle : (x / 2 &&& 6148914691236517205) ≤ x := by
    rw [h55]
    have := dg_sub (b := 4) 32 d e (fun i _ => Nat.div_le_self _ _)
    have h2 := dg_add (b := 4) 32 e (fun i => d i - e i)
    rw [dg_cg (g := fun i => e i + (d i - e i)) (h := d) (fun i _ => by have : e i ≤ d i := Nat.div_le_self _ _; omega), ← ex] at h2
    omega
  have e1 : y1 = dg (2 ^ 2) c 32 := by
    show x - (x / 2 &&& 6148914691236517205) = _
    rw [h55]
    have := dg_sub (b := 4) 32 d e (fun i _ => Nat.div_le_self _ _)
    rw [← ex] at this
    exact this
  have l1 : y1 < 2 ^ 64 := Nat.lt_of_le_of_lt (Nat.sub_le _ _) hx
  let q : Nat → Nat := fun i => c (2 * i) + c (2 * i + 1)
  have hq : ∀ i, q i ≤ 4 := fun i => by have := hc (2 * i); have := hc (2 * i + 1); show c (2 * i) + c (2 * i + 1) ≤ 4; omega
  have e2 : y2 = dg (2 ^ 4) q 16 := by
    have m : (3689348814741910323 : Nat) = dg (2 ^ 2) (fun i => if i % 2 = 0 then 3 else 0) 32 := by decide +kernel
    have hc3 : ∀ i, c i < 2 ^ 2 := fun i => by have := hc i; show c i < 4; omega
    have a3 : ∀ i, c i &&& 3 = c i := fun i => by
      have := hc i
      have : c i = 0 ∨ c i = 1 ∨ c i = 2 := by omega
      rcases this with z | z | z <;> rw [z] <;> rfl
    have u1 : y1 &&& 3689348814741910323 = dg (2 ^ 4) (fun i => c (2 * i)) 16 := by
      rw [m, e1, dg_and 32 _ _ (fun i _ => hc3 i) (fun i _ => by split <;> decide), show 32 = 2 * 16 by decide, dg_two]
      refine dg_cg (fun i hi => ?_)
      have a1 : (2 * i) % 2 = 0 := by omega
      have a2 : ¬ (2 * i + 1) % 2 = 0 := by omega
      simp only [if_pos a1, if_neg a2, Nat.and_zero, Nat.mul_zero, Nat.add_zero, a3]
    have u2 : y1 / 4 &&& 3689348814741910323 = dg (2 ^ 4) (fun i => c (2 * i + 1)) 16 := by
      let c' : Nat → Nat := fun i => if i < 31 then c (i + 1) else 0
      have : y1 / 4 = dg (2 ^ 2) c' 32 := by
        rw [e1, dg_ext 31 c' rfl]
        have := dg_div (b := 2 ^ 2) (by decide) 31 c (hc3 0)
        rw [show (4 : Nat) = 2 ^ 2 by decide, this]
        exact dg_cg (fun i hi => (if_pos hi).symm)
      have hc4 : ∀ i, c' i < 2 ^ 2 := fun i => by show (if i < 31 then c (i + 1) else 0) < 4; split; exact hc3 _; decide
      rw [m, this, dg_and 32 _ _ (fun i _ => hc4 i) (fun i _ => by split <;> decide), show 32 = 2 * 16 by decide, dg_two]
      refine dg_cg (fun i hi => ?_)
      have a1 : (2 * i) % 2 = 0 := by omega
      have a2 : ¬ (2 * i + 1) % 2 = 0 := by omega
      simp only [if_pos a1, if_neg a2, Nat.and_zero, Nat.mul_zero, Nat.add_zero]
      show (if 2 * i < 31 then c (2 * i + 1) else 0) &&& 3 = _
      rw [if_pos (by omega), a3]
    show (y1 &&& 3689348814741910323) + (y1 / 4 &&& 3689348814741910323) = _
    rw [u1, u2, dg_add]
  let r : Nat → Nat := fun i => q (2 * i) + q (2 * i + 1)
  have hr : ∀ i, r i ≤ 8 := fun i => by have := hq (2 * i); have := hq (2 * i + 1); show q (2 * i) + q (2 * i + 1) ≤ 8; omega
  let q' : Nat → Nat := fun i => if i < 15 then q (i + 1) else 0
  have hq' : ∀ i, q' i ≤ 4 := fun i => by show (if i < 15 then q (i + 1) else 0) ≤ 4; split; exact hq _; omega
  have e2s : y2 + y2 / 16 = dg (2 ^ 4) (fun i => q i + q' i) 16 := by
    have : y2 / 16 = dg (2 ^ 4) q' 16 := by
      rw [e2, dg_ext 15 q' rfl]
      have := dg_div (b := 2 ^ 4) (by decide) 15 q (by have := hq 0; show q 0 < 16; omega)
      rw [show (16 : Nat) = 2 ^ 4 by decide, this]
      exact dg_cg (fun i hi => (if_pos hi).symm)
    rw [this, e2, dg_add]
  have b2 : dg (2 ^ 4) q 16 ≤ dg (2 ^ 4) (fun _ => 4) 16 := by
    have := dg_add (b := 2 ^ 4) 16 q (fun i => 4 - q i)
    rw [dg_cg (g := fun i => q i + (4 - q i)) (h := fun _ => 4) (fun i _ => by have := hq i; omega)] at this
    omega
  have l2 : y2 < 2 ^ 63 := by
    rw [e2]
    exact Nat.lt_of_le_of_lt b2 (by decide +kernel)
  have l2s : y2 + y2 / 16 < 2 ^ 64 := by
    have := Nat.div_le_self y2 16
    omega
  have e3 : y3 = dg (2 ^ 8) r 8 := by
    have m : (1085102592571150095 : Nat) = dg (2 ^ 4) (fun i => if i % 2 = 0 then 15 else 0) 16 := by decide +kernel
    show (y2 + y2 / 16) &&& 1085102592571150095 = _
    rw [e2s, m, dg_and 16 _ _ (fun i _ => by have := hq i; have := hq' i; show q i + q' i < 16; omega) (fun i _ => by split <;> decide), show 16 = 2 * 8 by decide, dg_two]
    refine dg_cg (fun i hi => ?_)
    have a1 : (2 * i) % 2 = 0 := by omega
    have a2 : ¬ (2 * i + 1) % 2 = 0 := by omega
    simp only [if_pos a1, if_neg a2, Nat.and_zero, Nat.mul_zero, Nat.add_zero]
    have : q' (2 * i) = q (2 * i + 1) := if_pos (by omega)
    rw [this]
    have h8 := hr i
    show (r i) &&& 15 = r i
    rw [show (15 : Nat) = 2 ^ 4 - 1 by decide, Nat.and_two_pow_sub_one_eq_mod]
    exact Nat.mod_eq_of_lt (by show r i < 16; omega)
  have b3 : dg (2 ^ 8) r 8 ≤ dg (2 ^ 8) (fun _ => 8) 8 := by
    have := dg_add (b := 2 ^ 8) 8 r (fun i => 8 - r i)
    rw [dg_cg (g := fun i => r i + (8 - r i)) (h := fun _ => 8) (fun i _ => by have := hr i; omega)] at this
    omega
  have hS : S2 (fun i => x / 2 ^ i % 2) 64 = r 0 + r 1 + r 2 + r 3 + r 4 + r 5 + r 6 + r 7 := by
    have s1 : S2 (fun i => x / 2 ^ i % 2) 64 = S2 c 32 := by
      rw [show 64 = 2 * 32 by decide, S2_two]
      refine S2_cg (fun i _ => ?_)
      show x / 2 ^ (2 * i) % 2 + x / 2 ^ (2 * i + 1) % 2 = x / 4 ^ i % 4 - x / 4 ^ i % 4 / 2
      rw [Nat.pow_succ, Nat.pow_mul, ← Nat.div_div_eq_div_mul, show (2 ^ 2) = 4 by decide]
      omega
    rw [s1, show 32 = 2 * 16 by decide, S2_two, show (16 : Nat) = 2 * 8 by decide]
    have := S2_two q 8
    rw [show S2 (fun i => c (2 * i) + c (2 * i + 1)) (2 * 8) = S2 q (2 * 8) from rfl, this]
    show 0 + r 0 + r 1 + r 2 + r 3 + r 4 + r 5 + r 6 + r 7 = _
    omega
  let r8 : Nat → Nat := fun i => if i < 8 then r i else 0
  have h8 : ∀ i, r8 i ≤ 8 := fun i => by show (if i < 8 then r i else 0) ≤ 8; split; exact hr i; omega
  have e8 : y3 = dg (2 ^ 8) r8 8 := e3.trans (dg_cg (fun i hi => (if_pos hi).symm))
  obtain ⟨t1, t2, t3, t4, t5⟩ := pop_tail h8 (fun i hi => if_neg (by omega)) e8
  refine ⟨hle, l1, l2, l2s, t1, t2, t3, t4, t5.trans hS.symm, ?_⟩
  rw [hS]
  have r0 := hr 0
  have r1 := hr 1
  have r2 := hr 2
  have r3 := hr 3
  have r4 := hr 4
  have r5 := hr 5
  have r6 := hr 6
  have r7 := hr 7
  generalize r 0 = a0 at *
  generalize r 1 = a1 at *
  generalize r 2 = a2 at *
  generalize r 3 = a3 at *
  generalize r 4 = a4 at *
  generalize r 5 = a5 at *
  generalize r 6 = a6 at *
  generalize r 7 = a7 at *
  omega

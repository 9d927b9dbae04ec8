/-! NAMES: the order by words is the order by bytes -/
def uN (x : Int32) : Nat := x.toBitVec.toNat
theorem uN_lt (x : Int32) : uN x < 2 ^ 32 := x.toBitVec.isLt
theorem uN_inj {x y : Int32} (h : uN x = uN y) : x = y := Int32.toBitVec_inj.mp (BitVec.eq_of_toNat_eq h)
theorem uN_bt (x : Int32) (i : Nat) : (uN x).testBit i = bt x i := BitVec.testBit_toNat x.toBitVec
theorem byt_u (f : Nat → Int32) (k : Nat) : uN (bytA f k) = uN (f (k / 4)) / 2 ^ (24 - 8 * (k % 4)) % 2 ^ 8 := by
  apply Nat.eq_of_testBit_eq
  intro i
  rw [uN_bt, Nat.testBit_mod_two_pow, Nat.testBit_div_two_pow, uN_bt]
  by_cases hi : i < 32
  · rw [byt_b f k hi, Nat.add_comm i]
  · rw [b_big (by omega), decide_eq_false (show ¬ i < 8 by omega)]
    rfl
theorem nib_u (x : Int32) : uN (x &&& 255) = uN x % 2 ^ 8 := by
  apply Nat.eq_of_testBit_eq
  intro i
  rw [uN_bt, Nat.testBit_mod_two_pow, uN_bt, b_and]
  have h255 : ∀ j, j < 32 → bt 255 j = decide (j < 8) := by decide +kernel
  by_cases hi : i < 32
  · rw [h255 i hi, Bool.and_comm]
  · rw [b_big (by omega), decide_eq_false (show ¬ i < 8 by omega)]
    rfl
theorem uN_top (x : Int32) : bt x 31 = decide (2 ^ 31 ≤ uN x) := by
  rw [← uN_bt, Nat.testBit_eq_decide_div_mod_eq]
  have := uN_lt x
  by_cases c : 2 ^ 31 ≤ uN x
  · rw [decide_eq_true c, decide_eq_true]
    omega
  · rw [decide_eq_false c, decide_eq_false]
    omega
theorem toI_u (x : Int32) : x.toInt = if uN x < 2 ^ 31 then (uN x : Int) else (uN x : Int) - 2 ^ 32 := by
  show x.toBitVec.toInt = _
  rw [BitVec.toInt_eq_toNat_cond]
  show (if 2 * uN x < 2 ^ 32 then (uN x : Int) else (uN x : Int) - ((2 ^ 32 : Nat) : Int)) = _
  by_cases c : uN x < 2 ^ 31
  · rw [if_pos c, if_pos (by omega)]
  · rw [if_neg c, if_neg (by omega)]
    rfl
theorem uN_sm {x y : Int32} (hx : uN x < 2 ^ 31) (hy : uN y < 2 ^ 31) : x < y ↔ uN x < uN y := by
  rw [Int32.lt_iff_toInt_lt, toI_u, toI_u, if_pos hx, if_pos hy]
  omega
theorem flip_I (x : Int32) : (x ^^^ (-2147483648)).toInt = (uN x : Int) - 2 ^ 31 := by
  have hm : ∀ j, j < 32 → bt (-2147483648) j = decide (j = 31) := by decide +kernel
  have h1 : uN (x ^^^ (-2147483648)) % 2 ^ 31 = uN x % 2 ^ 31 := by
    apply Nat.eq_of_testBit_eq
    intro i
    rw [Nat.testBit_mod_two_pow, Nat.testBit_mod_two_pow, uN_bt, uN_bt, b_xor]
    by_cases c : i < 31
    · rw [hm i (by omega), decide_eq_false (show ¬ i = 31 by omega), Bool.xor_false]
    · rw [decide_eq_false c]; rfl
  have h2 : bt (x ^^^ (-2147483648)) 31 = !(bt x 31) := by
    rw [b_xor, hm 31 (by decide)]
    cases bt x 31 <;> rfl
  rw [uN_top, uN_top] at h2
  have a1 := uN_lt x
  have a2 := uN_lt (x ^^^ (-2147483648))
  rw [toI_u]
  by_cases c : 2 ^ 31 ≤ uN x
  · rw [decide_eq_true c] at h2
    have c2 : ¬ 2 ^ 31 ≤ uN (x ^^^ (-2147483648)) := of_decide_eq_false h2
    rw [if_pos (by omega)]
    omega
  · rw [decide_eq_false c] at h2
    have c2 : 2 ^ 31 ≤ uN (x ^^^ (-2147483648)) := of_decide_eq_true h2
    rw [if_neg (by omega)]
    omega
theorem cmpU (x y : Int32) : (cmpI (x ^^^ (-2147483648)) (y ^^^ (-2147483648)) = -1 ∧ uN x < uN y) ∨ (cmpI (x ^^^ (-2147483648)) (y ^^^ (-2147483648)) = 0 ∧ uN x = uN y) ∨ (cmpI (x ^^^ (-2147483648)) (y ^^^ (-2147483648)) = 1 ∧ uN y < uN x) := by
  unfold cmpI
  by_cases c : x ^^^ (-2147483648) < y ^^^ (-2147483648)
  · rw [if_pos c]
    rw [Int32.lt_iff_toInt_lt, flip_I, flip_I] at c
    exact Or.inl ⟨rfl, by omega⟩
  · rw [if_neg c]
    rw [Int32.lt_iff_toInt_lt, flip_I, flip_I] at c
    by_cases d : x ^^^ (-2147483648) = y ^^^ (-2147483648)
    · rw [if_pos d]
      have := congrArg Int32.toInt d
      rw [flip_I, flip_I] at this
      exact Or.inr (Or.inl ⟨rfl, by omega⟩)
    · rw [if_neg d]
      refine Or.inr (Or.inr ⟨rfl, ?_⟩)
      have : ¬ uN x = uN y := fun z => d (by rw [uN_inj z])
      omega
/-- the first different one is less -/
def lxL (P Q : Nat → Nat) (N : Nat) : Prop := ∃ i, i < N ∧ (∀ j, j < i → P j = Q j) ∧ P i < Q i
theorem lx_wd {P Q : Nat → Nat} {x y : Int32} {i : Nat} (hP : ∀ r, r < 4 → P (4 * i + r) = uN x / 2 ^ (24 - 8 * r) % 2 ^ 8) (hQ : ∀ r, r < 4 → Q (4 * i + r) = uN y / 2 ^ (24 - 8 * r) % 2 ^ 8) (h0 : ∀ j, j < 4 * i → P j = Q j) (hl : uN x < uN y) {N : Nat} (hN : 4 * i + 4 ≤ N) : lxL P Q N := by
  have p0 := hP 0 (by decide)
  have p1 := hP 1 (by decide)
  have p2 := hP 2 (by decide)
  have p3 := hP 3 (by decide)
  have q0 := hQ 0 (by decide)
  have q1 := hQ 1 (by decide)
  have q2 := hQ 2 (by decide)
  have q3 := hQ 3 (by decide)
  have ux := uN_lt x
  have uy := uN_lt y
  by_cases c0 : P (4 * i + 0) = Q (4 * i + 0)
  · by_cases c1 : P (4 * i + 1) = Q (4 * i + 1)
    · by_cases c2 : P (4 * i + 2) = Q (4 * i + 2)
      · refine ⟨4 * i + 3, by omega, fun j hj => ?_, by omega⟩
        rcases Nat.lt_or_ge j (4 * i) with h | h
        · exact h0 j h
        · have : j = 4 * i + 0 ∨ j = 4 * i + 1 ∨ j = 4 * i + 2 := by omega
          rcases this with e | e | e <;> rw [e] <;> assumption
      · refine ⟨4 * i + 2, by omega, fun j hj => ?_, by omega⟩
        rcases Nat.lt_or_ge j (4 * i) with h | h
        · exact h0 j h
        · have : j = 4 * i + 0 ∨ j = 4 * i + 1 := by omega
          rcases this with e | e <;> rw [e] <;> assumption
    · refine ⟨4 * i + 1, by omega, fun j hj => ?_, by omega⟩
      rcases Nat.lt_or_ge j (4 * i) with h | h
      · exact h0 j h
      · have : j = 4 * i + 0 := by omega
        rw [this]; exact c0
  · exact ⟨4 * i + 0, by omega, fun j hj => h0 j (by omega), by omega⟩
/-- a NAME's byte -/
def nby (f : Nat → Int32) (p b : Nat) : Nat := uN (bytA f (4 * p + b))
theorem nby_4 (f : Nat → Int32) (p i r : Nat) (hr : r < 4) : nby f p (4 * i + r) = uN (f (p + i)) / 2 ^ (24 - 8 * r) % 2 ^ 8 := by
  unfold nby
  rw [byt_u, show (4 * p + (4 * i + r)) / 4 = p + i by omega, show (4 * p + (4 * i + r)) % 4 = r by omega]
theorem nby_lt (f : Nat → Int32) (p b : Nat) : nby f p b < 256 := by
  unfold nby
  rw [byt_u]
  exact Nat.mod_lt _ (by decide)
theorem cmpW_lx {f g : Nat → Int32} {p q : Nat} {x y : Int32} {N : Nat} : ∀ (k i : Nat), i + k = N → (∀ b, b < 4 * i → nby f p b = nby g q b) →
    (cmpW f g p q x y k i = -1 ∧ (lxL (nby f p) (nby g q) (4 * N) ∨ ((∀ b, b < 4 * N → nby f p b = nby g q b) ∧ x < y))) ∨ (cmpW f g p q x y k i = 0 ∧ (∀ b, b < 4 * N → nby f p b = nby g q b) ∧ x = y) ∨ (cmpW f g p q x y k i = 1 ∧ (lxL (nby g q) (nby f p) (4 * N) ∨ ((∀ b, b < 4 * N → nby f p b = nby g q b) ∧ y < x)))
  | 0, i, hk, h => by
    have e : N = i := by omega
    subst e
    unfold cmpW cmpI
    by_cases c : x < y
    · rw [if_pos c]; exact Or.inl ⟨rfl, Or.inr ⟨h, c⟩⟩
    · rw [if_neg c]
      by_cases d : x = y
      · rw [if_pos d]; exact Or.inr (Or.inl ⟨rfl, h, d⟩)
      · rw [if_neg d]
        refine Or.inr (Or.inr ⟨rfl, Or.inr ⟨h, ?_⟩⟩)
        rcases Int32.lt_or_le y x with z | z
        · exact z
        · exact absurd (Int32.le_antisymm z (Int32.not_lt.mp c)) d
  | k + 1, i, hk, h => by
    unfold cmpW
    by_cases c : f (p + i) = g (q + i)
    · rw [if_pos c]
      refine cmpW_lx k (i + 1) (by omega) (fun b hb => ?_)
      rcases Nat.lt_or_ge b (4 * i) with z | z
      · exact h b z
      · have e : b = 4 * i + (b - 4 * i) := by omega
        rw [e, nby_4 f p i _ (by omega), nby_4 g q i _ (by omega), c]
    · rw [if_neg c]
      have hne : ¬ uN (f (p + i)) = uN (g (q + i)) := fun z => c (uN_inj z)
      rcases cmpU (f (p + i)) (g (q + i)) with ⟨z1, z2⟩ | ⟨_, z2⟩ | ⟨z1, z2⟩
      · exact Or.inl ⟨z1, Or.inl (lx_wd (i := i) (fun r hr => nby_4 f p i r hr) (fun r hr => nby_4 g q i r hr) h z2 (by omega))⟩
      · exact absurd z2 hne
      · exact Or.inr (Or.inr ⟨z1, Or.inl (lx_wd (i := i) (fun r hr => nby_4 g q i r hr) (fun r hr => nby_4 f p i r hr) (fun j hj => (h j hj).symm) z2 (by omega))⟩)
/-- one NAME before another, by bytes -/
def nLt (P : Nat → Nat) (n : Nat) (Q : Nat → Nat) (m : Nat) : Prop := ∃ i, i ≤ n ∧ i ≤ m ∧ (∀ j, j < i → P j = Q j) ∧ ((i < n ∧ i < m ∧ P i < Q i) ∨ (i = n ∧ n < m))
def nEq (P : Nat → Nat) (n : Nat) (Q : Nat → Nat) (m : Nat) : Prop := n = m ∧ ∀ j, j < n → P j = Q j
theorem nLt.irr {P : Nat → Nat} {n : Nat} (h : nLt P n P n) : False := by
  obtain ⟨i, _, _, _, h | h⟩ := h <;> omega
theorem nLt.tr {P Q R : Nat → Nat} {n m l : Nat} (h1 : nLt P n Q m) (h2 : nLt Q m R l) : nLt P n R l := by
  obtain ⟨i, a1, a2, a3, a4⟩ := h1
  obtain ⟨k, b1, b2, b3, b4⟩ := h2
  rcases Nat.lt_or_ge i k with c | c
  · refine ⟨i, a1, by omega, fun j hj => (a3 j hj).trans (b3 j (by omega)), ?_⟩
    rcases a4 with ⟨x1, x2, x3⟩ | ⟨x1, x2⟩
    · exact Or.inl ⟨x1, by omega, by rw [← b3 i c]; exact x3⟩
    · exact Or.inr ⟨x1, by omega⟩
  · rcases Nat.lt_or_ge k i with d | d
    · refine ⟨k, by omega, b2, fun j hj => (a3 j (by omega)).trans (b3 j hj), ?_⟩
      rcases b4 with ⟨x1, x2, x3⟩ | ⟨x1, x2⟩
      · exact Or.inl ⟨by omega, x2, by rw [a3 k d]; exact x3⟩
      · omega
    · have e : i = k := by omega
      subst e
      refine ⟨i, a1, b2, fun j hj => (a3 j hj).trans (b3 j hj), ?_⟩
      rcases a4 with ⟨x1, x2, x3⟩ | ⟨x1, x2⟩ <;> rcases b4 with ⟨y1, y2, y3⟩ | ⟨y1, y2⟩
      · exact Or.inl ⟨x1, y2, by omega⟩
      · omega
      · exact Or.inr ⟨x1, by omega⟩
      · omega
theorem nLt.cg {P P' Q Q' : Nat → Nat} {n m : Nat} (h : nLt P n Q m) (hP : ∀ j, j < n → P' j = P j) (hQ : ∀ j, j < m → Q' j = Q j) : nLt P' n Q' m := by
  obtain ⟨i, a1, a2, a3, a4⟩ := h
  refine ⟨i, a1, a2, fun j hj => by rw [hP j (by omega), hQ j (by omega)]; exact a3 j hj, ?_⟩
  rcases a4 with ⟨x1, x2, x3⟩ | x
  · exact Or.inl ⟨x1, x2, by rw [hP i x1, hQ i x2]; exact x3⟩
  · exact Or.inr x
theorem nEq.sy {P Q : Nat → Nat} {n m : Nat} (h : nEq P n Q m) : nEq Q m P n := ⟨h.1.symm, fun j hj => (h.2 j (by rw [h.1]; exact hj)).symm⟩
theorem nEq.tr {P Q R : Nat → Nat} {n m l : Nat} (h1 : nEq P n Q m) (h2 : nEq Q m R l) : nEq P n R l := ⟨h1.1.trans h2.1, fun j hj => (h1.2 j hj).trans (h2.2 j (by have := h1.1; omega))⟩
theorem nLt.el {P Q R : Nat → Nat} {n m l : Nat} (h1 : nEq P n Q m) (h2 : nLt Q m R l) : nLt P n R l := by
  obtain ⟨e, h⟩ := h1
  subst e
  exact h2.cg h (fun _ _ => rfl)
theorem nLt.er {P Q R : Nat → Nat} {n m l : Nat} (h1 : nLt P n Q m) (h2 : nEq Q m R l) : nLt P n R l := by
  obtain ⟨e, h⟩ := h2
  subst e
  exact h1.cg (fun _ _ => rfl) (fun j hj => (h j hj).symm)
theorem nLt.ne {P Q : Nat → Nat} {n m : Nat} (h1 : nLt P n Q m) (h2 : nEq P n Q m) : False := (nLt.el h2.sy h1).irr
theorem nLt.as {P Q : Nat → Nat} {n m : Nat} (h1 : nLt P n Q m) (h2 : nLt Q m P n) : False := (h1.tr h2).irr
/-- zeros stand behind a NAME's end -/
def nzP (P : Nat → Nat) (n : Nat) : Prop := ∀ j, n ≤ j → j < 200 → P j = 0
theorem lx_nl {P Q : Nat → Nat} {n m : Nat} (hn : n ≤ 200) (hP : nzP P n) (hQ : nzP Q m) (h : lxL P Q 200) : nLt P n Q m := by
  obtain ⟨i, h1, h2, h3⟩ := h
  have him : i < m := by
    rcases Nat.lt_or_ge i m with z | z
    · exact z
    · rw [hQ i z h1] at h3; omega
  rcases Nat.lt_or_ge i n with z | z
  · exact ⟨i, by omega, by omega, h2, Or.inl ⟨z, him, h3⟩⟩
  · exact ⟨n, by omega, by omega, fun j hj => h2 j (by omega), Or.inr ⟨rfl, by omega⟩⟩
/-- the class's order of NAMES -/
theorem cmpW_n {f g : Nat → Int32} {p q n m : Nat} (hn : n ≤ 200) (hm : m ≤ 200) (hf : nzP (nby f p) n) (hg : nzP (nby g q) m) :
    (cmpW f g p q (nI n) (nI m) 50 0 = -1 ∧ nLt (nby f p) n (nby g q) m) ∨ (cmpW f g p q (nI n) (nI m) 50 0 = 0 ∧ nEq (nby f p) n (nby g q) m) ∨ (cmpW f g p q (nI n) (nI m) 50 0 = 1 ∧ nLt (nby g q) m (nby f p) n) := by
  have hlt : ∀ a b : Nat, a ≤ 200 → b ≤ 200 → nI a < nI b → a < b := fun a b ha hb z => (nI_ltI (by omega) (by omega)).mp z
  rcases cmpW_lx (f := f) (g := g) (p := p) (q := q) (x := nI n) (y := nI m) (N := 50) 50 0 rfl (fun b hb => absurd hb (by omega)) with ⟨z, h⟩ | ⟨z, h, e⟩ | ⟨z, h⟩
  · refine Or.inl ⟨z, ?_⟩
    rcases h with h | ⟨h, e⟩
    · exact lx_nl hn hf hg h
    · have := hlt n m hn hm e
      exact ⟨n, by omega, by omega, fun j hj => h j (by omega), Or.inr ⟨rfl, this⟩⟩
  · have := nI_inj (by omega) (by omega) e
    exact Or.inr (Or.inl ⟨z, this, fun j hj => h j (by omega)⟩)
  · refine Or.inr (Or.inr ⟨z, ?_⟩)
    rcases h with h | ⟨h, e⟩
    · exact lx_nl hm hg hf h
    · have := hlt m n hm hn e
      exact ⟨m, by omega, by omega, fun j hj => (h j (by omega)).symm, Or.inr ⟨rfl, this⟩⟩
/-- the reference's byte -/
def rby (f : Nat → Int32) (a j : Nat) : Nat := uN (f (a + j) &&& 255)
theorem rby_lt (f : Nat → Int32) (a j : Nat) : rby f a j < 256 := by
  unfold rby
  rw [nib_u]
  exact Nat.mod_lt _ (by decide)
theorem nI_u {k : Nat} (h : k < 2 ^ 31) : uN (nI k) = k := by
  show (BitVec.ofNat 32 k).toNat = k
  rw [BitVec.toNat_ofNat]
  exact Nat.mod_eq_of_lt (by omega)
theorem u_nI {x : Int32} (h : uN x < 2 ^ 31) : x = nI (uN x) := uN_inj (by rw [nI_u h])
theorem rby_e (f : Nat → Int32) (a j : Nat) : f (a + j) &&& 255 = nI (rby f a j) := u_nI (by have := rby_lt f a j; unfold rby at this; omega)
theorem nI_zp {a : Nat} (h0 : 0 < a) (h : a < 2 ^ 31) : (0 : Int32) < nI a := nI_lt (a := 0) h0 h
theorem mc_end {P Q : Nat → Nat} {n m i : Nat} (hn : n ≤ 200) (hm : m ≤ 200) (h1 : i ≤ n) (h2 : i ≤ m) (hE : i = n ∨ i = m) (h : ∀ j, j < i → P j = Q j) :
    (nI m - nI n < 0 ∧ nLt P m Q n) ∨ (nI m - nI n = 0 ∧ nEq P m Q n) ∨ (0 < nI m - nI n ∧ nLt Q n P m) := by
  rcases Nat.lt_or_ge m n with c | c
  · exact Or.inl ⟨nI_subn (by omega) (by omega) c, m, by omega, by omega, fun j hj => h j (by omega), Or.inr ⟨rfl, c⟩⟩
  · rcases Nat.lt_or_ge n m with d | d
    · refine Or.inr (Or.inr ⟨?_, n, by omega, by omega, fun j hj => (h j (by omega)).symm, Or.inr ⟨rfl, d⟩⟩)
      rw [nI_sub c]
      exact nI_zp (by omega) (by omega)
    · have e : m = n := by omega
      subst e
      refine Or.inr (Or.inl ⟨?_, rfl, fun j hj => h j (by omega)⟩)
      rw [nI_sub (Nat.le_refl _), Nat.sub_self]; rfl
theorem mcmp_n {ff pf : Nat → Int32} {a b n m : Nat} (hn : n ≤ 200) (hm : m ≤ 200) : ∀ (k i : Nat), i + k = 200 → i ≤ n → i ≤ m → (∀ j, j < i → rby ff a j = rby pf b j) →
    (mcmp ff pf a b n m k i < 0 ∧ nLt (rby ff a) m (rby pf b) n) ∨ (mcmp ff pf a b n m k i = 0 ∧ nEq (rby ff a) m (rby pf b) n) ∨ (0 < mcmp ff pf a b n m k i ∧ nLt (rby pf b) n (rby ff a) m)
  | 0, i, hk, h1, h2, h => by
    unfold mcmp
    exact mc_end hn hm h1 h2 (by omega) h
  | k + 1, i, hk, h1, h2, h => by
    unfold mcmp
    by_cases c : n ≤ i ∨ m ≤ i
    · rw [if_pos c]
      exact mc_end hn hm h1 h2 (by omega) h
    · rw [if_neg c]
      by_cases d : ff (a + i) &&& 255 = pf (b + i) &&& 255
      · rw [if_pos d]
        refine mcmp_n hn hm k (i + 1) (by omega) (by omega) (by omega) (fun j hj => ?_)
        by_cases e : j = i
        · rw [e]; unfold rby; rw [d]
        · exact h j (by omega)
      · rw [if_neg d]
        have hx := rby_lt ff a i
        have hy := rby_lt pf b i
        have hne : ¬ rby ff a i = rby pf b i := fun z => d (by rw [rby_e, rby_e, z])
        rw [rby_e, rby_e]
        rcases Nat.lt_or_ge (rby ff a i) (rby pf b i) with z | z
        · exact Or.inl ⟨nI_subn (by omega) (by omega) z, i, h2, h1, h, Or.inl ⟨by omega, by omega, z⟩⟩
        · refine Or.inr (Or.inr ⟨?_, i, h1, h2, fun j hj => (h j hj).symm, Or.inl ⟨by omega, by omega, by omega⟩⟩)
          rw [nI_sub z]
          exact nI_zp (by omega) (by omega)
theorem mcF_n {ff pf lf : Nat → Int32} {b n f m : Nat} (hn : n ≤ 200) (hm : m ≤ 200) (hl : lf f = nI m) :
    (mcF ff pf lf b n f < 0 ∧ nLt (rby ff (200 * f)) m (rby pf b) n) ∨ (mcF ff pf lf b n f = 0 ∧ nEq (rby ff (200 * f)) m (rby pf b) n) ∨ (0 < mcF ff pf lf b n f ∧ nLt (rby pf b) n (rby ff (200 * f)) m) := by
  unfold mcF
  rw [hl, nI_clamp (by omega)]
  exact mcmp_n hn hm 200 0 rfl (Nat.zero_le _) (Nat.zero_le _) (fun j hj => absurd hj (by omega))

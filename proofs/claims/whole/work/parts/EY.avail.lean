/-! what is secured is never lost -/
def RK (P : Pm) : Prop := ∀ x i j, x < P.gg → i < P.nn → j < P.nn → P.f (x * P.nn + i) = P.f (x * P.nn + j) → i = j
def cb (nn : Nat) (m : Int32) : Nat := Sm (fun n => if bt m n = true then 1 else 0) nn
theorem mof_cnt {nn base : Nat} {f : Nat → Int32} {C set : Int32} (hf : Rg nn f) (hnn : nn ≤ 6) (hi : ∀ i j, i < nn → j < nn → f (base + i) = f (base + j) → i = j) : ∀ (k i : Nat) (m : Int32) (c : Nat), i + k = nn → c ≤ i → cb nn m = c → (∀ v, v < nn → bt m v = true → ∃ j, j < i ∧ f (base + j) = nI v) → ∃ c', c' ≤ nn ∧ (mof f C set k (base + i) m (nI c)).2 = nI c' ∧ cb nn (mof f C set k (base + i) m (nI c)).1 = c'
  | 0, i, m, c, hk, hc, h1, h2 => ⟨c, by omega, rfl, h1⟩
  | k + 1, i, m, c, hk, hc, h1, h2 => by
    unfold mof
    split
    · exact ⟨c, by omega, rfl, h1⟩
    · split
      · have := mof_cnt (C := C) (set := set) hf hnn hi k (i + 1) m c (by omega) (by omega) h1 (fun v hv hb => by obtain ⟨j, a, b⟩ := h2 v hv hb; exact ⟨j, by omega, b⟩)
        rw [← Nat.add_assoc] at this
        exact this
      · obtain ⟨v, hv, ev⟩ := hf (base + i)
        have hbv : bt m v = false := by
          cases e : bt m v with
          | false => rfl
          | true =>
            obtain ⟨j, a, b⟩ := h2 v hv e
            rw [← ev] at b
            have := hi j i (by omega) (by omega) b
            omega
        rw [ev, nI_1]
        have hs : cb nn (m ||| (1 <<< (nI v &&& 31))) = c + 1 := by
          have := Sm_upd (g := fun n => if bt m n = true then 1 else 0) (h := fun n => if bt (m ||| (1 <<< (nI v &&& 31))) n = true then 1 else 0) (a := v) (n := nn) hv (fun j hj hne => by
            show (if bt (m ||| (1 <<< (nI v &&& 31))) j = true then 1 else 0) = (if bt m j = true then 1 else 0)
            rw [bt_set m (by omega) (by omega)]
            simp [hne])
          have e1 : (if bt m v = true then 1 else 0) = 0 := by rw [hbv]; rfl
          have e2 : (if bt (m ||| (1 <<< (nI v &&& 31))) v = true then 1 else 0) = 1 := by rw [bt_set m (by omega) (by omega)]; simp
          simp only [e1, e2] at this
          unfold cb at h1 ⊢
          omega
        have := mof_cnt (C := C) (set := set) hf hnn hi k (i + 1) (m ||| (1 <<< (nI v &&& 31))) (c + 1) (by omega) (by omega) hs (fun w hw hb => by
          rw [bt_set m (by omega) (by omega)] at hb
          simp only [Bool.or_eq_true, decide_eq_true_eq] at hb
          rcases hb with hb | hb
          · obtain ⟨j, a, b⟩ := h2 w hw hb
            exact ⟨j, by omega, b⟩
          · rw [hb]; exact ⟨i, by omega, ev⟩)
        rw [← Nat.add_assoc] at this
        exact this
theorem msk_cnt {P : Pm} {g : Gh} {e k R : Nat} (hP : PmO P) (hK : RK P) (hC : P.C = nI R) (hR : R < 2 ^ 31) (h : ¬ msk P g e k = 0) : cb P.nn (msk P g e k) = R := by
  have hx := gr_lt hP.gg k
  obtain ⟨c', c1, c2, c3⟩ := mof_cnt (C := P.C) (set := g.mp e) (base := gr P.gg k * P.nn) hP.f hP.nn (fun i j hi hj e => hK (gr P.gg k) i j hx hi hj e) P.nn 0 0 0 (by omega) (by omega) (Sm_z (fun i _ => by rw [b_0]; rfl)) (fun v _ hb => by rw [b_0] at hb; cases hb)
  unfold msk gm mof2 at h ⊢
  rw [Nat.add_zero] at c2 c3
  by_cases q : (mof P.f P.C (g.mp e) P.nn (gr P.gg k * P.nn) 0 0).2 = P.C
  · rw [if_pos q]
    have c2 : (mof P.f P.C (g.mp e) P.nn (gr P.gg k * P.nn) 0 0).2 = nI c' := c2
    have c3 : cb P.nn (mof P.f P.C (g.mp e) P.nn (gr P.gg k * P.nn) 0 0).1 = c' := c3
    rw [c2, hC] at q
    have hnn := hP.nn
    have := nI_inj (by omega) hR q
    rw [c3, this]
  · rw [if_neg q] at h
    exact absurd rfl h
theorem Sm_ex {g h : Nat → Nat} : ∀ {n : Nat}, Sm h n < Sm g n → ∃ i, i < n ∧ h i < g i
  | 0, z => absurd z (by show ¬ 0 < 0; omega)
  | n + 1, z => by
    have z : Sm h n + h n < Sm g n + g n := z
    by_cases c : h n < g n
    · exact ⟨n, by omega, c⟩
    · obtain ⟨i, a, b⟩ := Sm_ex (g := g) (h := h) (n := n) (by omega)
      exact ⟨i, by omega, b⟩
/-- how many NODES were replaced since the latest settle -/
def ER (P : Pm) (g : Gh) (rc : Nat) : Prop :=
  (Sm (fun n => if g.es < g.er n then 1 else 0) P.nn ≤ rc) ∧
  (∀ n, g.er n < g.es ∨ g.es < g.er n) ∧
  (∀ n, g.er n ≤ g.ep)
theorem ER.c1 {P : Pm} {g : Gh} {rc : Nat} (h_ : ER P g rc) : Sm (fun n => if g.es < g.er n then 1 else 0) P.nn ≤ rc := h_.1
theorem ER.c2 {P : Pm} {g : Gh} {rc : Nat} (h_ : ER P g rc) : ∀ n, g.er n < g.es ∨ g.es < g.er n := h_.2.1
theorem ER.c3 {P : Pm} {g : Gh} {rc : Nat} (h_ : ER P g rc) : ∀ n, g.er n ≤ g.ep := h_.2.2
/-- NODE n has ITEM k -/
def has (S : SS) (n k : Nat) : Prop := (S.2.2.2.1 n 0 6 = 0 ∧ ∃ s, s < 280 ∧ whB (S.2.2.2.1 n 2) s ∧ S.2.2.2.1 n 2 (s * 128 + 1) = nI k) ∨ (¬ S.2.2.2.1 n 0 6 = 0 ∧ stb (S.2.2.2.1 n) (nI k))
theorem GI.rp {P : Pm} {g : Gh} {S : SS} (h : GI P g S) {n : Nat} (hn : n < P.nn) : Rp P g n (fun k => has S n k) := fun e k hr hl => by
  rcases h.nd n hn with ⟨z, e1, z1⟩ | ⟨z, e1, z1⟩
  · rcases z1.rp e k hr hl with y | y | y
    · exact Or.inl y
    · exact Or.inr (Or.inl (Or.inl ⟨z, y⟩))
    · exact Or.inr (Or.inr y)
  · rcases z1.rp e k hr hl with y | y | y
    · exact Or.inl y
    · exact Or.inr (Or.inl (Or.inr ⟨z, y⟩))
    · exact Or.inr (Or.inr y)
theorem avail {P : Pm} {g : Gh} {S : SS} {R rc : Nat} (hP : PmO P) (hK : RK P) (hC : P.C = nI R) (hR : R < 2 ^ 31) (h : GI P g S) (hE : ER P g rc) (hrc : rc < R) {k : Nat} (hk5 : k < 5243392) : ∀ (d e : Nat), g.ep - e = d → g.es ≤ e → sec P g e k → dead P g k ∨ ∃ n, n < P.nn ∧ has S n k := fun d => by
  induction d using Nat.strongRecOn with
  | ind d ih =>
    intro e hd hes hsec
    have hcnt := msk_cnt hP hK hC hR hsec.2.1
    obtain ⟨n, n1, n2⟩ := Sm_ex (g := fun n => if bt (msk P g e k) n = true then 1 else 0) (h := fun n => if g.es < g.er n then 1 else 0) (n := P.nn) (by
      have := hE.c1
      unfold cb at hcnt
      omega)
    have hb : bt (msk P g e k) n = true := by
      cases q : bt (msk P g e k) n with
      | true => rfl
      | false => simp only [q] at n2; exact absurd n2 (by simp)
    have her : ¬ g.es < g.er n := fun z => by
      simp only [if_pos z, hb] at n2
      exact absurd n2 (by decide)
    have hlt : g.er n < e := by
      rcases hE.c2 n with y | y
      · omega
      · exact absurd y her
    rcases h.rp n1 e k (hsec.2.2 n n1 hb) ⟨hk5, hlt⟩ with y | y | ⟨e', y1, y2, y3⟩
    · exact Or.inl y
    · exact Or.inr ⟨n, n1, y⟩
    · have : e ≠ e' := fun z => by
        rw [← z, hb] at y2
        cases y2
      have h1 := y3.1
      exact ih (g.ep - e') (by omega) e' rfl (by omega) y3
/-- an ITEM that is kept is there, if it is wanted at all -/
theorem GI.kept {P : Pm} {g : Gh} {S : SS} {R rc : Nat} (hP : PmO P) (hK : RK P) (hC : P.C = nI R) (hR : R < 2 ^ 31) (h : GI P g S) (hE : ER P g rc) (hrc : rc < R) {k : Nat} (hk5 : k < 5243392) (hk : kept P g k) : dead P g k ∨ ∃ n, n < P.nn ∧ has S n k := by
  rcases hk with z | ⟨e, z1, z2⟩
  · exact Or.inl z
  · exact avail hP hK hC hR h hE hrc hk5 _ e rfl z1 z2

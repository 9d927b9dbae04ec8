/-! plan: an OPERATION is begun by the leader -/
theorem spn_bd {T : TS} {m : Mg} {o ans : Nat} {T' : TS} {D : Nat → Nat → Int32} (hT : TOK T o) (aq : AQ (m.1 0) (m.1 1) (m.1 2) (m.1 3) (m.1 4) (m.1 5)) (h : stp T o m = some (ans, T')) (hs : SPN m T (fdN T m.2 0 (m.1 3).toNatClampNeg) D) (hk : ¬ (m.1 0 = 4 ∨ m.1 0 = 8 ∨ m.1 0 = 9)) :
    ∃ sp : Nat, sp ≤ 2048 ∧ D 18 9 = nI sp ∧ (0 < sp → ∃ a : Nat, D 19 1 = nI a ∧ a + sp ≤ 8192) := by
  obtain ⟨s1, s2, s3, s5⟩ := hs
  have hl5 := inR_c2 aq.2.2.2.2.2 (by decide)
  obtain ⟨k, hk10, ek⟩ := aq.1
  have hcase : m.1 0 = 1 ∨ m.1 0 = 2 ∨ m.1 0 = 3 ∨ (m.1 0 = 0 ∨ m.1 0 = 5 ∨ m.1 0 = 6 ∨ m.1 0 = 7) := by
    have : k = 0 ∨ k = 1 ∨ k = 2 ∨ k = 3 ∨ k = 4 ∨ k = 5 ∨ k = 6 ∨ k = 7 ∨ k = 8 ∨ k = 9 := by omega
    rcases this with z | z | z | z | z | z | z | z | z | z <;> subst z
    · exact Or.inr (Or.inr (Or.inr (Or.inl ek)))
    · exact Or.inl ek
    · exact Or.inr (Or.inl ek)
    · exact Or.inr (Or.inr (Or.inl ek))
    · exact absurd (Or.inl ek) hk
    · exact Or.inr (Or.inr (Or.inr (Or.inr (Or.inl ek))))
    · exact Or.inr (Or.inr (Or.inr (Or.inr (Or.inr (Or.inl ek)))))
    · exact Or.inr (Or.inr (Or.inr (Or.inr (Or.inr (Or.inr ek)))))
    · exact absurd (Or.inr (Or.inl ek)) hk
    · exact absurd (Or.inr (Or.inr ek)) hk
  have wr : ∀ a', wrS T o m.2 (m.1 3).toNatClampNeg (m.1 5).toNatClampNeg (fdN T m.2 0 (m.1 3).toNatClampNeg) a' = some (ans, T') → 0 < (m.1 5).toNatClampNeg → a' + (m.1 5).toNatClampNeg ≤ 8192 := fun a' e hl => by
    cases hf : fdN T m.2 0 (m.1 3).toNatClampNeg with
    | none =>
      rw [hf] at e
      unfold wrS at e
      simp only at e
      have := (ite_ns e).1
      rw [if_neg (by omega)] at this
      omega
    | some i =>
      rw [hf] at e
      unfold wrS at e
      simp only at e
      have := (ite_ns e).1
      rw [if_neg (by omega)] at this
      omega
  rcases hcase with z | z | z | z
  · obtain ⟨a1, a2⟩ := s1 z
    have ha1 := inR_c2 (aq.2.1 (Or.inl z)) (by decide)
    refine ⟨(m.1 5).toNatClampNeg, by omega, by rw [a1]; exact hl5.2, fun hp => ⟨_, by rw [a2]; exact ha1.2, ?_⟩⟩
    refine wr _ ?_ hp
    unfold stp at h
    rw [if_neg (by rw [z]; decide), if_pos z] at h
    exact h
  · obtain ⟨a1, a2⟩ := s2 z
    refine ⟨(m.1 5).toNatClampNeg, by omega, by rw [a1]; exact hl5.2, fun hp => ⟨_, a2, ?_⟩⟩
    refine wr _ ?_ hp
    unfold stp at h
    rw [if_neg (by rw [z]; decide), if_neg (by rw [z]; decide), if_pos z] at h
    exact h
  · obtain ⟨i, a0, a1, a2⟩ := s3 z
    have ha1 := inR_c2 (aq.2.1 (Or.inr (Or.inl z))) (by decide)
    have := hT.z1 i
    by_cases c : (m.1 1).toNatClampNeg < T.sz i ∧ ¬ (m.1 1).toNatClampNeg % 448 = 0 ∧ ¬ T.vr i ((m.1 1).toNatClampNeg / 448) < 0
    · rw [if_pos c] at a2
      exact ⟨1, by omega, a2, fun _ => ⟨_, by rw [a1]; exact ha1.2, by omega⟩⟩
    · rw [if_neg c] at a2
      exact ⟨0, by omega, a2, fun hp => absurd hp (by omega)⟩
  · exact ⟨0, by omega, s5 z, fun hp => absurd hp (by omega)⟩
/-- touch: which STRIPES are wanted -/
theorem touch_lp {nn gg : Nat} {C me : Int32} {f u b : Nat → Int32} {D0 : Nat → Nat → Int32} {K A : Int64} {Y : List Mg} {q0 : Nat} (hq : q0 < 2 ^ 31) (e10 : D0 18 10 = nI q0) (e7 : D0 18 7 = -1 ∨ ∃ fx : Nat, fx < 48 ∧ D0 18 7 = nI fx) :
    ∀ (k i : Nat) (D1 : Nat → Nat → Int32), i + k ≤ 20 → (∀ q, q ≠ 18 → D1 q = D0 q) → (∀ x, x ≠ 12 → D1 18 x = D0 18 x) →
    ∃ D' : Nat → Nat → Int32, G_102 nn gg C me f u b k i D1 K A Y = (D', K, A, Y) ∧ (∀ q, q ≠ 18 → D' q = D0 q) ∧ (∀ x, x ≠ 12 → D' 18 x = D0 18 x) ∧ ∀ j, j < 32 → (bt (D' 18 12) j = true ↔ bt (D1 18 12) j = true ∨ (i ≤ j ∧ j < i + k ∧ ∃ fx : Nat, fx < 48 ∧ D0 18 7 = nI fx ∧ ¬ D0 16 (fx * 20 + q0 + j) < 0))
  | 0, i, D1, hi, g1, g2 => ⟨D1, rfl, g1, g2, fun j hj => ⟨Or.inl, fun z => z.elim id (fun ⟨z1, z2, _⟩ => absurd z2 (by omega))⟩⟩
  | k + 1, i, D1, hi, g1, g2 => by
    have ec : (D1 18 10).toNatClampNeg = q0 := by rw [g2 10 (by decide), e10, nI_clamp hq]
    unfold G_102
    simp only [bnN, ec]
    rw [g2 7 (by decide)]
    rcases e7 with e7 | ⟨fx, hfx, e7⟩
    · rw [if_pos e7]
      obtain ⟨D', a1, a2, a3, a4⟩ := touch_lp (nn := nn) (gg := gg) (C := C) (me := me) (f := f) (u := u) (b := b) (K := K) (A := A) (Y := Y) hq e10 (Or.inl e7) k (i + 1) D1 (by omega) g1 g2
      refine ⟨D', a1, a2, a3, fun j hj => ?_⟩
      rw [a4 j hj]
      have hno : ∀ fx : Nat, fx < 48 → ¬ D0 18 7 = nI fx := fun fx h z => by rw [e7] at z; exact nIneg (by omega) z.symm
      constructor
      · rintro (z | ⟨_, _, fx, z1, z2, _⟩)
        · exact Or.inl z
        · exact absurd z2 (hno fx z1)
      · rintro (z | ⟨_, _, fx, z1, z2, _⟩)
        · exact Or.inl z
        · exact absurd z2 (hno fx z1)
    · have hcl : (D0 18 7).toNatClampNeg = fx := by rw [e7, nI_clamp (by omega)]
      rw [if_neg (by rw [e7]; exact nIneg (by omega)), hcl, g1 16 (by decide)]
      have hfu : ∀ fy : Nat, fy < 48 → D0 18 7 = nI fy → fy = fx := fun fy h z => by rw [e7] at z; exact (nI_inj (by omega) (by omega) z).symm
      have e7' : D0 18 7 = -1 ∨ ∃ fx : Nat, fx < 48 ∧ D0 18 7 = nI fx := Or.inr ⟨fx, hfx, e7⟩
      by_cases c : D0 16 (fx * 20 + q0 + i) < 0
      · rw [if_pos c]
        obtain ⟨D', a1, a2, a3, a4⟩ := touch_lp (nn := nn) (gg := gg) (C := C) (me := me) (f := f) (u := u) (b := b) (K := K) (A := A) (Y := Y) hq e10 e7' k (i + 1) D1 (by omega) g1 g2
        refine ⟨D', a1, a2, a3, fun j hj => ?_⟩
        rw [a4 j hj]
        constructor
        · rintro (z | ⟨z1, z2, z3⟩)
          · exact Or.inl z
          · exact Or.inr ⟨by omega, by omega, z3⟩
        · rintro (z | ⟨z1, z2, fy, z3, z4, z5⟩)
          · exact Or.inl z
          · refine Or.inr ⟨?_, by omega, fy, z3, z4, z5⟩
            have : j ≠ i := fun y => by
              rw [hfu fy z3 z4, y] at z5
              exact z5 c
            omega
      · rw [if_neg c]
        obtain ⟨D', a1, a2, a3, a4⟩ := touch_lp (nn := nn) (gg := gg) (C := C) (me := me) (f := f) (u := u) (b := b) (K := K) (A := A) (Y := Y) hq e10 e7' k (i + 1) (va_up D1 18 (upd (D1 18) 12 ((D1 18 12) ||| (1 <<< ((nI i) &&& 31))))) (by omega) (fun q hq => by rw [va_up_n _ _ hq]; exact g1 q hq) (fun x hx => by rw [va_up_s, pk_un hx]; exact g2 x hx)
        refine ⟨D', a1, a2, a3, fun j hj => ?_⟩
        rw [a4 j hj, va_up_s, pk_us, bt_set _ (by omega) hj]
        simp only [Bool.or_eq_true, decide_eq_true_eq]
        constructor
        · rintro ((z | z) | ⟨z1, z2, z3⟩)
          · exact Or.inl z
          · exact Or.inr ⟨by omega, by omega, fx, hfx, e7, by rw [z]; exact c⟩
          · exact Or.inr ⟨by omega, by omega, z3⟩
        · rintro (z | ⟨z1, z2, fy, z3, z4, z5⟩)
          · exact Or.inl (Or.inl z)
          · by_cases y : j = i
            · exact Or.inl (Or.inr y)
            · exact Or.inr ⟨by omega, by omega, fy, z3, z4, z5⟩
/-- by rewriting alone: the kernel must not unfold what follows -/
theorem bnN_e {α : Type} (s : Nat) (k : Nat → α) : bnN s k = k s := by
  have h : bnN s k = k s := rfl
  rw [h]
theorem bnI_e {α : Type} (s : Int32) (k : Int32 → α) : bnI s k = k s := by
  have h : bnI s k = k s := rfl
  rw [h]
theorem bnS_e {α : Type} (D : Nat → Nat → Int32) (K A : Int64) (Y : List Mg) (k : (Nat → Nat → Int32) → Int64 → Int64 → List Mg → α) : bnS (D, K, A, Y) k = k D K A Y := by
  have h : bnS (D, K, A, Y) k = k D K A Y := rfl
  rw [h]
theorem bnR_e {α : Type} (y : Int32) (D : Nat → Nat → Int32) (K A : Int64) (Y : List Mg) (k : Int32 → (Nat → Nat → Int32) → Int64 → Int64 → List Mg → α) : bnR (y, D, K, A, Y) k = k y D K A Y := by
  have h : bnR (y, D, K, A, Y) k = k y D K A Y := rfl
  rw [h]
theorem touch_lem {nn gg : Nat} {C me : Int32} {f u b : Nat → Int32} {D : Nat → Nat → Int32} {K A : Int64} {Y : List Mg} {sp a : Nat} (k9 : ¬ D 19 0 = 9) (h9 : D 18 9 = nI sp) (hsp : sp ≤ 2048) (ha : 0 < sp → D 19 1 = nI a ∧ a + sp ≤ 8192) (h11 : D 18 11 = 0) (h12 : D 18 12 = 0) (e7 : D 18 7 = -1 ∨ ∃ fx : Nat, fx < 48 ∧ D 18 7 = nI fx) :
    ∃ (D' : Nat → Nat → Int32) (c : Nat), F_102 nn gg C me f u b D K A Y = (D', K, A, Y) ∧ (∀ q, q ≠ 18 → D' q = D q) ∧ (∀ x, x ≠ 10 → x ≠ 11 → x ≠ 12 → D' 18 x = D 18 x) ∧ D' 18 11 = nI c ∧ (sp = 0 → c = 0) ∧ (0 < sp → D' 18 10 = nI (a / 448) ∧ c = (a + sp - 1) / 448 - a / 448 + 1) ∧ ∀ j, j < 32 → (bt (D' 18 12) j = true ↔ j < c ∧ ∃ fx : Nat, fx < 48 ∧ D 18 7 = nI fx ∧ ¬ D 16 (fx * 20 + a / 448 + j) < 0) := by
  have hcl : (D 18 9).toNatClampNeg = sp := by rw [h9, nI_clamp (by omega)]
  unfold F_102
  rw [bnN_e, hcl]
  rw [if_pos k9]
  by_cases z : sp = 0
  · subst z
    rw [if_pos (by decide)]
    refine ⟨D, 0, rfl, fun _ _ => rfl, fun _ _ _ _ => rfl, h11, fun _ => rfl, fun z => absurd z (by omega), fun j hj => ?_⟩
    rw [h12, b_0]
    constructor
    · intro z; cases z
    · intro z; exact absurd z.1 (by omega)
  · rw [if_neg (nI_nle (by omega) (by omega))]
    obtain ⟨e1, hb⟩ := ha (by omega)
    have hcl2 : (D 19 1).toNatClampNeg = a := by rw [e1, nI_clamp (by omega)]
    rw [bnN_e, hcl2]
    obtain ⟨D', a1, a2, a3, a4⟩ := touch_lp (nn := nn) (gg := gg) (C := C) (me := me) (f := f) (u := u) (b := b) (K := K) (A := A) (Y := Y) (D0 := va_up D 18 (upd (upd (D 18) 10 (nI (a / 448))) 11 (nI ((a + sp - 1) / 448 - a / 448 + 1)))) (q0 := a / 448) (by omega) (by rw [va_up_s, pk_un (by decide), pk_us]) (by rw [va_up_s, pk_un (by decide), pk_un (by decide)]; exact e7) ((a + sp - 1) / 448 - a / 448 + 1) 0 _ (by omega) (fun _ _ => rfl) (fun _ _ => rfl)
    refine ⟨D', _, a1, fun q hq => by rw [a2 q hq, va_up_n _ _ hq], fun x h10 h11 h12 => by rw [a3 x h12, va_up_s, pk_un h11, pk_un h10], by rw [a3 11 (by decide), va_up_s, pk_us], fun y => absurd y z, fun _ => ⟨by rw [a3 10 (by decide), va_up_s, pk_un (by decide), pk_us], rfl⟩, fun j hj => ?_⟩
    rw [a4 j hj, va_up_s, pk_un (by decide), pk_un (by decide), h12, b_0, pk_un (by decide), pk_un (by decide), va_up_n _ _ (by decide)]
    simp only [Bool.false_eq_true, false_or, Nat.zero_le, true_and, Nat.zero_add]
/-- what the leader has while it fetches STRIPES (G: a block is as it must be; tg: which ITEM is wanted) -/
def FE (ops : Nat → Mg) (G : (Nat → Int32) → Prop) (o : Nat) (D : Nat → Nat → Int32) (K : Int64) : Prop :=
  (TKD (tsp ops o) D K) ∧
  (AKD (ops o) o D) ∧
  (D 16 960 = efv ops o) ∧
  (fdP (D 11) (D 18 7) (fdN (tsp ops o) (ops o).2 0 ((ops o).1 3).toNatClampNeg)) ∧
  ((ops o).1 0 = 9 ∨ fdP (D 11) (D 18 8) (fdN (tsp ops o) (ops o).2 50 ((ops o).1 4).toNatClampNeg)) ∧
  (D 18 13 = -1 ∧ D 18 14 = -1) ∧
  (((ops o).1 0 = 4 ∧ stp (tsp ops o) o (ops o) = none ∧ ¬ D 18 7 = -1) ∨ ∃ (a : Nat) (T' : TS), D 18 5 = nI a ∧ stp (tsp ops o) o (ops o) = some (a, T') ∧ SPN (ops o) (tsp ops o) (fdN (tsp ops o) (ops o).2 0 ((ops o).1 3).toNatClampNeg) D ∧ ¬ ((ops o).1 0 = 4 ∨ (ops o).1 0 = 8 ∨ (ops o).1 0 = 9) ∧ (D 18 7 = -1 → (tsp ops o).cnt < 48 ∧ ((ops o).1 0 = 0 ∨ (ops o).1 0 = 1 ∨ (ops o).1 0 = 2))) ∧
  (∃ sp c a : Nat, sp ≤ 2048 ∧ D 18 9 = nI sp ∧ D 18 11 = nI c ∧ (sp = 0 → c = 0) ∧ (0 < sp → D 19 1 = nI a ∧ a + sp ≤ 8192 ∧ D 18 10 = nI (a / 448) ∧ c = (a + sp - 1) / 448 - a / 448 + 1) ∧ (∀ j, j < 32 → bt (D 18 12) j = true → j < c ∧ ∃ fx : Nat, fx < 48 ∧ D 18 7 = nI fx ∧ ¬ D 16 (fx * 20 + a / 448 + j) < 0) ∧
    (∀ j, j < 9 → (∀ x, x < 128 → D 21 (j * 128 + x) = 0) ∨ (j < c ∧ bt (D 18 12) j = false ∧ G (fun x => D 21 (j * 128 + x)) ∧ ∃ fx : Nat, fx < 48 ∧ D 18 7 = nI fx ∧ ¬ D 16 (fx * 20 + a / 448 + j) < 0 ∧ D 21 (j * 128 + 1) = tgA (D 11) (D 16) (fx * 20 + a / 448 + j))) ∧
    (∀ j, j < c → bt (D 18 12) j = false → ∀ fx : Nat, fx < 48 → D 18 7 = nI fx → ¬ D 16 (fx * 20 + a / 448 + j) < 0 → G (fun x => D 21 (j * 128 + x)) ∧ D 21 (j * 128 + 1) = tgA (D 11) (D 16) (fx * 20 + a / 448 + j)))
theorem FE.tk {ops : Nat → Mg} {G : (Nat → Int32) → Prop} {o : Nat} {D : Nat → Nat → Int32} {K : Int64} (h_ : FE ops G o D K) : TKD (tsp ops o) D K := h_.1
theorem FE.ak {ops : Nat → Mg} {G : (Nat → Int32) → Prop} {o : Nat} {D : Nat → Nat → Int32} {K : Int64} (h_ : FE ops G o D K) : AKD (ops o) o D := h_.2.1
theorem FE.rt {ops : Nat → Mg} {G : (Nat → Int32) → Prop} {o : Nat} {D : Nat → Nat → Int32} {K : Int64} (h_ : FE ops G o D K) : D 16 960 = efv ops o := h_.2.2.1
theorem FE.fi {ops : Nat → Mg} {G : (Nat → Int32) → Prop} {o : Nat} {D : Nat → Nat → Int32} {K : Int64} (h_ : FE ops G o D K) : fdP (D 11) (D 18 7) (fdN (tsp ops o) (ops o).2 0 ((ops o).1 3).toNatClampNeg) := h_.2.2.2.1
theorem FE.ot {ops : Nat → Mg} {G : (Nat → Int32) → Prop} {o : Nat} {D : Nat → Nat → Int32} {K : Int64} (h_ : FE ops G o D K) : (ops o).1 0 = 9 ∨ fdP (D 11) (D 18 8) (fdN (tsp ops o) (ops o).2 50 ((ops o).1 4).toNatClampNeg) := h_.2.2.2.2.1
theorem FE.r3 {ops : Nat → Mg} {G : (Nat → Int32) → Prop} {o : Nat} {D : Nat → Nat → Int32} {K : Int64} (h_ : FE ops G o D K) : D 18 13 = -1 ∧ D 18 14 = -1 := h_.2.2.2.2.2.1
theorem FE.out {ops : Nat → Mg} {G : (Nat → Int32) → Prop} {o : Nat} {D : Nat → Nat → Int32} {K : Int64} (h_ : FE ops G o D K) : ((ops o).1 0 = 4 ∧ stp (tsp ops o) o (ops o) = none ∧ ¬ D 18 7 = -1) ∨ ∃ (a : Nat) (T' : TS), D 18 5 = nI a ∧ stp (tsp ops o) o (ops o) = some (a, T') ∧ SPN (ops o) (tsp ops o) (fdN (tsp ops o) (ops o).2 0 ((ops o).1 3).toNatClampNeg) D ∧ ¬ ((ops o).1 0 = 4 ∨ (ops o).1 0 = 8 ∨ (ops o).1 0 = 9) ∧ (D 18 7 = -1 → (tsp ops o).cnt < 48 ∧ ((ops o).1 0 = 0 ∨ (ops o).1 0 = 1 ∨ (ops o).1 0 = 2)) := h_.2.2.2.2.2.2.1
theorem FE.sp {ops : Nat → Mg} {G : (Nat → Int32) → Prop} {o : Nat} {D : Nat → Nat → Int32} {K : Int64} (h_ : FE ops G o D K) : ∃ sp c a : Nat, sp ≤ 2048 ∧ D 18 9 = nI sp ∧ D 18 11 = nI c ∧ (sp = 0 → c = 0) ∧ (0 < sp → D 19 1 = nI a ∧ a + sp ≤ 8192 ∧ D 18 10 = nI (a / 448) ∧ c = (a + sp - 1) / 448 - a / 448 + 1) ∧ (∀ j, j < 32 → bt (D 18 12) j = true → j < c ∧ ∃ fx : Nat, fx < 48 ∧ D 18 7 = nI fx ∧ ¬ D 16 (fx * 20 + a / 448 + j) < 0) ∧
    (∀ j, j < 9 → (∀ x, x < 128 → D 21 (j * 128 + x) = 0) ∨ (j < c ∧ bt (D 18 12) j = false ∧ G (fun x => D 21 (j * 128 + x)) ∧ ∃ fx : Nat, fx < 48 ∧ D 18 7 = nI fx ∧ ¬ D 16 (fx * 20 + a / 448 + j) < 0 ∧ D 21 (j * 128 + 1) = tgA (D 11) (D 16) (fx * 20 + a / 448 + j))) ∧
    (∀ j, j < c → bt (D 18 12) j = false → ∀ fx : Nat, fx < 48 → D 18 7 = nI fx → ¬ D 16 (fx * 20 + a / 448 + j) < 0 → G (fun x => D 21 (j * 128 + x)) ∧ D 21 (j * 128 + 1) = tgA (D 11) (D 16) (fx * 20 + a / 448 + j)) := h_.2.2.2.2.2.2.2

/-! a STRIPE that was fetched comes in -/
theorem ndB_c {W : Nat → Int32} {i a1 : Nat} (h : ndB W i = nI a1) (ha : a1 < 961) : nI i < W 11 ∧ ¬ (W 12 >>> (nI i &&& 31)) &&& 1 = 0 ∧ ((W 7 * 20) + W 10) + nI i = nI a1 := by
  unfold ndB at h
  by_cases c : nI i < W 11 ∧ ¬ (W 12 >>> (nI i &&& 31)) &&& 1 = 0
  · rw [if_pos c] at h
    exact ⟨c.1, c.2, h⟩
  · rw [if_neg c] at h
    exact absurd h.symm (nIneg (by omega))
theorem nI_mul (a b : Nat) : nI a * nI b = nI (a * b) := (Int32.ofNat_mul a b).symm
theorem FE.c6 {ops : Nat → Mg} {G : (Nat → Int32) → Prop} {o : Nat} {D : Nat → Nat → Int32} {K : Int64} (h : FE ops G o D K) : ∃ c : Nat, c ≤ 6 ∧ D 18 11 = nI c := by
  obtain ⟨sp, c, a, s1, s2, s3, s4, s5, _⟩ := h.sp
  refine ⟨c, ?_, s3⟩
  rcases Nat.eq_zero_or_pos sp with z | z
  · have := s4 z; omega
  · obtain ⟨_, a2, _, a4⟩ := s5 z
    omega
/-- one block -/
theorem FE.put {ops : Nat → Mg} {G : (Nat → Int32) → Prop} {o : Nat} {D : Nat → Nat → Int32} {K : Int64} {b : Nat → Int32} {i a1 : Nat} (hG : BX G) (h : FE ops G o D K) (hi : i < 32) (ha : a1 < 961) (hn : ndB (D 18) i = nI a1) (hb : G b) (hb1 : b 1 = tgA (D 11) (D 16) a1) : FE ops G o (va_up (va_up D 18 (upd (D 18) 12 ((D 18 12) &&& ((1 <<< ((nI i) &&& 31)) ^^^ (-1))))) 21 (va_cpy b (D 21) 0 (i * 128) 128)) K := by
  obtain ⟨n1, n2, n3⟩ := ndB_c hn ha
  obtain ⟨c', hc6, ec'⟩ := h.c6
  generalize hD' : va_up (va_up D 18 (upd (D 18) 12 ((D 18 12) &&& ((1 <<< ((nI i) &&& 31)) ^^^ (-1))))) 21 (va_cpy b (D 21) 0 (i * 128) 128) = D'
  have q1 : ∀ q, q ≠ 18 → q ≠ 21 → D' q = D q := fun q a c => by rw [← hD', va_up_n _ _ c, va_up_n _ _ a]
  have w1 : ∀ x, x ≠ 12 → D' 18 x = D 18 x := fun x hx => by rw [← hD', va_up_n _ _ (by decide), va_up_s, pk_un hx]
  have w12 : D' 18 12 = (D 18 12) &&& ((1 <<< ((nI i) &&& 31)) ^^^ (-1)) := by rw [← hD', va_up_n _ _ (by decide), va_up_s, pk_us]
  have b1 : D' 21 = va_cpy b (D 21) 0 (i * 128) 128 := by rw [← hD', va_up_s]
  have bits : ∀ j, j < 32 → bt (D' 18 12) j = (bt (D 18 12) j && !decide (j = i)) := fun j hj => by rw [w12]; exact bt_clr _ hi hj
  have hbi : bt (D 18 12) i = true := by
    cases e : bt (D 18 12) i with
    | true => rfl
    | false => exact absurd ((bitz _ hi).mpr e) n2
  have e11 := q1 11 (by decide) (by decide)
  have e16 := q1 16 (by decide) (by decide)
  have e19 := q1 19 (by decide) (by decide)
  refine ⟨?_, ?_, ?_, ?_, ?_, ?_, ?_, ?_⟩
  · exact by
      show TK _ (D' 10 9) (D' 11) (D' 12) (D' 13) (D' 14) (D' 15) (D' 16) K
      rw [q1 10 (by decide) (by decide), e11, q1 12 (by decide) (by decide), q1 13 (by decide) (by decide), q1 14 (by decide) (by decide), q1 15 (by decide) (by decide), e16]
      exact h.tk
  · exact h.ak.cg (w1 4 (by decide)) (fun x _ => by rw [e19]) (fun _ => by rw [e19]) (q1 20 (by decide) (by decide))
  · exact by rw [e16]; exact h.rt
  · exact by rw [e11, w1 7 (by decide)]; exact h.fi
  · exact by rw [e11, w1 8 (by decide)]; exact h.ot
  · exact by rw [w1 13 (by decide), w1 14 (by decide)]; exact h.r3
  · exact by
      rcases h.out with ⟨z1, z2, z3⟩ | ⟨a, T', z1, z2, z3, z4⟩
      · exact Or.inl ⟨z1, z2, by rw [w1 7 (by decide)]; exact z3⟩
      · refine Or.inr ⟨a, T', by rw [w1 5 (by decide)]; exact z1, z2, ⟨fun y => ?_, fun y => ?_, fun y => ?_, fun y => ?_⟩, by rw [w1 7 (by decide)]; exact z4⟩
        · rw [w1 9 (by decide), e19]; exact z3.s1 y
        · rw [w1 9 (by decide), e19]; exact z3.s2 y
        · rw [w1 9 (by decide), e19]; exact z3.s3 y
        · rw [w1 9 (by decide)]; exact z3.s5 y
  · exact by
      obtain ⟨sp, c, a, s1, s2, s3, s4, s5, s6, s7, s8⟩ := h.sp
      obtain ⟨hic, fx, f1, f2, f3⟩ := s6 i hi hbi
      have hsp : 0 < sp := by
        rcases Nat.eq_zero_or_pos sp with z | z
        · rw [s4 z] at hic; omega
        · exact z
      obtain ⟨t1, t2, t3, t4⟩ := s5 hsp
      have hpl : a1 = fx * 20 + a / 448 + i := by
        have hx : nI fx * 20 + nI (a / 448) + nI i = nI (fx * 20 + a / 448 + i) := by
          rw [show (20 : Int32) = nI 20 from rfl, nI_mul, nI_add, nI_add]
        rw [f2, t3, hx] at n3
        exact (nI_inj (by omega) (by omega) n3).symm
      have blo : ∀ j, j ≠ i → ∀ x, x < 128 → D' 21 (j * 128 + x) = D 21 (j * 128 + x) := fun j hj x hx => by rw [b1]; exact pk_cpy_out (by omega)
      have bli : ∀ x, x < 128 → D' 21 (i * 128 + x) = b x := fun x hx => by
        rw [b1, pk_cpy_in (by omega) (by omega)]
        congr 1
        omega
      have gi : G (fun x => D' 21 (i * 128 + x)) ∧ D' 21 (i * 128 + 1) = tgA (D 11) (D 16) (fx * 20 + a / 448 + i) := ⟨hG.1 _ _ (fun x _ hx => (bli x (by omega)).symm) hb, by rw [bli 1 (by decide), hb1, hpl]⟩
      have hbf : bt (D' 18 12) i = false := by rw [bits i hi]; simp
      have hfu : ∀ fy : Nat, fy < 48 → D 18 7 = nI fy → fy = fx := fun fy y1 y2 => by rw [f2] at y2; exact (nI_inj (by omega) (by omega) y2).symm
      refine ⟨sp, c, a, s1, by rw [w1 9 (by decide)]; exact s2, by rw [w1 11 (by decide)]; exact s3, s4, fun z => by rw [e19, w1 10 (by decide)]; exact s5 z, fun j hj hbj => ?_, fun j hj => ?_, fun j hj hbj fy y1 y2 y3 => ?_⟩
      · rw [bits j hj] at hbj
        simp only [Bool.and_eq_true] at hbj
        rw [w1 7 (by decide), e16]
        exact s6 j hj hbj.1
      · rw [w1 7 (by decide), e11, e16]
        by_cases ej : j = i
        · subst ej
          exact Or.inr ⟨hic, hbf, gi.1, fx, f1, f2, f3, gi.2⟩
        · rcases s7 j hj with z | ⟨z1, z2, z3, z4⟩
          · exact Or.inl (fun x hx => by rw [blo j ej x hx]; exact z x hx)
          · refine Or.inr ⟨z1, by rw [bits j (by omega), z2]; rfl, hG.1 _ _ (fun x _ hx => (blo j ej x (by omega)).symm) z3, ?_⟩
            rw [blo j ej 1 (by decide)]
            exact z4
      · rw [w1 7 (by decide)] at y2
        rw [e16] at y3
        rw [e11, e16]
        by_cases ej : j = i
        · subst ej
          rw [hfu fy y1 y2]
          exact gi
        · have hj32 : j < 32 := by
            have : nI c = nI c' := s3.symm.trans ec'
            have := nI_inj (by omega) (by omega) this
            omega
          rw [bits j hj32] at hbj
          have hbj : bt (D 18 12) j = false := by simpa [ej] using hbj
          obtain ⟨g1, g2⟩ := s8 j hj hbj fy y1 y2 y3
          exact ⟨hG.1 _ _ (fun x _ hx => (blo j ej x (by omega)).symm) g1, by rw [blo j ej 1 (by decide)]; exact g2⟩
set_option maxRecDepth 10000 in
theorem fill_lp {ops : Nat → Mg} {G : (Nat → Int32) → Prop} {o : Nat} {nn gg : Nat} {C me : Int32} {f u b : Nat → Int32} {K A : Int64} {Y : List Mg} {a1 : Nat} (hG : BX G) (ha : a1 < 961) (hb : G b) :
    ∀ (k i : Nat) (D : Nat → Nat → Int32), i + k ≤ 32 → FE ops G o D K → b 1 = tgA (D 11) (D 16) a1 → D 18 3 = 2 →
    ∃ D' : Nat → Nat → Int32, G_87 nn gg C me f u b (nI a1) k i D K A Y = (D', K, A, Y) ∧ FE ops G o D' K ∧ (∀ q, q ≠ 18 → q ≠ 21 → D' q = D q) ∧ (∀ x, x ≠ 12 → D' 18 x = D 18 x) ∧ (∀ j, j < 32 → bt (D' 18 12) j = true → bt (D 18 12) j = true) ∧ (∀ j, i ≤ j → j < i + k → ndB (D 18) j = nI a1 → bt (D' 18 12) j = false)
  | 0, i, D, _, h, _, _ => ⟨D, rfl, h, fun _ _ _ => rfl, fun _ _ => rfl, fun _ _ z => z, fun j h1 h2 => absurd h2 (by omega)⟩
  | k + 1, i, D, hi, h, hb1, h3 => by
    unfold G_87
    rw [if_neg (fun z => z h3)]
    by_cases c : ndB (D 18) i = nI a1
    · rw [if_neg (fun z => z c)]
      have hp := h.put hG (show i < 32 by omega) ha c hb hb1
      generalize hD' : va_up (va_up D 18 (upd (D 18) 12 ((D 18 12) &&& ((1 <<< ((nI i) &&& 31)) ^^^ (-1))))) 21 (va_cpy b (D 21) 0 (i * 128) 128) = D1 at hp ⊢
      have q1 : ∀ q, q ≠ 18 → q ≠ 21 → D1 q = D q := fun q a c => by rw [← hD', va_up_n _ _ c, va_up_n _ _ a]
      have w1 : ∀ x, x ≠ 12 → D1 18 x = D 18 x := fun x hx => by rw [← hD', va_up_n _ _ (by decide), va_up_s, pk_un hx]
      have w12 : D1 18 12 = (D 18 12) &&& ((1 <<< ((nI i) &&& 31)) ^^^ (-1)) := by rw [← hD', va_up_n _ _ (by decide), va_up_s, pk_us]
      have bits : ∀ j, j < 32 → bt (D1 18 12) j = (bt (D 18 12) j && !decide (j = i)) := fun j hj => by rw [w12]; exact bt_clr _ (by omega) hj
      obtain ⟨D', a2, a3, a4, a5, a6, a7⟩ := fill_lp (nn := nn) (gg := gg) (C := C) (me := me) (f := f) (u := u) (A := A) (Y := Y) hG ha hb k (i + 1) D1 (by omega) hp (by rw [q1 11 (by decide) (by decide), q1 16 (by decide) (by decide)]; exact hb1) (by rw [w1 3 (by decide)]; exact h3)
      refine ⟨D', a2, a3, fun q h1 h2 => by rw [a4 q h1 h2, q1 q h1 h2], fun x hx => by rw [a5 x hx, w1 x hx], fun j hj z => ?_, fun j h1 h2 hn => ?_⟩
      · have := a6 j hj z
        rw [bits j hj] at this
        simp only [Bool.and_eq_true] at this
        exact this.1
      · by_cases ej : j = i
        · subst ej
          cases e : bt (D' 18 12) j with
          | false => rfl
          | true =>
            have := a6 j (by omega) e
            rw [bits j (by omega)] at this
            simp at this
        · by_cases hb1 : bt (D 18 12) j = true
          · refine a7 j (by omega) (by omega) ?_
            obtain ⟨n1, n2, n3⟩ := ndB_c hn ha
            unfold ndB
            have hz : ¬ (D1 18 12 >>> (nI j &&& 31)) &&& 1 = 0 := fun z => by
              rw [bitz _ (by omega), bits j (by omega), hb1] at z
              simp [ej] at z
            rw [w1 11 (by decide), w1 7 (by decide), w1 10 (by decide), if_pos ⟨n1, hz⟩]
            exact n3
          · cases e : bt (D' 18 12) j with
            | false => rfl
            | true =>
              have := a6 j (by omega) e
              rw [bits j (by omega)] at this
              simp only [Bool.and_eq_true] at this
              exact absurd this.1 hb1
    · rw [if_pos c]
      obtain ⟨D', a2, a3, a4, a5, a6, a7⟩ := fill_lp (nn := nn) (gg := gg) (C := C) (me := me) (f := f) (u := u) (A := A) (Y := Y) hG ha hb k (i + 1) D (by omega) h hb1 h3
      refine ⟨D', a2, a3, a4, a5, a6, fun j h1 h2 hn => ?_⟩
      by_cases ej : j = i
      · subst ej; exact absurd hn c
      · exact a7 j (by omega) (by omega) hn
/-- fill -/
theorem fill_lem {ops : Nat → Mg} {G : (Nat → Int32) → Prop} {o : Nat} {nn gg : Nat} {C me : Int32} {f u b : Nat → Int32} {D : Nat → Nat → Int32} {K A : Int64} {Y : List Mg} {a1 : Nat} (hG : BX G) (ha : a1 < 961) (hb : G b) (h : FE ops G o D K) (hb1 : b 1 = tgA (D 11) (D 16) a1) (h3 : D 18 3 = 2) :
    ∃ D' : Nat → Nat → Int32, F_87 nn gg C me f u b D K A Y (nI a1) = (D', K, A, Y) ∧ FE ops G o D' K ∧ (∀ q, q ≠ 18 → q ≠ 21 → D' q = D q) ∧ (∀ x, x ≠ 12 → D' 18 x = D 18 x) ∧ (∀ j, j < 32 → bt (D' 18 12) j = true → bt (D 18 12) j = true) ∧ (∀ j, j < 6 → ndB (D 18) j = nI a1 → bt (D' 18 12) j = false) := by
  obtain ⟨c, hc, ec⟩ := h.c6
  obtain ⟨D', a2, a3, a4, a5, a6, a7⟩ := fill_lp (nn := nn) (gg := gg) (C := C) (me := me) (f := f) (u := u) (A := A) (Y := Y) hG ha hb c 0 D (by omega) h hb1 h3
  have hcl : (D 18 11).toNatClampNeg = c := by rw [ec, nI_clamp (by omega)]
  refine ⟨D', ?_, a3, a4, a5, a6, fun j hj hn => ?_⟩
  · unfold F_87
    rw [bnN_e, hcl]
    exact a2
  · refine a7 j (by omega) ?_ hn
    have := (ndB_c hn ha).1
    rw [ec] at this
    have := (nI_ltI (by omega) (by omega)).mp this
    omega
/-- when it doesn't fetch, nothing is filled in -/
theorem fill_no {nn gg : Nat} {C me : Int32} {f u b : Nat → Int32} {K A : Int64} {Y : List Mg} {x : Int32} : ∀ (k i : Nat) (D : Nat → Nat → Int32), ¬ D 18 3 = 2 → G_87 nn gg C me f u b x k i D K A Y = (D, K, A, Y)
  | 0, i, D, _ => rfl
  | k + 1, i, D, h => by
    unfold G_87
    rw [if_pos h]
    exact fill_no k (i + 1) D h

/-! what is true of every state that OPERATIONS make -/
theorem TOK.mono {T : TS} {k k' : Nat} (h : TOK T k) (hk : k ≤ k') : TOK T k' := by
  refine ⟨?_, ?_, ?_, ?_, ?_, ?_, ?_, ?_, ?_, ?_, ?_⟩
  · intro i x
    exact Nat.lt_of_lt_of_le (h.e1 i x) hk
  · exact h.e2
  · exact h.n1
  · exact h.z1
  · intro i x
    exact let ⟨v, a, b⟩ := h.r1 i x; ⟨v, by omega, b⟩
  · intro i p
    exact (h.v1 i p).imp id (fun ⟨v, a, b⟩ => ⟨v, by omega, b⟩)
  · exact h.v2
  · exact h.d1
  · exact h.t1
  · exact h.c1
  · exact h.u1
theorem TOK.ver {T : TS} {k i v : Nat} {P : Nat → Prop} [DecidablePred P] (h : TOK T k) (hi : T.ex i = true) (hP : ∀ p, P p → p < 19 → p * 448 < T.sz i) (hv : v < k) : TOK (T.ver i P (nI v)) k := by
  refine ⟨?_, ?_, ?_, ?_, ?_, ?_, ?_, ?_, ?_, ?_, ?_⟩
  · exact h.e1
  · intro j hj
    have hne : j ≠ i := fun z => by rw [z] at hj; exact absurd (hi.symm.trans hj) (by decide)
    refine ⟨(h.e2 j hj).1, fun p => ?_⟩
    show fup T.vr i _ j p = -1
    rw [fup_n hne]
    exact (h.e2 j hj).2 p
  · exact h.n1
  · exact h.z1
  · intro j hj
    show ∃ x, x < k ∧ fup T.vr i _ j 19 = nI x
    by_cases e : j = i
    · subst e
      rw [fup_s]
      by_cases hp : P 19
      · exact ⟨v, hv, if_pos hp⟩
      · rw [if_neg hp]
        exact h.r1 j hj
    · rw [fup_n e]
      exact h.r1 j hj
  · intro j p
    show fup T.vr i _ j p = -1 ∨ ∃ x, x < k ∧ fup T.vr i _ j p = nI x
    by_cases e : j = i
    · subst e
      rw [fup_s]
      by_cases hp : P p
      · exact Or.inr ⟨v, hv, if_pos hp⟩
      · rw [if_neg hp]
        exact h.v1 j p
    · rw [fup_n e]
      exact h.v1 j p
  · intro j p hp hne
    show p * 448 < T.sz j
    have hne : ¬ fup T.vr i _ j p = -1 := hne
    by_cases e : j = i
    · subst e
      rw [fup_s] at hne
      by_cases hq : P p
      · exact hP p hq hp
      · rw [if_neg hq] at hne
        exact h.v2 j p hp hne
    · rw [fup_n e] at hne
      exact h.v2 j p hp hne
  · exact h.d1
  · exact h.t1
  · exact h.c1
  · exact h.u1
theorem TOK.clr {T : TS} {k i : Nat} {P : Nat → Prop} [DecidablePred P] (h : TOK T k) (hP : ∀ p, P p → p < 19) : TOK (T.ver i P (-1)) k := by
  refine ⟨?_, ?_, ?_, ?_, ?_, ?_, ?_, ?_, ?_, ?_, ?_⟩
  · exact h.e1
  · intro j hj
    refine ⟨(h.e2 j hj).1, fun p => ?_⟩
    show fup T.vr i _ j p = -1
    by_cases e : j = i
    · subst e
      rw [fup_s]
      split
      · rfl
      · exact (h.e2 j hj).2 p
    · rw [fup_n e]
      exact (h.e2 j hj).2 p
  · exact h.n1
  · exact h.z1
  · intro j hj
    show ∃ x, x < k ∧ fup T.vr i _ j 19 = nI x
    by_cases e : j = i
    · subst e
      rw [fup_s, if_neg (fun z => absurd (hP 19 z) (by decide))]
      exact h.r1 j hj
    · rw [fup_n e]
      exact h.r1 j hj
  · intro j p
    show fup T.vr i _ j p = -1 ∨ ∃ x, x < k ∧ fup T.vr i _ j p = nI x
    by_cases e : j = i
    · subst e
      rw [fup_s]
      split
      · exact Or.inl rfl
      · exact h.v1 j p
    · rw [fup_n e]
      exact h.v1 j p
  · intro j p hp hne
    show p * 448 < T.sz j
    have hne : ¬ fup T.vr i _ j p = -1 := hne
    by_cases e : j = i
    · subst e
      rw [fup_s] at hne
      split at hne
      · exact absurd rfl hne
      · exact h.v2 j p hp hne
    · rw [fup_n e] at hne
      exact h.v2 j p hp hne
  · exact h.d1
  · exact h.t1
  · exact h.c1
  · exact h.u1
theorem TOK.siz {T : TS} {k i z : Nat} (h : TOK T k) (hk : k ≤ 512) (hi : T.ex i = true) (hz : z ≤ 8192) (hp : ∀ p, p < 19 → ¬ T.vr i p = -1 → p * 448 < z) (hd : ∀ y, z ≤ y → T.dt i y = 0) (ht : T.tot + z ≤ 32768 + T.sz i) : TOK (T.siz i z) k := by
  refine ⟨?_, ?_, ?_, ?_, ?_, ?_, ?_, ?_, ?_, ?_, ?_⟩
  · exact h.e1
  · intro j hj
    have hne : j ≠ i := fun z => by rw [z] at hj; exact absurd (hi.symm.trans hj) (by decide)
    refine ⟨?_, (h.e2 j hj).2⟩
    show fup T.sz i z j = 0
    rw [fup_n hne]
    exact (h.e2 j hj).1
  · exact h.n1
  · intro j
    show fup T.sz i z j ≤ 8192
    by_cases e : j = i
    · subst e; rw [fup_s]; exact hz
    · rw [fup_n e]; exact h.z1 j
  · exact h.r1
  · exact h.v1
  · intro j p hq hne
    show p * 448 < fup T.sz i z j
    by_cases e : j = i
    · subst e; rw [fup_s]; exact hp p hq hne
    · rw [fup_n e]; exact h.v2 j p hq hne
  · intro j y hy
    have hy : fup T.sz i z j ≤ y := hy
    show T.dt j y = 0
    by_cases e : j = i
    · rw [e, fup_s] at hy; rw [e]; exact hd y hy
    · rw [fup_n e] at hy; exact h.d1 j y hy
  · show Sm (fup T.sz i z) 512 ≤ 32768
    have := Sm_upd (g := T.sz) (h := fup T.sz i z) (a := i) (n := 512) (by have := h.e1 i hi; omega) (fun j _ hj => fup_n hj)
    rw [fup_s] at this
    unfold TS.tot at ht
    omega
  · exact h.c1
  · exact h.u1
theorem TOK.dat {T : TS} {k i : Nat} {g : Nat → Int32} (h : TOK T k) (hg : ∀ y, T.sz i ≤ y → g y = 0) : TOK (T.dat i g) k := by
  refine ⟨?_, ?_, ?_, ?_, ?_, ?_, ?_, ?_, ?_, ?_, ?_⟩
  · exact h.e1
  · exact h.e2
  · exact h.n1
  · exact h.z1
  · exact h.r1
  · exact h.v1
  · exact h.v2
  · intro j y hy
    have hy : T.sz j ≤ y := hy
    show fup T.dt i g j y = 0
    by_cases e : j = i
    · rw [e] at hy; rw [e, fup_s]; exact hg y hy
    · rw [fup_n e]; exact h.d1 j y hy
  · exact h.t1
  · exact h.c1
  · exact h.u1
theorem TOK.nam {T : TS} {k i l : Nat} {w : Nat → Int32} (h : TOK T k) (hl : l ≤ 200) (hu : ∀ j, T.ex j = true → j ≠ i → T.nl j = l → (∀ x, x < 50 → T.nm j x = w x) → False) : TOK (T.nam i w l) k := by
  refine ⟨?_, ?_, ?_, ?_, ?_, ?_, ?_, ?_, ?_, ?_, ?_⟩
  · exact h.e1
  · exact h.e2
  · intro j hj
    show fup T.nl i l j ≤ 200
    by_cases e : j = i
    · subst e; rw [fup_s]; exact hl
    · rw [fup_n e]; exact h.n1 j hj
  · exact h.z1
  · exact h.r1
  · exact h.v1
  · exact h.v2
  · exact h.d1
  · exact h.t1
  · exact h.c1
  · intro a b ha hb e1 e2
    have e1 : fup T.nl i l a = fup T.nl i l b := e1
    have e2 : ∀ x, x < 50 → fup T.nm i w a x = fup T.nm i w b x := e2
    by_cases ea : a = i
    · by_cases eb : b = i
      · rw [ea, eb]
      · rw [ea, fup_s, fup_n eb] at e1
        exact absurd (hu b hb eb e1.symm (fun x hx => by have := e2 x hx; rw [ea, fup_s, fup_n eb] at this; exact this.symm)) id
    · by_cases eb : b = i
      · rw [eb, fup_s, fup_n ea] at e1
        exact absurd (hu a ha ea e1 (fun x hx => by have := e2 x hx; rw [eb, fup_s, fup_n ea] at this; exact this)) id
      · rw [fup_n ea, fup_n eb] at e1
        exact h.u1 a b ha hb e1 (fun x hx => by have := e2 x hx; rw [fup_n ea, fup_n eb] at this; exact this)
theorem TOK.rem {T : TS} {k : Nat} (h : TOK T k) (i : Nat) : TOK (T.rem i) k := by
  refine ⟨?_, ?_, ?_, ?_, ?_, ?_, ?_, ?_, ?_, ?_, ?_⟩
  · intro j hj
    have hj : fup T.ex i false j = true := hj
    by_cases e : j = i
    · rw [e, fup_s] at hj; cases hj
    · rw [fup_n e] at hj; exact h.e1 j hj
  · intro j hj
    have hj : fup T.ex i false j = false := hj
    show fup T.sz i 0 j = 0 ∧ ∀ p, fup T.vr i (fun _ => -1) j p = -1
    by_cases e : j = i
    · rw [e, fup_s, fup_s]; exact ⟨rfl, fun _ => rfl⟩
    · rw [fup_n e] at hj; rw [fup_n e, fup_n e]; exact h.e2 j hj
  · intro j hj
    have hj : fup T.ex i false j = true := hj
    by_cases e : j = i
    · rw [e, fup_s] at hj; cases hj
    · rw [fup_n e] at hj; exact h.n1 j hj
  · intro j
    show fup T.sz i 0 j ≤ 8192
    by_cases e : j = i
    · rw [e, fup_s]; omega
    · rw [fup_n e]; exact h.z1 j
  · intro j hj
    have hj : fup T.ex i false j = true := hj
    show ∃ v, v < k ∧ fup T.vr i (fun _ => -1) j 19 = nI v
    by_cases e : j = i
    · rw [e, fup_s] at hj; cases hj
    · rw [fup_n e] at hj ⊢; exact h.r1 j hj
  · intro j p
    show fup T.vr i (fun _ => -1) j p = -1 ∨ ∃ v, v < k ∧ fup T.vr i (fun _ => -1) j p = nI v
    by_cases e : j = i
    · rw [e, fup_s]; exact Or.inl rfl
    · rw [fup_n e]; exact h.v1 j p
  · intro j p hp hne
    have hne : ¬ fup T.vr i (fun _ => -1) j p = -1 := hne
    show p * 448 < fup T.sz i 0 j
    by_cases e : j = i
    · rw [e, fup_s] at hne; exact absurd rfl hne
    · rw [fup_n e] at hne ⊢; exact h.v2 j p hp hne
  · intro j y hy
    have hy : fup T.sz i 0 j ≤ y := hy
    show fup T.dt i (fun _ => 0) j y = 0
    by_cases e : j = i
    · rw [e, fup_s]
    · rw [fup_n e] at hy ⊢; exact h.d1 j y hy
  · exact Nat.le_trans (Sm_le (fun j _ => by
    show fup T.sz i 0 j ≤ T.sz j
    by_cases e : j = i
    · rw [e, fup_s]; omega
    · rw [fup_n e]; exact Nat.le_refl _)) h.t1
  · exact Nat.le_trans (Sm_le (fun j _ => by
    show (if fup T.ex i false j = true then 1 else 0) ≤ (if T.ex j = true then 1 else 0)
    by_cases e : j = i
    · rw [e, fup_s, if_neg (by decide)]; omega
    · rw [fup_n e]; exact Nat.le_refl _)) h.c1
  · intro a b ha hb e1 e2
    have ha : fup T.ex i false a = true := ha
    have hb : fup T.ex i false b = true := hb
    by_cases ea : a = i
    · rw [ea, fup_s] at ha; cases ha
    · by_cases eb : b = i
      · rw [eb, fup_s] at hb; cases hb
      · rw [fup_n ea] at ha; rw [fup_n eb] at hb
        exact h.u1 a b ha hb e1 e2
theorem TOK.swp {T : TS} {k i j li lj : Nat} {wi wj : Nat → Int32} (h : TOK T k) (hij : j ≠ i) (hi : T.ex i = true) (hj : T.ex j = true) (n1 : T.nl i = li) (m1 : ∀ x, x < 50 → T.nm i x = wi x) (n2 : T.nl j = lj) (m2 : ∀ x, x < 50 → T.nm j x = wj x) : TOK ((T.nam i wj lj).nam j wi li) k := by
  refine ⟨?_, ?_, ?_, ?_, ?_, ?_, ?_, ?_, ?_, ?_, ?_⟩
  · exact h.e1
  · exact h.e2
  · intro a ha
    show fup (fup T.nl i lj) j li a ≤ 200
    by_cases ej : a = j
    · rw [ej, fup_s, ← n1]; exact h.n1 i hi
    · rw [fup_n ej]
      by_cases ei : a = i
      · rw [ei, fup_s, ← n2]; exact h.n1 j hj
      · rw [fup_n ei]; exact h.n1 a ha
  · exact h.z1
  · exact h.r1
  · exact h.v1
  · exact h.v2
  · exact h.d1
  · exact h.t1
  · exact h.c1
  · intro a b ha hb e1 e2
    have key : ∀ a, T.ex a = true → ∃ a', T.ex a' = true ∧ fup (fup T.nl i lj) j li a = T.nl a' ∧ (∀ x, x < 50 → fup (fup T.nm i wj) j wi a x = T.nm a' x) ∧ ((a = j ∧ a' = i) ∨ (a = i ∧ a' = j) ∨ (a ≠ i ∧ a ≠ j ∧ a' = a)) := fun a ha => by
      by_cases ej : a = j
      · exact ⟨i, hi, by rw [ej, fup_s, n1], fun x hx => by rw [ej, fup_s]; exact (m1 x hx).symm, Or.inl ⟨ej, rfl⟩⟩
      · by_cases ei : a = i
        · exact ⟨j, hj, by rw [fup_n ej, ei, fup_s, n2], fun x hx => by rw [fup_n ej, ei, fup_s]; exact (m2 x hx).symm, Or.inr (Or.inl ⟨ei, rfl⟩)⟩
        · exact ⟨a, ha, by rw [fup_n ej, fup_n ei], fun x hx => by rw [fup_n ej, fup_n ei], Or.inr (Or.inr ⟨ei, ej, rfl⟩)⟩
    obtain ⟨a', a1, a2, a3, a4⟩ := key a ha
    obtain ⟨b', b1, b2, b3, b4⟩ := key b hb
    have := h.u1 a' b' a1 b1 (a2.symm.trans (e1.trans b2)) (fun x hx => (a3 x hx).symm.trans ((e2 x hx).trans (b3 x hx)))
    rcases a4 with ⟨x1, x2⟩ | ⟨x1, x2⟩ | ⟨x1, x2, x3⟩ <;> rcases b4 with ⟨y1, y2⟩ | ⟨y1, y2⟩ | ⟨y1, y2, y3⟩ <;> omega
theorem TOK.mkr {T : TS} {k l : Nat} {w : Nat → Int32} (h : TOK T k) (hk : k < 512) (hc : ¬ T.cnt = 48) (hl : l ≤ 200) (hu : ∀ j, T.ex j = true → T.nl j = l → (∀ x, x < 50 → T.nm j x = w x) → False) : TOK ((T.mk1 k w l).rcd k k) (k + 1) := by
  have hex : T.ex k = false := by
    cases e : T.ex k with
    | false => rfl
    | true => exact absurd (h.e1 k e) (by omega)
  have hz := h.e2 k hex
  have hxx : ∀ j, fup T.ex k true j = true → j ≠ k → T.ex j = true := fun j hj e => by rw [fup_n e] at hj; exact hj
  refine ⟨?_, ?_, ?_, ?_, ?_, ?_, ?_, ?_, ?_, ?_, ?_⟩
  · exact fun j hj => by
      have hj : fup T.ex k true j = true := hj
      by_cases e : j = k
      · omega
      · have := h.e1 j (hxx j hj e); omega
  · exact fun j hj => by
      have hj : fup T.ex k true j = false := hj
      by_cases e : j = k
      · rw [e, fup_s] at hj; cases hj
      · rw [fup_n e] at hj
        refine ⟨(h.e2 j hj).1, fun p => ?_⟩
        show fup T.vr k _ j p = -1
        rw [fup_n e]
        exact (h.e2 j hj).2 p
  · exact fun j hj => by
      show fup T.nl k l j ≤ 200
      by_cases e : j = k
      · rw [e, fup_s]; exact hl
      · rw [fup_n e]; exact h.n1 j (hxx j hj e)
  · exact h.z1
  · exact fun j hj => by
      show ∃ v, v < k + 1 ∧ fup T.vr k _ j 19 = nI v
      by_cases e : j = k
      · rw [e, fup_s]; exact ⟨k, by omega, if_pos rfl⟩
      · rw [fup_n e]
        obtain ⟨v, a, b⟩ := h.r1 j (hxx j hj e)
        exact ⟨v, by omega, b⟩
  · exact fun j p => by
      show fup T.vr k _ j p = -1 ∨ ∃ v, v < k + 1 ∧ fup T.vr k _ j p = nI v
      by_cases e : j = k
      · rw [e, fup_s]
        by_cases hp : p = 19
        · exact Or.inr ⟨k, by omega, if_pos hp⟩
        · rw [if_neg hp]; exact Or.inl (hz.2 p)
      · rw [fup_n e]
        exact (h.v1 j p).imp id (fun ⟨v, a, b⟩ => ⟨v, by omega, b⟩)
  · exact fun j p hp hne => by
      have hne : ¬ fup T.vr k _ j p = -1 := hne
      show p * 448 < T.sz j
      by_cases e : j = k
      · rw [e, fup_s, if_neg (by omega)] at hne
        exact absurd (hz.2 p) hne
      · rw [fup_n e] at hne
        exact h.v2 j p hp hne
  · exact h.d1
  · exact h.t1
  · exact by
      have := Sm_upd (g := fun i => if T.ex i = true then 1 else 0) (h := fun i => if fup T.ex k true i = true then 1 else 0) (a := k) (n := 512) hk (fun j _ hj => by show (if fup T.ex k true j = true then 1 else 0) = _; rw [fup_n hj])
      have e1 : (if T.ex k = true then 1 else 0) = 0 := by rw [hex]; rfl
      have e2 : (if fup T.ex k true k = true then 1 else 0) = 1 := by rw [fup_s]; rfl
      simp only [e1, e2] at this
      have hc1 := h.c1
      unfold TS.cnt at hc hc1
      show Sm (fun i => if fup T.ex k true i = true then 1 else 0) 512 ≤ 48
      omega
  · exact fun a b ha hb e1 e2 => by
      have e1 : fup T.nl k l a = fup T.nl k l b := e1
      have e2 : ∀ x, x < 50 → fup T.nm k w a x = fup T.nm k w b x := e2
      by_cases ea : a = k
      · by_cases eb : b = k
        · rw [ea, eb]
        · rw [ea, fup_s, fup_n eb] at e1
          exact absurd (hu b (hxx b hb eb) e1.symm (fun x hx => by have := e2 x hx; rw [ea, fup_s, fup_n eb] at this; exact this.symm)) id
      · by_cases eb : b = k
        · rw [eb, fup_s, fup_n ea] at e1
          exact absurd (hu a (hxx a ha ea) e1 (fun x hx => by have := e2 x hx; rw [eb, fup_s, fup_n ea] at this; exact this)) id
        · rw [fup_n ea, fup_n eb] at e1
          exact h.u1 a b (hxx a ha ea) (hxx b hb eb) e1 (fun x hx => by have := e2 x hx; rw [fup_n ea, fup_n eb] at this; exact this)
theorem rcd_wrt (T : TS) (i a l o : Nat) (tp : Nat → Int32) : (T.rcd i o).wrt i a l o tp = T.wrt i a l o tp := by
  have e : ∀ (T : TS) (P : Nat → Prop) [DecidablePred P], (((T.rcd i o).ver i P (nI o)).rcd i o) = ((T.ver i P (nI o)).rcd i o) := fun T P _ => by
    unfold TS.rcd TS.ver
    congr 5
    funext j p
    by_cases ej : j = i
    · simp only [TS.ex, TS.sz, TS.nl, TS.nm, TS.vr, TS.dt, fup, ej]
      by_cases ep : p = 19 <;> simp [ep]
    · simp only [TS.ex, TS.sz, TS.nl, TS.nm, TS.vr, TS.dt, fup, if_neg ej]
  unfold TS.wrt
  by_cases hl : l = 0
  · rw [if_pos hl, if_pos hl]
    unfold TS.rcd TS.ver
    congr 5
    funext j p
    by_cases ej : j = i
    · simp only [TS.ex, TS.sz, TS.nl, TS.nm, TS.vr, TS.dt, fup, ej]
      by_cases ep : p = 19 <;> simp [ep]
    · simp only [TS.ex, TS.sz, TS.nl, TS.nm, TS.vr, TS.dt, fup, if_neg ej]
  · rw [if_neg hl, if_neg hl]
    exact congrArg (fun X : TS => X.dat i (fun y => if a ≤ y ∧ y < a + l then tp (y - a) else T.dt i y)) (e (T.siz i (max (T.sz i) (a + l))) _)
theorem TOK.wrt {T : TS} {k i a l : Nat} {tp : Nat → Int32} (h : TOK T (k + 1)) (hk : k < 512) (hi : T.ex i = true) (h1 : ¬ 8192 < T.sz i + (if l = 0 then 0 else a + l - T.sz i)) (h2 : ¬ 32768 - T.tot < (if l = 0 then 0 else a + l - T.sz i)) : TOK (T.wrt i a l k tp) (k + 1) := by
  unfold TS.wrt
  by_cases hl : l = 0
  · rw [if_pos hl]
    exact h.ver hi (fun p e hp => absurd hp (by omega)) (by omega)
  · rw [if_neg hl] at h1 h2 ⊢
    have hz := h.z1 i
    have ht := h.t1
    have hs : TOK (T.siz i (max (T.sz i) (a + l))) (k + 1) := h.siz (by omega) hi (by omega) (fun p hp hne => by have := h.v2 i p hp hne; omega) (fun y hy => h.d1 i y (by omega)) (by omega)
    have hv := hs.ver (i := i) (v := k) (P := fun p => a / 448 ≤ p ∧ p ≤ (a + l - 1) / 448) hi (fun p hp _ => by
      show p * 448 < fup T.sz i _ i
      rw [fup_s]
      have : p * 448 ≤ (a + l - 1) / 448 * 448 := Nat.mul_le_mul_right _ hp.2
      have := Nat.div_mul_le_self (a + l - 1) 448
      omega) (by omega)
    refine (hv.ver (P := fun p => p = 19) (v := k) hi (fun p e hp => absurd hp (by omega)) (by omega)).dat (fun y hy => ?_)
    have hy : fup T.sz i (max (T.sz i) (a + l)) i ≤ y := hy
    rw [fup_s] at hy
    rw [if_neg (by omega)]
    exact h.d1 i y (by omega)
theorem TOK.cut {T : TS} {k i a : Nat} (h : TOK T (k + 1)) (hk : k < 512) (hi : T.ex i = true) (ha : a ≤ 8192) (h2 : ¬ T.sz i + (32768 - T.tot) < a) : TOK (T.cut i a k) (k + 1) := by
  unfold TS.cut
  have hz := h.z1 i
  have ht := h.t1
  have hc : TOK ((T.dat i (fun y => if y < a then T.dt i y else 0)).ver i (fun p => p < 19 ∧ a ≤ p * 448) (-1)) (k + 1) := (h.dat (g := fun y => if y < a then T.dt i y else 0) (fun y hy => by by_cases e : y < a; rw [if_pos e]; exact h.d1 i y hy; rw [if_neg e])).clr (fun p hp => hp.1)
  have hs := hc.siz (i := i) (z := a) (by omega) hi ha (fun p hp hne => by
    have hne : ¬ fup T.vr i (fun p => if p < 19 ∧ a ≤ p * 448 then -1 else T.vr i p) i p = -1 := hne
    rw [fup_s] at hne
    by_cases e : p < 19 ∧ a ≤ p * 448
    · rw [if_pos e] at hne; exact absurd rfl hne
    · omega) (fun y hy => by show fup T.dt i _ i y = 0; rw [fup_s, if_neg (by omega)]) (by show T.tot + a ≤ 32768 + T.sz i; omega)
  have hv := hs.ver (i := i) (v := k) (P := fun p => p = a / 448 ∧ a < T.sz i ∧ ¬ a % 448 = 0 ∧ ¬ T.vr i p < 0) hi (fun p hp _ => by
    show p * 448 < fup T.sz i a i
    rw [fup_s]
    omega) (by omega)
  exact hv.ver hi (fun p e hp => absurd hp (by omega)) (by omega)
theorem inR_c2 {N : Nat} {x : Int32} (h : inR N x) (hN : N ≤ 2 ^ 31) : x.toNatClampNeg < N ∧ x = nI x.toNatClampNeg := by
  obtain ⟨k, a, b⟩ := h
  rw [b, nI_clamp (by omega)]
  exact ⟨a, rfl⟩
theorem ite_ns {α : Type} {c : Prop} [Decidable c] {x y : α} (h : (if c then none else some x) = some y) : ¬ c ∧ x = y := by
  by_cases hc : c
  · rw [if_pos hc] at h; cases h
  · rw [if_neg hc] at h; exact ⟨hc, Option.some.inj h⟩
/-- an OPERATION keeps it -/
theorem TOK.step {T T' : TS} {k a : Nat} {m : Mg} (h : TOK T k) (hk : k < 512) (hm : AQ (m.1 0) (m.1 1) (m.1 2) (m.1 3) (m.1 4) (m.1 5)) (e : stp T k m = some (a, T')) : TOK T' (k + 1) := by
  obtain ⟨m0, m1, m2, m3, m4, m5⟩ := hm
  have l0 := (inR_c2 m3 (by decide)).1
  have l1 := (inR_c2 m4 (by decide)).1
  have h' := h.mono (Nat.le_succ k)
  have hwr : ∀ a', wrS T k m.2 (m.1 3).toNatClampNeg (m.1 5).toNatClampNeg (fdN T m.2 0 (m.1 3).toNatClampNeg) a' = some (a, T') → TOK T' (k + 1) := fun a' e => by
    cases hf : fdN T m.2 0 (m.1 3).toNatClampNeg with
    | none =>
      rw [hf] at e
      unfold wrS at e
      simp only at e
      obtain ⟨hn, e⟩ := ite_ns e
      rw [Prod.mk.injEq] at e
      · skip
        rw [← e.2, ← rcd_wrt]
        have hmk := h.mkr (w := fun x => m.2 x) hk (fun z => hn (Or.inl z)) (show (m.1 3).toNatClampNeg ≤ 200 by omega) (fun j hj e1 e2 => fdN_none hf j ⟨by have := h.e1 j hj; omega, hj, e1, fun x hx => by rw [Nat.zero_add]; exact e2 x hx⟩)
        have hzk : T.sz k = 0 := (h.e2 k (by cases e : T.ex k with | false => rfl | true => exact absurd (h.e1 k e) (by omega))).1
        refine hmk.wrt hk (show fup T.ex k true k = true from fup_s) ?_ ?_
        · show ¬ 8192 < T.sz k + (if _ then 0 else a' + _ - T.sz k)
          rw [hzk, Nat.sub_zero, Nat.zero_add]
          exact fun z => hn (Or.inr (Or.inl z))
        · show ¬ 32768 - T.tot < (if _ then 0 else a' + _ - T.sz k)
          rw [hzk, Nat.sub_zero]
          exact fun z => hn (Or.inr (Or.inr z))
    | some i =>
      rw [hf] at e
      unfold wrS at e
      simp only at e
      obtain ⟨hn, e⟩ := ite_ns e
      rw [Prod.mk.injEq] at e
      · skip
        rw [← e.2]
        exact h'.wrt hk (fdN_some hf).2.1 (fun z => hn (Or.inl z)) (fun z => hn (Or.inr z))
  unfold stp at e
  split at e
  · cases hf : fdN T m.2 0 (m.1 3).toNatClampNeg with
    | some i => rw [hf] at e; cases e
    | none =>
      rw [hf] at e
      simp only at e
      split at e
      · cases e
      · rename_i hn
        rw [Option.some.injEq, Prod.mk.injEq] at e
        rw [← e.2]
        exact h.mkr (w := fun x => m.2 x) hk hn (by omega) (fun j hj e1 e2 => fdN_none hf j ⟨by have := h.e1 j hj; omega, hj, e1, fun x hx => by rw [Nat.zero_add]; exact e2 x hx⟩)
  split at e
  · exact hwr _ e
  split at e
  · exact hwr _ e
  split at e
  · rename_i e3
    cases hf : fdN T m.2 0 (m.1 3).toNatClampNeg with
    | none => rw [hf] at e; cases e
    | some i =>
      rw [hf] at e
      simp only at e
      split at e
      · cases e
      · rename_i hn
        rw [Option.some.injEq, Prod.mk.injEq] at e
        rw [← e.2]
        have := (inR_c2 (m1 (Or.inr (Or.inl e3))) (by decide)).1
        exact h'.cut hk (fdN_some hf).2.1 (by omega) hn
  split at e
  · cases hf : fdN T m.2 0 (m.1 3).toNatClampNeg with
    | none => rw [hf] at e; cases e
    | some i =>
      rw [hf] at e
      simp only at e
      rw [Option.some.injEq, Prod.mk.injEq] at e
      rw [← e.2]
      exact h'.rem i
  split at e
  · cases hf : fdN T m.2 0 (m.1 3).toNatClampNeg with
    | none => rw [hf] at e; cases e
    | some i =>
      rw [hf] at e
      simp only at e
      have hfi := fdN_some hf
      cases hg : fdN T m.2 50 (m.1 4).toNatClampNeg with
      | none =>
        rw [hg] at e
        simp only at e
        rw [Option.some.injEq, Prod.mk.injEq] at e
        rw [← e.2]
        exact (h'.nam (i := i) (by omega) (fun j hj hne e1 e2 => fdN_none hg j ⟨by have := h.e1 j hj; omega, hj, e1, e2⟩)).ver (v := k) hfi.2.1 (fun p e hp => absurd hp (by omega)) (by omega)
      | some j =>
        rw [hg] at e
        simp only at e
        split at e
        · rw [Option.some.injEq, Prod.mk.injEq] at e
          rw [← e.2]
          exact h'
        · rename_i hne
          rw [Option.some.injEq, Prod.mk.injEq] at e
          rw [← e.2]
          have hex : (T.rem j).ex i = true := by
            show fup T.ex j false i = true
            rw [fup_n (fun z => hne z.symm)]
            exact hfi.2.1
          refine ((h'.rem j).nam (i := i) (by omega) (fun q hq hqi e1 e2 => ?_)).ver (v := k) hex (fun p e hp => absurd hp (by omega)) (by omega)
          have hq : fup T.ex j false q = true := hq
          by_cases ej : q = j
          · rw [ej, fup_s] at hq; cases hq
          · rw [fup_n ej] at hq
            exact ej (h.uq ⟨by have := h.e1 q hq; omega, hq, e1, e2⟩ (fdN_some hg))
  split at e
  · cases hf : fdN T m.2 0 (m.1 3).toNatClampNeg with
    | none => rw [hf] at e; cases e
    | some i =>
      rw [hf] at e
      simp only at e
      have hfi := fdN_some hf
      cases hg : fdN T m.2 50 (m.1 4).toNatClampNeg with
      | none => rw [hg] at e; cases e
      | some j =>
        rw [hg] at e
        simp only at e
        have hfj := fdN_some hg
        split at e
        · rw [Option.some.injEq, Prod.mk.injEq] at e
          rw [← e.2]
          exact h'
        · rename_i hne
          rw [Option.some.injEq, Prod.mk.injEq] at e
          rw [← e.2]
          have hs := h'.swp (wi := fun x => m.2 x) (wj := fun x => m.2 (50 + x)) hne hfi.2.1 hfj.2.1 hfi.2.2.1 (fun x hx => by have := hfi.2.2.2 x hx; rw [Nat.zero_add] at this; exact this) hfj.2.2.1 hfj.2.2.2
          exact (hs.ver (i := i) (v := k) hfi.2.1 (fun p e hp => absurd hp (by omega)) (by omega)).ver (i := j) (v := k) hfj.2.1 (fun p e hp => absurd hp (by omega)) (by omega)
  · cases e
theorem tsp_ok {ops : Nat → Mg} : ∀ {k : Nat}, k ≤ 512 → (∀ o, o < k → AQ ((ops o).1 0) ((ops o).1 1) ((ops o).1 2) ((ops o).1 3) ((ops o).1 4) ((ops o).1 5)) → TOK (tsp ops k) k
  | 0, _, _ => T0_ok
  | k + 1, hk, ho => by
    have h := tsp_ok (k := k) (by omega) (fun o h => ho o (by omega))
    show TOK (match stp (tsp ops k) k (ops k) with | some x => x.2 | none => tsp ops k) (k + 1)
    cases e : stp (tsp ops k) k (ops k) with
    | none => exact h.mono (Nat.le_succ k)
    | some x => exact h.step (by omega) (ho k (by omega)) e

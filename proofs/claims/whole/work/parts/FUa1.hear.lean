/-! what the leader hears, exactly -/
def psE (Z Z' : List Mg) : Prop := ∀ Y, psl Y Z = psl Y Z'
/-- the sender is heard of -/
def hrd (u : Nat → Int32) (D : Nat → Nat → Int32) : Nat → Nat → Int32 := va_up D 7 (upd (D 7) 9 ((D 7 9) ||| (1 <<< ((u 1) &&& 31))))
theorem hrd_n {u : Nat → Int32} {D : Nat → Nat → Int32} {q : Nat} (h : q ≠ 7) : hrd u D q = D q := va_up_n _ _ h
theorem hrd_7 {u : Nat → Int32} {D : Nat → Nat → Int32} {x : Nat} (h : x ≠ 9) : hrd u D 7 x = D 7 x := by
  unfold hrd
  rw [va_up_s, pk_un h]
/-- fill, exactly -/
theorem fill_x {nn gg : Nat} {C me : Int32} {f u b : Nat → Int32} {K A : Int64} {x : Int32} : ∀ (k i : Nat) (D : Nat → Nat → Int32), i + k ≤ 32 → ∃ D', (∀ Y, G_87 nn gg C me f u b x k i D K A Y = (D', K, A, Y)) ∧ (∀ q, q ≠ 18 → q ≠ 21 → D' q = D q) ∧ (∀ y, y ≠ 12 → D' 18 y = D 18 y) ∧ ∀ m, m < 32 → bt (D' 18 12) m = (bt (D 18 12) m && !decide (i ≤ m ∧ m < i + k ∧ D 18 3 = 2 ∧ ndB (D 18) m = x))
  | 0, i, D, _ => ⟨D, fun _ => rfl, fun _ _ _ => rfl, fun _ _ => rfl, fun m hm => by rw [decide_eq_false (by omega)]; simp⟩
  | k + 1, i, D, hk => by
    by_cases c1 : D 18 3 = 2
    · by_cases c2 : ndB (D 18) i = x
      · obtain ⟨D', r1, r2, r3, r4⟩ := fill_x (nn := nn) (gg := gg) (C := C) (me := me) (f := f) (u := u) (b := b) (K := K) (A := A) (x := x) k (i + 1) (va_up (va_up D 18 (upd (D 18) 12 ((D 18 12) &&& ((1 <<< ((nI i) &&& 31)) ^^^ (-1))))) 21 (va_cpy b (D 21) 0 (i * 128) 128)) (by omega)
        refine ⟨D', fun Y => ?_, fun q h1 h2 => by rw [r2 q h1 h2, va_up_n _ _ h2, va_up_n _ _ h1], fun y hy => by rw [r3 y hy, va_up_n _ _ (by decide), va_up_s, pk_un hy], fun m hm => ?_⟩
        · rw [G_87.eq_2, if_neg (fun z => z c1), if_neg (fun z => z c2)]
          exact r1 Y
        · rw [r4 m hm, va_up_n _ _ (by decide), va_up_s, pk_us, pk_un (by decide), bt_clr _ (by omega) hm]
          by_cases e : m = i
          · subst e
            rw [decide_eq_true (show m ≤ m ∧ m < m + (k + 1) ∧ D 18 3 = 2 ∧ ndB (D 18) m = x from ⟨Nat.le_refl _, by omega, c1, c2⟩), decide_eq_true rfl]; simp
          · have : ndB (upd (D 18) 12 ((D 18 12) &&& ((1 <<< ((nI i) &&& 31)) ^^^ (-1)))) m = ndB (D 18) m := by
              unfold ndB
              rw [pk_un (show (11 : Nat) ≠ 12 by decide), pk_un (show (7 : Nat) ≠ 12 by decide), pk_un (show (10 : Nat) ≠ 12 by decide), pk_us]
              have : (((D 18 12) &&& ((1 <<< ((nI i) &&& 31)) ^^^ (-1))) >>> (nI m &&& 31)) &&& 1 = 0 ↔ ((D 18 12) >>> (nI m &&& 31)) &&& 1 = 0 := by
                rw [bitz _ hm, bitz _ hm, bt_clr _ (by omega) hm, decide_eq_false e]; simp
              simp only [this]
            rw [this, decide_eq_false e]
            simp only [Bool.not_false, Bool.and_true]
            congr 2
            apply decide_eq_decide.mpr
            constructor
            · rintro ⟨a1, a2, a3, a4⟩; exact ⟨by omega, by omega, a3, a4⟩
            · rintro ⟨a1, a2, a3, a4⟩; exact ⟨by omega, by omega, a3, a4⟩
      · obtain ⟨D', r1, r2, r3, r4⟩ := fill_x (nn := nn) (gg := gg) (C := C) (me := me) (f := f) (u := u) (b := b) (K := K) (A := A) (x := x) k (i + 1) D (by omega)
        refine ⟨D', fun Y => ?_, r2, r3, fun m hm => ?_⟩
        · rw [G_87.eq_2, if_neg (fun z => z c1), if_pos c2]
          exact r1 Y
        · rw [r4 m hm]
          congr 2
          apply decide_eq_decide.mpr
          constructor
          · rintro ⟨a1, a2, a3, a4⟩; exact ⟨by omega, by omega, a3, a4⟩
          · rintro ⟨a1, a2, a3, a4⟩
            have : ¬ m = i := fun z => c2 (by rw [← z]; exact a4)
            exact ⟨by omega, by omega, a3, a4⟩
    · obtain ⟨D', r1, r2, r3, r4⟩ := fill_x (nn := nn) (gg := gg) (C := C) (me := me) (f := f) (u := u) (b := b) (K := K) (A := A) (x := x) k (i + 1) D (by omega)
      refine ⟨D', fun Y => ?_, r2, r3, fun m hm => ?_⟩
      · rw [G_87.eq_2, if_pos c1]
        exact r1 Y
      · rw [r4 m hm]
        congr 2
        apply decide_eq_decide.mpr
        constructor
        · rintro ⟨_, _, a3, _⟩; exact absurd a3 c1
        · rintro ⟨_, _, a3, _⟩; exact absurd a3 c1
theorem fill_n {nn gg : Nat} {C me : Int32} {f u b : Nat → Int32} {K A : Int64} {x : Int32} {D : Nat → Nat → Int32} {Y : List Mg} (h : ¬ D 18 3 = 2) : ∀ (k i : Nat), G_87 nn gg C me f u b x k i D K A Y = (D, K, A, Y)
  | 0, i => rfl
  | k + 1, i => by rw [G_87.eq_2, if_pos h]; exact fill_n h k (i + 1)
/-- an ITEM, exactly -/
def IX (nn : Nat) (g : Gh) (me : Int32) (k : Nat) (D : Nat → Nat → Int32) (K A : Int64) (D1 : Nat → Nat → Int32) (K1 A1 : Int64) (Z : List Mg) : Prop :=
  (nwO (D 16 960) (nI k) ∧ D1 16 960 = nI (k % 512) ∧ Nn g (D1 16 960) < Nn g (D 16 960) ∧ D1 7 10 = 0 ∧ D1 18 3 ≤ 1 ∧ (∀ z ∈ Z, z.1 0 = 4) ∧ D1 7 14 = 0 ∧ D1 18 4 = D 18 4) ∨
  (¬ nwO (D 16 960) (nI k) ∧
   ((D1 = D ∧ K1 = K ∧ A1 = A ∧ Z = [] ∧ ¬ nwT D K (nI k) ∧ ∀ a, a < 960 → ¬ a % 20 = 19 → ¬ fndI (D 15) (D 16) (nI k) = nI a) ∨
    (∃ fx, fx < 48 ∧ fndI (D 15) (D 16) (nI k) = nI (fx * 20 + 19) ∧ bq K fx = false ∧ knA K (D 10 9) = 0 ∧ K1 = K ||| (1 <<< ((nI fx).toInt64 &&& 63)) ∧ A1 = A ∧ (∀ q, q ≠ 12 → q ≠ 13 → q ≠ 14 → q ≠ 16 → D1 q = D q) ∧ D1 16 960 = D 16 960 ∧ (∀ a, a < 961 → ¬ D 16 a < 0 → D1 16 a = D 16 a) ∧
      ((knA K1 (D 10 9) = 0 ∧ Z = []) ∨ (¬ knA K1 (D 10 9) = 0 ∧ (∀ z ∈ Z, ∃ j, j < nn ∧ z = mLI me D j) ∧ ∀ j, j < nn → bt (D 7 10) j = false → mLI me D j ∈ Z))) ∨
    (∃ a, a < 960 ∧ ¬ a % 20 = 19 ∧ fndI (D 15) (D 16) (nI k) = nI a ∧ K1 = K ∧ A1 = A ∧ Z = [] ∧ (∀ q, q ≠ 18 → q ≠ 21 → D1 q = D q) ∧ (∀ y, y ≠ 12 → D1 18 y = D 18 y) ∧ ∀ m, m < 32 → bt (D1 18 12) m = (bt (D 18 12) m && !decide (D 18 3 = 2 ∧ ndB (D 18) m = nI a)))))
theorem item_x {P : Pm} {g : Gh} {e : Nat} {me : Int32} {u b : Nat → Int32} {D : Nat → Nat → Int32} {K A : Int64} {n k : Nat} (hG : GO g) (hb12 : g.bg ≤ g.sn + 12) (hgg : 0 < P.gg) (hnn : P.nn ≤ 6) (hk : k < 5243392) (h5 : u 5 = nI k) (hb1 : b 1 = nI k) (hB : Bg P g b) (h : LO P g e D K) :
    ∃ (D' : Nat → Nat → Int32) (K' A' : Int64) (Z : List Mg), (∀ Y, F_83 P.nn P.gg P.C me P.f u b D K A Y = (D', K', A', psl Y Z)) ∧ IX P.nn g me k D K A D' K' A' Z := by
  have h512 := hG.1
  obtain ⟨cc, cc1, htr, hroot⟩ := h.tab
  rcases rtB_or (nI k) with ⟨r0, r1⟩ | ⟨r0, t, r1, r2, r3⟩
  · have hno : ¬ nwO (D 16 960) (nI k) := fun z => z.1 r0
    have hnr : ¬ k / 10240 = 512 := r1 k (by omega) rfl
    rcases h.find hgg hk with ⟨z1, z2⟩ | ⟨a, a1, a2, a3, a4, a5, a6⟩
    · have hF : ∀ Y, F_83 P.nn P.gg P.C me P.f u b D K A Y = (D, K, A, psl Y []) := fun Y => by unfold F_83; rw [h5, if_pos r0, if_pos z1]; rfl
      refine ⟨D, K, A, [], hF, Or.inr ⟨hno, Or.inl ⟨rfl, rfl, rfl, rfl, fun z => ?_, fun a ha _ z => by rw [z1] at z; exact absurd z.symm (nIneg (by omega))⟩⟩⟩
      rcases z with z | ⟨a, q1, _, q3, _⟩
      · exact hno z
      · rw [z1] at q3; exact absurd q3.symm (nIneg (by omega))
    · have hcl : (fndI (D 15) (D 16) (nI k)).toNatClampNeg = a := by rw [a2, nI_clamp (by omega)]
      have hne : ¬ fndI (D 15) (D 16) (nI k) = -1 := by rw [a2]; exact nIneg (by omega)
      rcases a3 with ⟨z, _⟩ | ⟨p1, fx, f1, f2, f3⟩
      · exact absurd z hnr
      have hp : k / 512 % 20 < 20 := Nat.mod_lt _ (by decide)
      have ha20 : a % 20 = k / 512 % 20 := by omega
      have ha2 : a / 20 = fx := by omega
      have hua : ∀ a', a' < 960 → fndI (D 15) (D 16) (nI k) = nI a' → a' = a := fun a' h1 h2 => nI_inj (by omega) (by omega) (h2.symm.trans a2)
      by_cases c9 : k / 512 % 20 = 19
      · have hpre : ∀ Y, F_83 P.nn P.gg P.C me P.f u b D K A Y = bn5 (rcF (D 12) (D 13) (D 14) (D 16) K (D 15) b 0) (fun zf1 nf1 mf1 vf1 kn1 => if ¬ (knA K (D 10 9)) = 0 then (va_up (va_up (va_up (va_up D 12 zf1) 13 nf1) 14 mf1) 16 vf1, kn1, A, Y) else if (knA kn1 (D 10 9)) = 0 then (va_up (va_up (va_up (va_up D 12 zf1) 13 nf1) 14 mf1) 16 vf1, kn1, A, Y) else bnS (F_35 P.nn P.gg P.C me P.f u b (va_up (va_up (va_up (va_up D 12 zf1) 13 nf1) 14 mf1) 16 vf1) kn1 A Y) (fun D7 K7 A7 Y7 => (D7, K7, A7, Y7))) := fun Y => by
          unfold F_83
          rw [h5, if_pos r0, if_neg hne, bnN_e, hcl, if_neg (fun z => z (by rw [ha20, c9]; rfl))]
        have hfb : fndI (D 15) (D 16) (b (0 + 1)) = nI a := by rw [Nat.zero_add, hb1]; exact a2
        have hfc : (fndI (D 15) (D 16) (b (0 + 1))).toNatClampNeg = a := by rw [hfb, nI_clamp (by omega)]
        by_cases ck : bq K fx = true
        · have hrc : rcF (D 12) (D 13) (D 14) (D 16) K (D 15) b 0 = (D 12, D 13, D 14, D 16, K) := by
            unfold rcF
            rw [hfc, ha2, if_neg (fun z => by
              have := (knB_z K (show fx < 64 by omega)).mp z.2.2
              rw [ck] at this; cases this)]
          have hF : ∀ Y, F_83 P.nn P.gg P.C me P.f u b D K A Y = (D, K, A, psl Y []) := fun Y => by
            rw [hpre Y, hrc]
            show (if ¬ knA K (D 10 9) = 0 then (va_up (va_up (va_up (va_up D 12 (D 12)) 13 (D 13)) 14 (D 14)) 16 (D 16), K, A, Y) else _) = _
            simp only [vup_same]
            by_cases c1 : knA K (D 10 9) = 0
            · rw [if_neg (fun z => z c1), if_pos c1]; rfl
            · rw [if_pos c1]; rfl
          refine ⟨D, K, A, [], hF, Or.inr ⟨hno, Or.inl ⟨rfl, rfl, rfl, rfl, fun z => ?_, fun a' h1 h2 h3 => ?_⟩⟩⟩
          · rcases z with z | ⟨a', q1, _, q3, q4⟩
            · exact hno z
            · rw [hua a' q1 q3, ha2, ck] at q4; cases q4
          · rw [hua a' h1 h3, ha20] at h2; exact h2 c9
        · have ckf : bq K fx = false := by cases z : bq K fx with | true => exact absurd z ck | false => rfl
          have hrc : rcF (D 12) (D 13) (D 14) (D 16) K (D 15) b 0 = (upd (D 12) fx (b (0 + 15)), upd (D 13) fx (b (0 + 16)), va_cpy b (D 14) (0 + 17) (fx * 50) 50, va_cpy b (D 16) (0 + 67) (fx * 20) 19, K ||| (1 <<< ((nI fx).toInt64 &&& 63))) := by
            unfold rcF rcR
            rw [hfc, ha2, if_pos ⟨by rw [hfb]; exact nIneg (by omega), by omega, (knB_z K (show fx < 64 by omega)).mpr ckf⟩]
          have c1 : knA K (D 10 9) = 0 := by
            by_cases c : knA K (D 10 9) = 0
            · exact c
            · have := (htr.known.mp c) fx f1 (by rw [f2]; exact nIneg (by omega))
              exact absurd this ck
          generalize hD1 : va_up (va_up (va_up (va_up D 12 (upd (D 12) fx (b (0 + 15)))) 13 (upd (D 13) fx (b (0 + 16)))) 14 (va_cpy b (D 14) (0 + 17) (fx * 50) 50)) 16 (va_cpy b (D 16) (0 + 67) (fx * 20) 19) = D1
          have w1 : ∀ q, q ≠ 12 → q ≠ 13 → q ≠ 14 → q ≠ 16 → D1 q = D q := fun q a1 a2 a3 a4 => by rw [← hD1, va_up_n _ _ a4, va_up_n _ _ a3, va_up_n _ _ a2, va_up_n _ _ a1]
          have g16 : D1 16 = va_cpy b (D 16) (0 + 67) (fx * 20) 19 := by rw [← hD1, va_up_s]
          have g960 : D1 16 960 = D 16 960 := by rw [g16]; exact pk_cpy_out (by omega)
          have hv : ∀ a, a < 961 → ¬ D 16 a < 0 → D1 16 a = D 16 a := fun y hy hy2 => by
            rw [g16]
            refine pk_cpy_out ?_
            rcases Nat.lt_or_ge y (fx * 20) with q | q
            · exact Or.inl q
            · rcases Nat.lt_or_ge y (fx * 20 + 19) with q2 | q2
              · exfalso
                have := (htr.u1 (k / 10240) fx p1 f1 f2 ckf).2 (y - fx * 20) (by omega)
                rw [show fx * 20 + (y - fx * 20) = y by omega] at this
                rw [this] at hy2
                exact hy2 (by decide)
              · exact Or.inr q2
          have hpre2 : ∀ Y, F_83 P.nn P.gg P.C me P.f u b D K A Y = if (knA (K ||| (1 <<< ((nI fx).toInt64 &&& 63))) (D 10 9)) = 0 then (D1, K ||| (1 <<< ((nI fx).toInt64 &&& 63)), A, Y) else bnS (F_35 P.nn P.gg P.C me P.f u b D1 (K ||| (1 <<< ((nI fx).toInt64 &&& 63))) A Y) (fun D7 K7 A7 Y7 => (D7, K7, A7, Y7)) := fun Y => by
            rw [hpre Y, hrc]
            show (if ¬ knA K (D 10 9) = 0 then _ else if (knA (K ||| (1 <<< ((nI fx).toInt64 &&& 63))) (D 10 9)) = 0 then (va_up (va_up (va_up (va_up D 12 (upd (D 12) fx (b (0 + 15)))) 13 (upd (D 13) fx (b (0 + 16)))) 14 (va_cpy b (D 14) (0 + 17) (fx * 50) 50)) 16 (va_cpy b (D 16) (0 + 67) (fx * 20) 19), _, A, Y) else bnS (F_35 P.nn P.gg P.C me P.f u b (va_up (va_up (va_up (va_up D 12 (upd (D 12) fx (b (0 + 15)))) 13 (upd (D 13) fx (b (0 + 16)))) 14 (va_cpy b (D 14) (0 + 17) (fx * 50) 50)) 16 (va_cpy b (D 16) (0 + 67) (fx * 20) 19)) _ A Y) _) = _
            rw [if_neg (fun z => z c1), hD1]
          have hfx : fndI (D 15) (D 16) (nI k) = nI (fx * 20 + 19) := by rw [a2]; congr 1; omega
          by_cases c2 : knA (K ||| (1 <<< ((nI fx).toInt64 &&& 63))) (D 10 9) = 0
          · have hF : ∀ Y, F_83 P.nn P.gg P.C me P.f u b D K A Y = (D1, K ||| (1 <<< ((nI fx).toInt64 &&& 63)), A, psl Y []) := fun Y => by rw [hpre2 Y, if_pos c2]; rfl
            exact ⟨D1, _, A, [], hF, Or.inr ⟨hno, Or.inr (Or.inl ⟨fx, f1, hfx, ckf, c1, rfl, rfl, w1, g960, hv, Or.inl ⟨c2, rfl⟩⟩)⟩⟩
          · obtain ⟨Z, z1, z2, z3, z4, z5⟩ := poll_w (nn := P.nn) (gg := P.gg) (C := P.C) (me := me) (f := P.f) (u := u) (b := b) (D := D1) (K := K ||| (1 <<< ((nI fx).toInt64 &&& 63))) (A := A) hnn
            have hF : ∀ Y, F_83 P.nn P.gg P.C me P.f u b D K A Y = (D1, K ||| (1 <<< ((nI fx).toInt64 &&& 63)), A, psl Y Z) := fun Y => by rw [hpre2 Y, if_neg c2, z1 Y, bnS_e]
            have e7 : D1 7 = D 7 := w1 7 (by decide) (by decide) (by decide) (by decide)
            have eLI : ∀ j, mLI me D1 j = mLI me D j := fun j => by unfold mLI; rw [e7]
            refine ⟨D1, _, A, Z, hF, Or.inr ⟨hno, Or.inr (Or.inl ⟨fx, f1, hfx, ckf, c1, rfl, rfl, w1, g960, hv, Or.inr ⟨c2, fun z hz => ?_, fun j hj hc => ?_⟩⟩)⟩⟩
            · obtain ⟨j, j1, _, j3⟩ := z3 z hz
              exact ⟨j, j1, by rw [← eLI]; exact j3⟩
            · rw [← eLI]; exact z4 j hj (by rw [e7]; exact hc)
      · -- a STRIPE
        have hF0 : ∀ Y, F_83 P.nn P.gg P.C me P.f u b D K A Y = bnS (G_87 P.nn P.gg P.C me P.f u b (nI a) (D 18 11).toNatClampNeg 0 D K A Y) (fun D3 K3 A3 Y3 => (D3, K3, A3, Y3)) := fun Y => by
          unfold F_83
          rw [h5, if_pos r0, if_neg hne, bnN_e, hcl, if_pos (fun z => c9 (by rw [← ha20]; exact nI_inj (by omega) (by decide) z))]
          unfold F_87
          rw [bnN_e]
        by_cases s2 : D 18 3 = 2
        · have hc6 : ∃ c, c ≤ 6 ∧ D 18 11 = nI c := by
            rcases h.st with ⟨z, _⟩ | ⟨z, _⟩ | ⟨_, o, _, zo, _⟩ | ⟨z, _⟩ | ⟨z, _⟩
            · rw [s2] at z; exact absurd z (by decide)
            · rw [s2] at z; exact absurd z (by decide)
            · exact zo.c6
            · rw [s2] at z; exact absurd z (by decide)
            · rw [s2] at z; exact absurd z (by decide)
          obtain ⟨c, c6, hc⟩ := hc6
          have hcc : (D 18 11).toNatClampNeg = c := by rw [hc, nI_clamp (by omega)]
          obtain ⟨D', r1', r2', r3', r4'⟩ := fill_x (nn := P.nn) (gg := P.gg) (C := P.C) (me := me) (f := P.f) (u := u) (b := b) (K := K) (A := A) (x := nI a) c 0 D (by omega)
          refine ⟨D', K, A, [], fun Y => by rw [hF0 Y, hcc, r1' Y, bnS_e]; rfl, Or.inr ⟨hno, Or.inr (Or.inr ⟨a, by omega, by omega, a2, rfl, rfl, rfl, r2', r3', fun m hm => ?_⟩)⟩⟩
          rw [r4' m hm]
          congr 2
          apply decide_eq_decide.mpr
          constructor
          · rintro ⟨_, _, q3, q4⟩; exact ⟨q3, q4⟩
          · rintro ⟨q3, q4⟩
            refine ⟨Nat.zero_le _, ?_, q3, q4⟩
            unfold ndB at q4
            by_cases cd : nI m < D 18 11 ∧ ¬ (D 18 12 >>> (nI m &&& 31)) &&& 1 = 0
            · have := cd.1
              rw [hc] at this
              have := (nI_ltI (by omega) (by omega)).mp this
              omega
            · rw [if_neg cd] at q4
              exact absurd q4.symm (nIneg (by omega))
        · refine ⟨D, K, A, [], fun Y => by rw [hF0 Y, fill_n s2, bnS_e]; rfl, Or.inr ⟨hno, Or.inr (Or.inr ⟨a, by omega, by omega, a2, rfl, rfl, rfl, fun _ _ _ => rfl, fun _ _ => rfl, fun m hm => ?_⟩)⟩⟩
          rw [decide_eq_false (fun z => s2 z.1)]; simp
  · -- a ROOT
    have : t = k := nI_inj (by omega) (by omega) r2.symm
    subst this
    have hr0 : ¬ rtB (nI t) = 0 := by rw [r0]; decide
    have hkr := k_root r3 hk
    have hv5 : t % 512 < 512 := Nat.mod_lt _ (by decide)
    have hver : (nI t - nI t / 512 * 512 : Int32) = nI (t % 512) := ver_t (by omega)
    have hnf : ∀ a, a < 960 → ¬ fndI (D 15) (D 16) (nI t) = nI a := fun a ha z => by
      rcases h.find hgg hk with ⟨z1, _⟩ | ⟨a', a1, a2, a3, _⟩
      · rw [z1] at z; exact absurd z.symm (nIneg (by omega))
      · have : a' = a := nI_inj (by omega) (by omega) (a2.symm.trans z)
        rcases a3 with ⟨_, q⟩ | ⟨q, _⟩
        · omega
        · omega
    by_cases c : nI (t % 512) ≤ D 16 960
    · have hno : ¬ nwO (D 16 960) (nI t) := fun z => z.2 (by rw [hver]; exact c)
      have hF : ∀ Y, F_83 P.nn P.gg P.C me P.f u b D K A Y = (D, K, A, psl Y []) := fun Y => by unfold F_83; rw [h5, if_neg hr0, hver, if_pos c]; rfl
      refine ⟨D, K, A, [], hF, Or.inr ⟨hno, Or.inl ⟨rfl, rfl, rfl, rfl, fun z => ?_, fun a h1 _ h3 => hnf a h1 h3⟩⟩⟩
      rcases z with z | ⟨a, q1, _, q3, _⟩
      · exact hno z
      · exact hnf a q1 q3
    · have hnw : nwO (D 16 960) (nI t) := ⟨hr0, fun z => c (by rw [← hver]; exact z)⟩
      have hvb : t % 512 < g.bg := hB.1.ver hv5 (by rw [hb1, ← hkr])
      have huk : uk g (rtg (t % 512)) := by
        obtain ⟨k', k1, k2, k3⟩ := hB.2.2
        have : k' = t := nI_inj (by omega) (by omega) (k2.symm.trans hb1)
        rw [← hkr, ← this]; exact k3
      have hdec : Nn g (nI (t % 512)) < Nn g (D 16 960) := Nn_dec hG hb12 (by
        rcases hroot with z | ⟨v, v1, v2⟩
        · exact Or.inl z
        · exact Or.inr ⟨v, by omega, v2⟩) hvb huk c
      have key : ∀ (D1 : Nat → Nat → Int32), D1 7 10 = 0 → D1 7 14 = 0 → D1 18 4 = D 18 4 → D1 16 960 = nI (t % 512) → D1 18 3 ≤ 1 → (∀ Y, F_83 P.nn P.gg P.C me P.f u b D K A Y = bnS (F_35 P.nn P.gg P.C me P.f u b D1 0 0 Y) (fun D15 K15 A15 Y15 => (D15, K15, A15, Y15))) → ∃ (D' : Nat → Nat → Int32) (K' A' : Int64) (Z : List Mg), (∀ Y, F_83 P.nn P.gg P.C me P.f u b D K A Y = (D', K', A', psl Y Z)) ∧ IX P.nn g me t D K A D' K' A' Z := fun D1 q7 q14 q184 q16 q18 hf => by
        obtain ⟨Z, z1, _, z3, _⟩ := poll_w (nn := P.nn) (gg := P.gg) (C := P.C) (me := me) (f := P.f) (u := u) (b := b) (D := D1) (K := 0) (A := 0) hnn
        exact ⟨D1, 0, 0, Z, fun Y => by rw [hf Y, z1 Y, bnS_e], Or.inl ⟨hnw, q16, by rw [q16]; exact hdec, q7, q18, fun z hz => by
          obtain ⟨j, _, _, e⟩ := z3 z hz
          rw [e]; rfl, q14, q184⟩⟩
      have hb0 : (b (0 + 1)) - (b (0 + 1)) / 512 * 512 = nI (t % 512) := by rw [Nat.zero_add, hb1]; exact hver
      by_cases cs : D 18 3 ≤ 1
      · refine key _ ?_ ?_ ?_ ?_ ?_ (fun Y => by unfold F_83; rw [h5, if_neg hr0, hver, if_neg c, bnN_e, if_pos cs])
        · rw [va_up_n _ _ (by decide), va_up_n _ _ (by decide), va_up_n _ _ (by decide), va_up_n _ _ (by decide), va_up_n _ _ (by decide), va_up_n _ _ (by decide), va_up_s, pk_un (by decide), pk_us]
        · rw [va_up_n _ _ (by decide), va_up_n _ _ (by decide), va_up_n _ _ (by decide), va_up_n _ _ (by decide), va_up_n _ _ (by decide), va_up_n _ _ (by decide), va_up_s, pk_us]
        · (iterate 7 rw [va_up_n _ _ (by decide)])
        · rw [va_up_n _ _ (by decide), va_up_s, rrV_v, if_neg (by omega), pk_us]; exact hb0
        · rw [va_up_n _ _ (by decide), va_up_n _ _ (by decide), va_up_n _ _ (by decide), va_up_n _ _ (by decide), va_up_n _ _ (by decide), va_up_n _ _ (by decide), va_up_n _ _ (by decide)]; exact cs
      · refine key _ ?_ ?_ ?_ ?_ ?_ (fun Y => by unfold F_83; rw [h5, if_neg hr0, hver, if_neg c, bnN_e, if_neg cs])
        · rw [va_up_n _ _ (by decide), va_up_n _ _ (by decide), va_up_n _ _ (by decide), va_up_n _ _ (by decide), va_up_n _ _ (by decide), va_up_n _ _ (by decide), va_up_n _ _ (by decide), va_up_s, pk_un (by decide), pk_us]
        · rw [va_up_n _ _ (by decide), va_up_n _ _ (by decide), va_up_n _ _ (by decide), va_up_n _ _ (by decide), va_up_n _ _ (by decide), va_up_n _ _ (by decide), va_up_n _ _ (by decide), va_up_s, pk_us]
        · rw [va_up_s, pk_un (by decide)]
        · rw [va_up_n _ _ (by decide), va_up_n _ _ (by decide), va_up_s, rrV_v, if_neg (by omega), pk_us]; exact hb0
        · rw [va_up_s, pk_us]; decide
/-- what the leader hears -/
def HX (P : Pm) (g : Gh) (me : Int32) (u b : Nat → Int32) (D : Nat → Nat → Int32) (K A : Int64) (D1 : Nat → Nat → Int32) (K1 A1 : Int64) (Z : List Mg) : Prop :=
  (u 0 = 2 ∧ K1 = K ∧ A1 = A ∧ Z = [] ∧ (∀ q, q < 18 → D1 q = D q) ∧ ((D1 = D ∧ (u 5 < D 18 4 ∨ (u 5 = D 18 4 ∧ ¬ D 18 3 = 0) ∨ ¬ D 18 3 ≤ 1)) ∨ (D 18 3 ≤ 1 ∧ D1 18 3 = 1 ∧ D1 18 4 = u 5))) ∨
  (u 0 = 5 ∧ K1 = K ∧ ∃ (n cnt : Nat) (s2 s3 : Int32), n < P.nn ∧ u 1 = nI n ∧ u 7 = nI cnt ∧ cnt ≤ 280 ∧ (s2 = 0 ↔ ¬ (D 18 3 ≤ 1 ∧ ¬ knA K (D 10 9) = 0)) ∧ (s3 = 0 ↔ (s2 = 0 ∨ sfB (D 8) (D 11) (D 16) (D 17) P.gg 960 = 0)) ∧ LZ P.gg me u b s2 K n cnt 0 0 0 (hrd u D) A D1 A1 Z ∧ ∃ Z6, psE Z Z6 ∧ LY P.gg me u b s2 s3 K n cnt 0 0 0 (hrd u D) A D1 A1 Z6) ∨
  (u 0 = 7 ∧ ∃ n k, n < P.nn ∧ u 1 = nI n ∧ k < 5243392 ∧ u 5 = nI k ∧ IX P.nn g me k (hrd u D) K A D1 K1 A1 Z) ∨
  (u 0 = 8 ∧ K1 = K ∧ A1 = A ∧ Z = [] ∧ ∃ n, n < P.nn ∧ u 1 = nI n ∧ (∀ q, q ≠ 7 → q ≠ 17 → D1 q = D q) ∧ (∀ x, x ≠ 9 → x ≠ 10 → x ≠ 14 → D1 7 x = D 7 x) ∧ (∀ m, m < 32 → bt (D1 7 10) m = true → bt (D 7 10) m = true) ∧ (D1 7 14 = D 7 14 ∨ D1 7 14 = 0) ∧ (∀ a m, m < 32 → m ≠ n → bt (D1 17 a) m = bt (D 17 a) m) ∧ (∀ a, fndI (D 15) (D 16) (u 5) = nI a → a < 961 → bt (D1 17 a) n = false) ∧ (∀ a, ¬ fndI (D 15) (D 16) (u 5) = nI a → a < 961 → (fndI (D 15) (D 16) (u 5) = -1 ∨ ∃ a, a < 961 ∧ fndI (D 15) (D 16) (u 5) = nI a) → D1 17 a = D 17 a) ∧ (¬ fndI (D 15) (D 16) (u 5) = -1 → bt (D1 7 10) n = false ∧ D1 7 14 = 0)) ∨
  (u 0 = 11 ∧ K1 = K ∧ A1 = A ∧ Z = [] ∧ ∃ n, n < P.nn ∧ u 1 = nI n ∧ (∀ q, q ≠ 7 → q ≠ 17 → D1 q = D q) ∧ (∀ x, x ≠ 9 → x ≠ 10 → D1 7 x = D 7 x) ∧ (∀ m, m < 32 → bt (D1 7 10) m = true → bt (D 7 10) m = true) ∧ (bt (D1 7 10) n = true → ∀ j, j < (u 7).toNatClampNeg → ¬ fndI (D 15) (D 16) (b j) = -1) ∧ (∀ a m, m < 32 → bt (D 17 a) m = true → bt (D1 17 a) m = true) ∧ ∀ j a, j < (u 7).toNatClampNeg → a < 961 → fndI (D 15) (D 16) (b j) = nI a → bt (D1 17 a) n = true) ∨
  (¬ u 0 = 2 ∧ ¬ u 0 = 5 ∧ ¬ u 0 = 7 ∧ ¬ u 0 = 8 ∧ ¬ u 0 = 11 ∧ K1 = K ∧ A1 = A ∧ Z = [] ∧ D1 = hrd u D)
theorem hear_x {P : Pm} {g : Gh} {e : Nat} {me : Int32} {u b : Nat → Int32} {D D' : Nat → Nat → Int32} {K A K' A' : Int64} {Z : List Mg} (hG : GO g) (hb12 : g.bg ≤ g.sn + 12) (hgg : 0 < P.gg) (hnn : P.nn ≤ 6) (h : LO P g e D K) (hm : MO P g e (u, b)) (hs : MS P g (u, b))
    (hF : ∀ Y, F_67 P.nn P.gg P.C me P.f u b D K A Y = (D', K', A', psl Y Z)) : ∃ Z0, psE Z Z0 ∧ HX P g me u b D K A D' K' A' Z0 := by
  have fin : ∀ (D1 : Nat → Nat → Int32) (K1 A1 : Int64) (Z1 : List Mg), (∀ Y, F_67 P.nn P.gg P.C me P.f u b D K A Y = (D1, K1, A1, psl Y Z1)) → HX P g me u b D K A D1 K1 A1 Z1 → ∃ Z0, psE Z Z0 ∧ HX P g me u b D K A D' K' A' Z0 := fun D1 K1 A1 Z1 h1 h2 => by
    have e3 := (hF []).symm.trans (h1 [])
    rw [Prod.mk.injEq, Prod.mk.injEq, Prod.mk.injEq] at e3
    obtain ⟨e31, e32, e33, _⟩ := e3
    subst e31 e32 e33
    refine ⟨Z1, fun Y => ?_, h2⟩
    have e4 := (hF Y).symm.trans (h1 Y)
    rw [Prod.mk.injEq, Prod.mk.injEq, Prod.mk.injEq] at e4
    exact e4.2.2.2
  have h7 : LO P g e (hrd u D) K := h.f7 (pk_un (by decide)) (pk_un (by decide))
  by_cases c2 : u 0 = 2
  · obtain ⟨D1, r1, r2, _, r4⟩ := take_z (nn := P.nn) (gg := P.gg) (C := P.C) (me := me) (f := P.f) (u := u) (b := b) (g := g) (D := D) (K := K) (A := A) c2
    exact fin D1 K A [] (fun Y => by unfold F_67; rw [if_neg (fun z => z c2), r1 Y, bnS_e]; rfl) (Or.inl ⟨c2, rfl, rfl, rfl, r2, r4⟩)
  by_cases c5 : u 0 = 5
  · obtain ⟨n, n1, n2, n3⟩ := hm.ls (Or.inl c5)
    obtain ⟨cnt, k1, k2, k3, k4⟩ := hs.1 c5
    have n2 : u 1 = nI n := n2
    have k2 : u 7 = nI cnt := k2
    have hcl : (u 7).toNatClampNeg = cnt := by rw [k2, nI_clamp (by omega)]
    have hfd : ∀ j, 0 ≤ j → j < 0 + cnt → fdO (hrd u D) (b j) := fun j _ hj => by
      obtain ⟨k, a1, a2, _⟩ := k4 j (by omega)
      have a2 : b j = nI k := a2
      rw [a2]; exact h7.fdO hgg a1
    have q18 : hrd u D 18 3 = D 18 3 := by rw [hrd_n (by decide)]
    have q10 : hrd u D 10 9 = D 10 9 := by rw [hrd_n (by decide)]
    have qsf : sfB (hrd u D 8) (hrd u D 11) (hrd u D 16) (hrd u D 17) P.gg 960 = sfB (D 8) (D 11) (D 16) (D 17) P.gg 960 := by rw [hrd_n (by decide), hrd_n (by decide), hrd_n (by decide), hrd_n (by decide)]
    have hsure : ∃ s2 s3 : Int32, (∀ Y, F_70 P.nn P.gg P.C me P.f u b (hrd u D) K A Y = G_70 P.nn P.gg P.C me P.f u b s2 s3 cnt 0 0 0 (hrd u D) K A Y) ∧ (s2 = 0 ↔ ¬ (D 18 3 ≤ 1 ∧ ¬ knA K (D 10 9) = 0)) ∧ (s3 = 0 ↔ (s2 = 0 ∨ sfB (D 8) (D 11) (D 16) (D 17) P.gg 960 = 0)) := by
      by_cases e1 : acB (hrd u D 18 3) = 0
      · have e1' : D 18 3 ≤ 1 := by rw [← q18]; exact acB_le.mp e1
        by_cases e2 : knA K (hrd u D 10 9) = 0
        · exact ⟨0, 0, fun Y => by unfold F_70; rw [bnN_e, hcl, if_neg (fun z => z e1), if_pos e2], ⟨fun _ z => z.2 (by rw [← q10]; exact e2), fun _ => rfl⟩, ⟨fun _ => Or.inl rfl, fun _ => rfl⟩⟩
        · have e2' : ¬ knA K (D 10 9) = 0 := by rw [← q10]; exact e2
          by_cases e3 : sfB (hrd u D 8) (hrd u D 11) (hrd u D 16) (hrd u D 17) P.gg 960 = 0
          · exact ⟨1, 0, fun Y => by unfold F_70; rw [bnN_e, hcl, if_neg (fun z => z e1), if_neg e2, if_pos e3], ⟨fun z => absurd z (by decide), fun z => absurd ⟨e1', e2'⟩ z⟩, ⟨fun _ => Or.inr (by rw [← qsf]; exact e3), fun _ => rfl⟩⟩
          · refine ⟨1, 1, fun Y => by unfold F_70; rw [bnN_e, hcl, if_neg (fun z => z e1), if_neg e2, if_neg e3], ⟨fun z => absurd z (by decide), fun z => absurd ⟨e1', e2'⟩ z⟩, ⟨fun z => absurd z (by decide), fun z => ?_⟩⟩
            rcases z with z | z
            · exact absurd z (by decide)
            · exact absurd (by rw [qsf]; exact z) e3
      · exact ⟨0, 0, fun Y => by unfold F_70; rw [bnN_e, hcl, if_pos e1], ⟨fun _ z => e1 (acB_le.mpr (by rw [q18]; exact z.1)), fun _ => rfl⟩, ⟨fun _ => Or.inl rfl, fun _ => rfl⟩⟩
    obtain ⟨s2, s3, hF5, hs2, hs3⟩ := hsure
    obtain ⟨D1, A1, Z1, r1, r2⟩ := listed_z (nn := P.nn) (gg := P.gg) (C := P.C) (me := me) (f := P.f) (s2 := s2) (s3 := s3) (K := K) (show n < 32 by omega) n2 cnt 0 0 0 (hrd u D) A (by omega) hfd
    obtain ⟨D2, A2, Z2, t1, t2⟩ := listed_y (nn := P.nn) (gg := P.gg) (C := P.C) (me := me) (f := P.f) (s2 := s2) (s3 := s3) (K := K) (show n < 32 by omega) n2 cnt 0 0 0 (hrd u D) A (by omega) (fun j a b => (hfd j a b).1)
    have e3 := (r1 []).symm.trans (t1 [])
    rw [Prod.mk.injEq, Prod.mk.injEq, Prod.mk.injEq] at e3
    obtain ⟨e31, _, e33, _⟩ := e3
    subst e31 e33
    refine fin D1 K A1 Z1 (fun Y => ?_) (Or.inr (Or.inl ⟨c5, rfl, n, cnt, s2, s3, n1, n2, k2, by omega, hs2, hs3, r2, Z2, fun Y => ?_, t2⟩))
    · unfold F_67
      rw [if_pos c2, if_pos c5]
      have := r1 Y
      rw [nI_0] at this
      have e6 := hF5 Y
      unfold hrd at e6 this
      rw [e6, this, bnS_e]
    · have e4 := (r1 Y).symm.trans (t1 Y)
      rw [Prod.mk.injEq, Prod.mk.injEq, Prod.mk.injEq] at e4
      exact e4.2.2.2
  by_cases c7 : u 0 = 7
  · obtain ⟨n, k, n1, n2, n3, n4, n5, n6, n7⟩ := hm.it c7
    obtain ⟨D1, K1, A1, Z1, r1, r2⟩ := item_x (n := n) (me := me) (A := A) hG hb12 hgg hnn n3 n4 n5 n6 h7
    exact fin D1 K1 A1 Z1 (fun Y => by
      unfold F_67
      rw [if_pos c2, if_neg c5, if_neg (show ¬ u 0 = 6 by rw [c7]; decide), if_pos c7]
      have := r1 Y
      unfold hrd at this
      rw [this, bnS_e]) (Or.inr (Or.inr (Or.inl ⟨c7, n, k, n1, n2, n3, n4, r2⟩)))
  by_cases c8 : u 0 = 8
  · obtain ⟨n, n1, n2⟩ := hm.lk c8
    obtain ⟨D1, r1, r2, r3, r4, r5, r6, r7, r8, r9⟩ := lack_z (nn := P.nn) (gg := P.gg) (C := P.C) (me := me) (f := P.f) (u := u) (b := b) (D := hrd u D) (K := K) (A := A) (show n < 32 by omega) n2
    rw [hrd_7 (by decide)] at r5
    rw [hrd_n (show (15 : Nat) ≠ 7 by decide), hrd_n (show (16 : Nat) ≠ 7 by decide)] at r7 r8 r9
    refine fin D1 K A [] (fun Y => by
      unfold F_67
      rw [if_pos c2, if_neg c5, if_neg (show ¬ u 0 = 6 by rw [c8]; decide), if_neg c7, if_pos c8]
      have := r1 Y
      unfold hrd at this
      rw [this, bnS_e]; rfl) (Or.inr (Or.inr (Or.inr (Or.inl ⟨c8, rfl, rfl, rfl, n, n1, n2, fun q a b => by rw [r2 q a b, hrd_n a], fun x a b c => by rw [r3 x b c, hrd_7 a], fun m hm hb => by
        have := r4 m hm hb
        rw [hrd_7 (by decide)] at this; exact this, r5, fun a m hm hne => by rw [r6 a m hm hne, hrd_n (by decide)], r7, fun a h1 h2 h3 => by rw [r8 a h1 h2 h3, hrd_n (by decide)], r9⟩))))
  by_cases c11 : u 0 = 11
  · obtain ⟨n, n1, n2, n3⟩ := hm.ls (Or.inr c11)
    have n2 : u 1 = nI n := n2
    obtain ⟨D1, r1, r2, r3, r4, r5, r6, r7⟩ := have_z (nn := P.nn) (gg := P.gg) (C := P.C) (me := me) (f := P.f) (u := u) (b := b) (K := K) (A := A) (show n < 32 by omega) n2 (u 7).toNatClampNeg 0 (hrd u D) (fun j _ hj => by
      obtain ⟨k, a1, a2, _⟩ := n3 j (by rw [Nat.zero_add] at hj; exact hj)
      have a1 : b j = nI k := a1
      rw [a1]; exact (h7.fdO hgg a2).1)
    rw [hrd_n (show (15 : Nat) ≠ 7 by decide), hrd_n (show (16 : Nat) ≠ 7 by decide)] at r5 r7
    refine fin D1 K A [] (fun Y => by
      unfold F_67
      rw [if_pos c2, if_neg c5, if_neg (show ¬ u 0 = 6 by rw [c11]; decide), if_neg c7, if_neg c8, if_neg (show ¬ u 0 = 9 by rw [c11]; decide), if_neg (show ¬ u 0 = 10 by rw [c11]; decide), if_pos c11]
      unfold F_89
      rw [bnN_e]
      have := r1 Y
      unfold hrd at this
      rw [this, bnS_e]; rfl) (Or.inr (Or.inr (Or.inr (Or.inr (Or.inl ⟨c11, rfl, rfl, rfl, n, n1, n2, fun q a b => by rw [r2 q a b, hrd_n a], fun x a b => by rw [r3 x b, hrd_7 a], fun m hm hb => by
        have := r4 m hm hb
        rw [hrd_7 (by decide)] at this; exact this, fun hb j hj => r5 hb j (Nat.zero_le _) (by omega), fun a m hm hb => r6 a m hm (by rw [hrd_n (by decide)]; exact hb), fun j a hj ha hf => r7 j a (Nat.zero_le _) (by omega) ha hf⟩)))))
  · refine fin (hrd u D) K A [] (fun Y => ?_) (Or.inr (Or.inr (Or.inr (Or.inr (Or.inr ⟨c2, c5, c7, c8, c11, rfl, rfl, rfl, rfl⟩)))))
    unfold F_67
    rw [if_pos c2, if_neg c5]
    by_cases c6 : u 0 = 6
    · rw [if_pos c6]; rfl
    · rw [if_neg c6, if_neg c7, if_neg c8]
      by_cases c9 : u 0 = 9
      · rw [if_pos c9]; rfl
      · rw [if_neg c9]
        by_cases c10 : u 0 = 10
        · rw [if_pos c10]; rfl
        · rw [if_neg c10, if_neg c11]; rfl

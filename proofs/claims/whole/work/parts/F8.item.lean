/-! an ITEM comes to the leader -/
theorem k_root {k : Nat} (h : k / 10240 = 512) (hk : k < 5243392) : k = rtg (k % 512) := by
  unfold rtg tgN
  omega
theorem item_z {P : Pm} {g : Gh} {e : Nat} {me : Int32} {u b : Nat → Int32} {D : Nat → Nat → Int32} {K A : Int64} {n k : Nat} (hG : GO g) (hb12 : g.bg ≤ g.sn + 12) (hgg : 0 < P.gg) (hnn : P.nn ≤ 6) (hn : n < P.nn) (hu : u 1 = nI n) (h0 : u 0 = 7) (hk : k < 5243392) (h5 : u 5 = nI k) (hb1 : b 1 = nI k) (hB : Bg P g b) (hr : g.rep e n k) (h : LO P g e D K) :
    ∃ (D' : Nat → Nat → Int32) (K' A' : Int64) (Z : List Mg), (∀ Y, F_83 P.nn P.gg P.C me P.f u b D K A Y = (D', K', A', psl Y Z)) ∧ HRl P.nn P.gg me g u b D K A D' K' A' Z ∧ LO P g e D' K' ∧ (∀ q, q < 7 → D' q = D q) ∧ D' 8 = D 8 ∧ (∀ x, x ≠ 10 → x ≠ 14 → D' 7 x = D 7 x) ∧
      (¬ nwO (D 16 960) (nI k) → D' 16 960 = D 16 960 ∧ (∀ f, f < 48 → bq K f = true → bq K' f = true) ∧ ∀ a, a < 960 → a % 20 = 19 → fndI (D 15) (D 16) (nI k) = nI a → bq K' (a / 20) = true) ∧ (nwO (D 16 960) (nI k) → D' 16 960 = nI (k % 512)) := by
  have h512 := hG.1
  have w7 : wk (Nn g (D 16 960)) (u 0) = 1 := by rw [h0]; rfl
  have h11 : ¬ u 0 = 11 := by rw [h0]; decide
  have lo : ∀ (D' : Nat → Nat → Int32) (K' A' : Int64) (Z : List Mg), (∀ Y, F_83 P.nn P.gg P.C me P.f u b D K A Y = (D', K', A', psl Y Z)) → LO P g e D' K' := fun D' K' A' Z hz => by
    obtain ⟨D2, K2, A2, Y2, e1, e2, _⟩ := item_lem (me := me) (u := u) (A := A) (Y := []) hG hgg hnn hn hu hk h5 hb1 hB hr h (fun y hy => by cases hy)
    have e3 := (hz []).symm.trans e1
    rw [Prod.mk.injEq, Prod.mk.injEq] at e3
    rw [e3.1, e3.2.1]; exact e2
  obtain ⟨cc, cc1, htr, hroot⟩ := h.tab
  have same : ∀ D' : Nat → Nat → Int32, D' 16 = D 16 → D' 10 = D 10 → D' 18 3 = D 18 3 → D' 7 = D 7 → D' 8 = D 8 → D' 11 = D 11 → D' 15 = D 15 → D' 17 = D 17 → HRl P.nn P.gg me g u b D K A D' K A [] := fun D' e16 e10 e18 e7 e8 e11 e15 e17 => HRl.no (by rw [e16]) (by rw [e10]) (by rw [e18, w7]; exact Nat.le_refl _) (CLh.same h11 (fun z => by rw [← e18]; exact z) (fun _ _ z => by rw [← e7]; exact z) e8 e11 e15 e16 e17)
  rcases rtB_or (nI k) with ⟨r0, r1⟩ | ⟨r0, t, r1, r2, r3⟩
  · have hno : ¬ nwO (D 16 960) (nI k) := fun z => z.1 r0
    have hnr : ¬ k / 10240 = 512 := r1 k (by omega) rfl
    rcases h.find hgg hk with ⟨z1, z2⟩ | ⟨a, a1, a2, a3, a4, a5, a6⟩
    · have hF : ∀ Y, F_83 P.nn P.gg P.C me P.f u b D K A Y = (D, K, A, psl Y []) := fun Y => by unfold F_83; rw [h5, if_pos r0, if_pos z1]; rfl
      refine ⟨D, K, A, [], hF, same D rfl rfl rfl rfl rfl rfl rfl rfl, h, fun _ _ => rfl, rfl, fun _ _ _ => rfl, fun _ => ⟨rfl, fun _ _ z => z, fun a h1 h2 h3 => ?_⟩, fun z => absurd z hno⟩
      rw [z1] at h3; exact absurd h3.symm (nIneg (by omega))
    · have hcl : (fndI (D 15) (D 16) (nI k)).toNatClampNeg = a := by rw [a2, nI_clamp (by omega)]
      have hne : ¬ fndI (D 15) (D 16) (nI k) = -1 := by rw [a2]; exact nIneg (by omega)
      rcases a3 with ⟨z, _⟩ | ⟨p1, fx, f1, f2, f3⟩
      · exact absurd z hnr
      have hp : k / 512 % 20 < 20 := Nat.mod_lt _ (by decide)
      have ha20 : a % 20 = k / 512 % 20 := by omega
      have ha2 : a / 20 = fx := by omega
      have hua : ∀ a', a' < 960 → fndI (D 15) (D 16) (nI k) = nI a' → a' = a := fun a' h1 h2 => nI_inj (by omega) (by omega) (h2.symm.trans a2)
      by_cases c9 : k / 512 % 20 = 19
      · have hpre : ∀ Y, F_83 P.nn P.gg P.C me P.f u b D K A Y = bn5 (rcF (D 12) (D 13) (D 14) (D 16) K (D 15) b 0) (fun zf1 nf1 mf1 vf1 kn1 => if ¬ (knA K (D 10 9)) = 0 then (va_up (va_up (va_up (va_up D 12 zf1) 13 nf1) 14 mf1) 16 vf1, kn1, A, Y) else if (knA kn1 (D 10 9)) = 0 then (va_up (va_up (va_up (va_up D 12 zf1) 13 nf1) 14 mf1) 16 vf1, kn1, A, Y) else bnS (F_35 P.nn P.gg P.C me P.f u b (va_up (va_up (va_up (va_up D 12 zf1) 13 nf1) 14 mf1) 16 vf1) kn1 A Y) (fun D7 K7 A7 Y7 => (D7, K7, A7, Y7))) := fun Y => by
          unfold F_83
          rw [h5, if_pos r0, if_neg hne, bnN_e, hcl, if_neg (fun z => z (by rw [ha20, c9]; rfl))]
        have hfb : fndI (D 15) (D 16) (b (0 + 1)) = nI a := by rw [Nat.zero_add, hb1]; exact a2
        have hfc : (fndI (D 15) (D 16) (b (0 + 1))).toNatClampNeg = a := by rw [hfb, nI_clamp (by omega)]
        by_cases ck : bq K fx = true
        · have hrc : rcF (D 12) (D 13) (D 14) (D 16) K (D 15) b 0 = (D 12, D 13, D 14, D 16, K) := by
            unfold rcF
            rw [hfc, ha2, if_neg (fun z => by
              have := (knB_z K (show fx < 64 by omega)).mp z.2.2
              rw [ck] at this; cases this)]
          have hF : ∀ Y, F_83 P.nn P.gg P.C me P.f u b D K A Y = (D, K, A, psl Y []) := fun Y => by
            rw [hpre Y, hrc]
            show (if ¬ knA K (D 10 9) = 0 then (va_up (va_up (va_up (va_up D 12 (D 12)) 13 (D 13)) 14 (D 14)) 16 (D 16), K, A, Y) else _) = _
            simp only [vup_same]
            by_cases c1 : knA K (D 10 9) = 0
            · rw [if_neg (fun z => z c1), if_pos c1]; rfl
            · rw [if_pos c1]; rfl
          refine ⟨D, K, A, [], hF, same D rfl rfl rfl rfl rfl rfl rfl rfl, h, fun _ _ => rfl, rfl, fun _ _ _ => rfl, fun _ => ⟨rfl, fun _ _ z => z, fun a' h1 h2 h3 => ?_⟩, fun z => absurd z hno⟩
          rw [hua a' h1 h3, ha2]; exact ck
        · have ckf : bq K fx = false := by cases z : bq K fx with | true => exact absurd z ck | false => rfl
          have hrc : rcF (D 12) (D 13) (D 14) (D 16) K (D 15) b 0 = (upd (D 12) fx (b (0 + 15)), upd (D 13) fx (b (0 + 16)), va_cpy b (D 14) (0 + 17) (fx * 50) 50, va_cpy b (D 16) (0 + 67) (fx * 20) 19, K ||| (1 <<< ((nI fx).toInt64 &&& 63))) := by
            unfold rcF rcR
            rw [hfc, ha2, if_pos ⟨by rw [hfb]; exact nIneg (by omega), by omega, (knB_z K (show fx < 64 by omega)).mpr ckf⟩]
          have c1 : knA K (D 10 9) = 0 := by
            by_cases c : knA K (D 10 9) = 0
            · exact c
            · have := (htr.known.mp c) fx f1 (by rw [f2]; exact nIneg (by omega))
              exact absurd this ck
          generalize hD1 : va_up (va_up (va_up (va_up D 12 (upd (D 12) fx (b (0 + 15)))) 13 (upd (D 13) fx (b (0 + 16)))) 14 (va_cpy b (D 14) (0 + 17) (fx * 50) 50)) 16 (va_cpy b (D 16) (0 + 67) (fx * 20) 19) = D1
          have w1 : ∀ q, q ≠ 12 → q ≠ 13 → q ≠ 14 → q ≠ 16 → D1 q = D q := fun q a1 a2 a3 a4 => by rw [← hD1, va_up_n _ _ a4, va_up_n _ _ a3, va_up_n _ _ a2, va_up_n _ _ a1]
          have g16 : D1 16 = va_cpy b (D 16) (0 + 67) (fx * 20) 19 := by rw [← hD1, va_up_s]
          have g960 : D1 16 960 = D 16 960 := by rw [g16]; exact pk_cpy_out (by omega)
          have hv : ∀ a, a < 961 → ¬ D 16 a < 0 → D1 16 a = D 16 a := fun y hy hy2 => by
            rw [g16]
            refine pk_cpy_out ?_
            rcases Nat.lt_or_ge y (fx * 20) with q | q
            · exact Or.inl q
            · rcases Nat.lt_or_ge y (fx * 20 + 19) with q2 | q2
              · exfalso
                have := (htr.u1 (k / 10240) fx p1 f1 f2 ckf).2 (y - fx * 20) (by omega)
                rw [show fx * 20 + (y - fx * 20) = y by omega] at this
                rw [this] at hy2
                exact hy2 (by decide)
              · exact Or.inr q2
          have hpre2 : ∀ Y, F_83 P.nn P.gg P.C me P.f u b D K A Y = if (knA (K ||| (1 <<< ((nI fx).toInt64 &&& 63))) (D 10 9)) = 0 then (D1, K ||| (1 <<< ((nI fx).toInt64 &&& 63)), A, Y) else bnS (F_35 P.nn P.gg P.C me P.f u b D1 (K ||| (1 <<< ((nI fx).toInt64 &&& 63))) A Y) (fun D7 K7 A7 Y7 => (D7, K7, A7, Y7)) := fun Y => by
            rw [hpre Y, hrc]
            show (if ¬ knA K (D 10 9) = 0 then _ else if (knA (K ||| (1 <<< ((nI fx).toInt64 &&& 63))) (D 10 9)) = 0 then (va_up (va_up (va_up (va_up D 12 (upd (D 12) fx (b (0 + 15)))) 13 (upd (D 13) fx (b (0 + 16)))) 14 (va_cpy b (D 14) (0 + 17) (fx * 50) 50)) 16 (va_cpy b (D 16) (0 + 67) (fx * 20) 19), _, A, Y) else bnS (F_35 P.nn P.gg P.C me P.f u b (va_up (va_up (va_up (va_up D 12 (upd (D 12) fx (b (0 + 15)))) 13 (upd (D 13) fx (b (0 + 16)))) 14 (va_cpy b (D 14) (0 + 17) (fx * 50) 50)) 16 (va_cpy b (D 16) (0 + 67) (fx * 20) 19)) _ A Y) _) = _
            rw [if_neg (fun z => z c1), hD1]
          have hCL : LO P g e D1 (K ||| (1 <<< ((nI fx).toInt64 &&& 63))) → CLh P.gg u b D D1 := fun hl n' hn' s1 s2 => Or.inl ⟨by rw [← w1 18 (by decide) (by decide) (by decide) (by decide)]; exact s1, by rw [← w1 7 (by decide) (by decide) (by decide) (by decide)]; exact s2, fun k' hk' hp => KP_mono hgg h hl (w1 11 (by decide) (by decide) (by decide) (by decide)) (w1 15 (by decide) (by decide) (by decide) (by decide)) (w1 17 (by decide) (by decide) (by decide) (by decide)) hv hk' hp, fun z => absurd z h11⟩
          have hKm : ∀ f, f < 48 → bq K f = true → bq (K ||| (1 <<< ((nI fx).toInt64 &&& 63))) f = true := fun f' hf' z => by rw [q_set K (by omega) (by omega), z]; rfl
          have hKn : ∀ a, a < 960 → a % 20 = 19 → fndI (D 15) (D 16) (nI k) = nI a → bq (K ||| (1 <<< ((nI fx).toInt64 &&& 63))) (a / 20) = true := fun a' b1 _ b3 => by
            rw [hua a' b1 b3, ha2, q_set K (by omega) (by omega), decide_eq_true rfl, Bool.or_true]
          by_cases c2 : knA (K ||| (1 <<< ((nI fx).toInt64 &&& 63))) (D 10 9) = 0
          · have hF : ∀ Y, F_83 P.nn P.gg P.C me P.f u b D K A Y = (D1, K ||| (1 <<< ((nI fx).toInt64 &&& 63)), A, psl Y []) := fun Y => by rw [hpre2 Y, if_pos c2]; rfl
            have hl := lo _ _ _ _ hF
            refine ⟨D1, _, A, [], hF, ⟨by rw [g960]; exact Nat.le_refl _, ?_, hCL hl, fun z hz => (by cases hz), LOr.nil⟩, hl, fun q hq => w1 q (by omega) (by omega) (by omega) (by omega), w1 8 (by decide) (by decide) (by decide) (by decide), fun x _ _ => by rw [w1 7 (by decide) (by decide) (by decide) (by decide)], fun _ => ⟨g960, hKm, hKn⟩, fun z => absurd z hno⟩
            unfold Ph
            rw [g960, w1 10 (by decide) (by decide) (by decide) (by decide), w1 18 (by decide) (by decide) (by decide) (by decide), if_pos c2, if_pos c1, w7]
            show 0 + _ + 1 ≤ _
            omega
          · obtain ⟨Z, z1, z2, z3, _, z5⟩ := poll_w (nn := P.nn) (gg := P.gg) (C := P.C) (me := me) (f := P.f) (u := u) (b := b) (D := D1) (K := K ||| (1 <<< ((nI fx).toInt64 &&& 63))) (A := A) hnn
            have hF : ∀ Y, F_83 P.nn P.gg P.C me P.f u b D K A Y = (D1, K ||| (1 <<< ((nI fx).toInt64 &&& 63)), A, psl Y Z) := fun Y => by rw [hpre2 Y, if_neg c2, z1 Y, bnS_e]
            have hl := lo _ _ _ _ hF
            refine ⟨D1, _, A, Z, hF, ⟨by rw [g960]; exact Nat.le_refl _, ?_, hCL hl, fun z hz => ?_, ?_⟩, hl, fun q hq => w1 q (by omega) (by omega) (by omega) (by omega), w1 8 (by decide) (by decide) (by decide) (by decide), fun x _ _ => by rw [w1 7 (by decide) (by decide) (by decide) (by decide)], fun _ => ⟨g960, hKm, hKn⟩, fun z => absurd z hno⟩
            · have := z2 (Nn g (D 16 960))
              unfold Ph
              rw [g960, w1 10 (by decide) (by decide) (by decide) (by decide), w1 18 (by decide) (by decide) (by decide) (by decide), if_neg c2, if_pos c1, w7]
              omega
            · obtain ⟨j, j1, _, j3⟩ := z3 z hz
              exact Or.inl ⟨j, j1, by rw [j3]; unfold mLI; rw [w1 7 (by decide) (by decide) (by decide) (by decide)]⟩
            · have hidle : D 18 3 ≤ 1 := by
                by_cases c : D 18 3 ≤ 1
                · exact c
                · have := h.act c fx f1 (by rw [f2]; exact nIneg (by omega))
                  rw [ckf] at this; cases this
              have := z5.up (by rw [w1 18 (by decide) (by decide) (by decide) (by decide)]; exact Int32.le_trans hidle (by decide))
              unfold LOr mLI at this ⊢
              rw [w1 7 (by decide) (by decide) (by decide) (by decide), w1 18 (by decide) (by decide) (by decide) (by decide)] at this
              exact this
      · -- a STRIPE
        obtain ⟨D', r1', r2', r3'⟩ := fill_z (nn := P.nn) (gg := P.gg) (C := P.C) (me := me) (f := P.f) (u := u) (b := b) (K := K) (A := A) (x := nI a) (D 18 11).toNatClampNeg 0 D
        have hF : ∀ Y, F_83 P.nn P.gg P.C me P.f u b D K A Y = (D', K, A, psl Y []) := fun Y => by
          unfold F_83
          rw [h5, if_pos r0, if_neg hne, bnN_e, hcl, if_pos (fun z => c9 (by rw [← ha20]; exact nI_inj (by omega) (by decide) z))]
          unfold F_87
          rw [bnN_e, r1' Y, bnS_e]; rfl
        refine ⟨D', K, A, [], hF, same D' (r2' 16 (by decide) (by decide)) (r2' 10 (by decide) (by decide)) (r3' 3 (by decide)) (r2' 7 (by decide) (by decide)) (r2' 8 (by decide) (by decide)) (r2' 11 (by decide) (by decide)) (r2' 15 (by decide) (by decide)) (r2' 17 (by decide) (by decide)), lo _ _ _ _ hF, fun q hq => r2' q (by omega) (by omega), r2' 8 (by decide) (by decide), fun x _ _ => by rw [r2' 7 (by decide) (by decide)], fun _ => ⟨by rw [r2' 16 (by decide) (by decide)], fun _ _ z => z, fun a' h1 h2 h3 => ?_⟩, fun z => absurd z hno⟩
        rw [hua a' h1 h3] at h2
        omega
  · -- a ROOT
    have : t = k := nI_inj (by omega) (by omega) r2.symm
    subst this
    have hr0 : ¬ rtB (nI t) = 0 := by rw [r0]; decide
    have hkr := k_root r3 hk
    have hv5 : t % 512 < 512 := Nat.mod_lt _ (by decide)
    have hver : (nI t - nI t / 512 * 512 : Int32) = nI (t % 512) := ver_t (by omega)
    by_cases c : nI (t % 512) ≤ D 16 960
    · have hno : ¬ nwO (D 16 960) (nI t) := fun z => z.2 (by rw [hver]; exact c)
      have hF : ∀ Y, F_83 P.nn P.gg P.C me P.f u b D K A Y = (D, K, A, psl Y []) := fun Y => by unfold F_83; rw [h5, if_neg hr0, hver, if_pos c]; rfl
      refine ⟨D, K, A, [], hF, same D rfl rfl rfl rfl rfl rfl rfl rfl, h, fun _ _ => rfl, rfl, fun _ _ _ => rfl, fun _ => ⟨rfl, fun _ _ z => z, fun a h1 h2 h3 => ?_⟩, fun z => absurd z hno⟩
      rcases h.find hgg hk with ⟨z1, _⟩ | ⟨a', a1, a2, a3, _⟩
      · rw [z1] at h3; exact absurd h3.symm (nIneg (by omega))
      · have : a' = a := nI_inj (by omega) (by omega) (a2.symm.trans h3)
        rcases a3 with ⟨_, z⟩ | ⟨z, _⟩
        · omega
        · omega
    · have hnw : nwO (D 16 960) (nI t) := ⟨hr0, fun z => c (by rw [← hver]; exact z)⟩
      have hvb : t % 512 < g.bg := hB.1.ver hv5 (by rw [hb1, ← hkr])
      have huk : uk g (rtg (t % 512)) := by
        obtain ⟨k', k1, k2, k3⟩ := hB.2.2
        have : k' = t := nI_inj (by omega) (by omega) (k2.symm.trans hb1)
        rw [← hkr, ← this]; exact k3
      have hdec : Nn g (nI (t % 512)) < Nn g (D 16 960) := Nn_dec hG hb12 (by
        rcases hroot with z | ⟨v, v1, v2⟩
        · exact Or.inl z
        · exact Or.inr ⟨v, by omega, v2⟩) hvb huk c
      have key : ∀ (D1 : Nat → Nat → Int32), (∀ q, q < 7 ∨ q = 8 → D1 q = D q) → D1 7 = upd (upd (D 7) 10 0) 14 0 → D1 16 960 = nI (t % 512) → (∀ Y, F_83 P.nn P.gg P.C me P.f u b D K A Y = bnS (F_35 P.nn P.gg P.C me P.f u b D1 0 0 Y) (fun D15 K15 A15 Y15 => (D15, K15, A15, Y15))) → ∃ (D' : Nat → Nat → Int32) (K' A' : Int64) (Z : List Mg), (∀ Y, F_83 P.nn P.gg P.C me P.f u b D K A Y = (D', K', A', psl Y Z)) ∧ HRl P.nn P.gg me g u b D K A D' K' A' Z ∧ LO P g e D' K' ∧ (∀ q, q < 7 → D' q = D q) ∧ D' 8 = D 8 ∧ (∀ x, x ≠ 10 → x ≠ 14 → D' 7 x = D 7 x) ∧ (¬ nwO (D 16 960) (nI t) → D' 16 960 = D 16 960 ∧ (∀ f, f < 48 → bq K f = true → bq K' f = true) ∧ ∀ a, a < 960 → a % 20 = 19 → fndI (D 15) (D 16) (nI t) = nI a → bq K' (a / 20) = true) ∧ (nwO (D 16 960) (nI t) → D' 16 960 = nI (t % 512)) := fun D1 q1 q7 q16 hf => by
        obtain ⟨Z, z1, z2, z3, _, z5⟩ := poll_w (nn := P.nn) (gg := P.gg) (C := P.C) (me := me) (f := P.f) (u := u) (b := b) (D := D1) (K := 0) (A := 0) hnn
        have hF : ∀ Y, F_83 P.nn P.gg P.C me P.f u b D K A Y = (D1, 0, 0, psl Y Z) := fun Y => by rw [hf Y, z1 Y, bnS_e]
        refine ⟨D1, 0, 0, Z, hF, ⟨by rw [q16]; exact Nat.le_of_lt hdec, ?_, CLh.none (by rw [q7, pk_un (by decide), pk_us]), fun z hz => ?_, z5.all (by rw [q7, pk_un (by decide), pk_us]) (fun j => by unfold mLI; rw [q7, pk_un (by decide), pk_un (by decide), pk_un (by decide), pk_un (by decide)])⟩, lo _ _ _ _ hF, fun q hq => q1 q (Or.inl hq), q1 8 (Or.inr rfl), fun x h1 h2 => by rw [q7, pk_un h2, pk_un h1], fun z => absurd hnw z, fun _ => q16⟩
        · have e1 := z2 (Nn g (nI (t % 512)))
          have e2 := TN_lt hdec
          have e3 := wSt_le (D1 18 3)
          have e4 := zA_le 0
          have e5 : (if knA 0 (D1 10 9) = 0 then 6 * (12 + 2 * Nn g (nI (t % 512))) else 0) ≤ 6 * (12 + 2 * Nn g (nI (t % 512))) := by split <;> omega
          unfold Ph
          rw [q16, w7]
          generalize (if knA 0 (D1 10 9) = 0 then 6 * (12 + 2 * Nn g (nI (t % 512))) else 0) = X at e5 ⊢
          generalize (if knA K (D 10 9) = 0 then 6 * (12 + 2 * Nn g (D 16 960)) else 0) = X2
          omega
        · obtain ⟨j, j1, _, j3⟩ := z3 z hz
          exact Or.inl ⟨j, j1, by rw [j3]; unfold mLI; rw [q7, pk_un (by decide), pk_un (by decide), pk_un (by decide), pk_un (by decide)]⟩
      have hb0 : (b (0 + 1)) - (b (0 + 1)) / 512 * 512 = nI (t % 512) := by rw [Nat.zero_add, hb1]; exact hver
      by_cases cs : D 18 3 ≤ 1
      · refine key _ (fun q hq => ?_) ?_ ?_ (fun Y => by unfold F_83; rw [h5, if_neg hr0, hver, if_neg c, bnN_e, if_pos cs])
        · rw [va_up_n _ _ (by omega), va_up_n _ _ (by omega), va_up_n _ _ (by omega), va_up_n _ _ (by omega), va_up_n _ _ (by omega), va_up_n _ _ (by omega), va_up_n _ _ (by omega)]
        · rw [va_up_n _ _ (by decide), va_up_n _ _ (by decide), va_up_n _ _ (by decide), va_up_n _ _ (by decide), va_up_n _ _ (by decide), va_up_n _ _ (by decide), va_up_s]
        · rw [va_up_n _ _ (by decide), va_up_s, rrV_v, if_neg (by omega), pk_us]; exact hb0
      · refine key _ (fun q hq => ?_) ?_ ?_ (fun Y => by unfold F_83; rw [h5, if_neg hr0, hver, if_neg c, bnN_e, if_neg cs])
        · rw [va_up_n _ _ (by omega), va_up_n _ _ (by omega), va_up_n _ _ (by omega), va_up_n _ _ (by omega), va_up_n _ _ (by omega), va_up_n _ _ (by omega), va_up_n _ _ (by omega), va_up_n _ _ (by omega)]
        · rw [va_up_n _ _ (by decide), va_up_n _ _ (by decide), va_up_n _ _ (by decide), va_up_n _ _ (by decide), va_up_n _ _ (by decide), va_up_n _ _ (by decide), va_up_n _ _ (by decide), va_up_s]
        · rw [va_up_n _ _ (by decide), va_up_n _ _ (by decide), va_up_s, rrV_v, if_neg (by omega), pk_us]; exact hb0

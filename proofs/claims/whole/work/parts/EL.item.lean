/-! gotItem -/
theorem vup_same {α : Type} (D : Nat → α) (q : Nat) : va_up D q (D q) = D := by
  funext j
  by_cases e : j = q
  · rw [e, va_up_s]
  · rw [va_up_n _ _ e]
theorem efv_s {ops : Nat → Mg} {v : Nat} (h : ∃ x, stp (tsp ops v) v (ops v) = some x) : efv ops (v + 1) = nI v := by
  obtain ⟨x, hx⟩ := h
  show (match stp (tsp ops v) v (ops v) with | some _ => nI v | none => efv ops v) = nI v
  rw [hx]
theorem clI_c {x : Int32} {n : Nat} (h : x = nI n) (hn : n ≤ 48) : (clI x 0 48).toNatClampNeg = n := by
  have e : clI x 0 48 = nI n := by
    unfold clI
    rw [h]
    have h48 : (48 : Int32) = nI 48 := rfl
    rw [h48]
    by_cases c : nI n < nI 48
    · rw [if_pos c]
      by_cases d : (0 : Int32) < nI n
      · rw [if_pos d]
      · rw [if_neg d]
        have : ¬ 0 < n := fun z => d ((nI_ltI (a := 0) (by decide) (by omega)).mpr z)
        rw [show n = 0 by omega]
        rfl
    · rw [if_neg c, if_pos (by decide)]
      have : ¬ n < 48 := fun z => c ((nI_ltI (by omega) (by decide)).mpr z)
      rw [show n = 48 by omega]
  rw [e, nI_clamp (by omega)]
theorem LO.wa {P : Pm} {g : Gh} {e : Nat} {D : Nat → Nat → Int32} {K : Int64} (h : LO P g e D K) (hs : ¬ D 18 3 = 0) : ∃ o, WA g o D := by
  rcases h.st with ⟨z, _⟩ | ⟨z, _, o, zo⟩ | ⟨z, o, zo, z1, z2, _⟩ | ⟨z, o, zo⟩ | ⟨z, o, zo⟩
  · exact absurd z hs
  · exact ⟨o, zo⟩
  · exact ⟨o, zo.1, zo.2, z1.ak, z2⟩
  · exact ⟨o, zo.wa⟩
  · exact ⟨o, zo.wa⟩
theorem WA.cg {g : Gh} {o : Nat} {D D' : Nat → Nat → Int32} (h : WA g o D) (e4 : D' 18 4 = D 18 4) (e6 : D' 18 6 = D 18 6) (e19 : D' 19 = D 19) (e20 : D' 20 = D 20) : WA g o D' := ⟨h.o1, h.o2, h.ak.cg e4 (fun x _ => by rw [e19]) (fun _ => by rw [e19]) e20, by rw [e6]; exact h.bf⟩
/-- all RECORDS are known while an OPERATION is under way -/
theorem LO.act {P : Pm} {g : Gh} {e : Nat} {D : Nat → Nat → Int32} {K : Int64} (h : LO P g e D K) (hs : ¬ D 18 3 ≤ 1) : ∀ f, f < 48 → ¬ D 11 f = -1 → bq K f = true := by
  rcases h.st with ⟨z, _⟩ | ⟨z, _⟩ | ⟨z, o, zo, z1, _⟩ | ⟨z, o, zo⟩ | ⟨z, o, zo⟩
  · rw [z] at hs; exact absurd (by decide) hs
  · rw [z] at hs; exact absurd (by decide) hs
  · exact z1.tk.2
  · exact zo.tk.2
  · exact zo.tk.2
/-- a new ROOT -/
theorem root_lem {P : Pm} {g : Gh} {e : Nat} {u b : Nat → Int32} {D D1 : Nat → Nat → Int32} {K : Int64} {n v : Nat} {w : Int32} (hG : GO g) (h : LO P g e D K) (hn : n < 32) (hv : v < 512) (hb1 : b 1 = nI (rtg v)) (hB : Bg P g b) (hr : g.rep e n (rtg v)) (hu : u 1 = nI n)
    (q7 : D1 7 7 = D 7 7 ∧ D1 7 8 = D 7 8) (q8 : D1 8 = D 8) (q10 : D1 10 = upd (upd (D 10) 9 (nI (clI (b 15) 0 48).toNatClampNeg)) 10 (b 16)) (q11 : D1 11 = rrJ b 0 (ax_fill (D 11) 0 48 (-1)) (clI (b 15) 0 48).toNatClampNeg) (q12 : D1 12 = ax_fill (D 12) 0 48 0) (q15 : D1 15 = rrO b 0 (ax_fill (D 15) 0 512 (-1)) (clI (b 15) 0 48).toNatClampNeg) (q16 : D1 16 = rrV b 0 (upd (ax_fill (D 16) 0 961 (-1)) 960 ((b 1) - (b 1) / 512 * 512)) (clI (b 15) 0 48).toNatClampNeg) (q17 : D1 17 = upd (ax_fill (D 17) 0 961 0) 960 (1 <<< ((u 1) &&& 31))) (q19 : D1 19 = D 19) (q20 : D1 20 = D 20) (q18 : ∀ x, x ≠ 3 → D1 18 x = D 18 x) (q183 : D1 18 3 = w) (hw : (D 18 3 ≤ 1 ∧ w = D 18 3) ∨ (¬ D 18 3 ≤ 1 ∧ w = 1)) : LO P g e D1 0 := by
  obtain ⟨⟨k, k1, k2, k3, k4, k5, k6, k7, k8⟩, hmade, _⟩ := hB
  have hmd := hmade v hv hb1
  have hb : rtg v < 5243392 := by unfold rtg tgN; omega
  rw [k2] at hb1
  have := nI_inj (by omega) (by omega) hb1
  subst this
  obtain ⟨d1, d2, d3⟩ := tgN_d (i := 512) (p := 0) (v := v) (by decide) hv
  have d1 : rtg v / 10240 = 512 := d1
  have d3 : rtg v % 512 = v := d3
  rw [d3] at k3 k4 k5 k6
  have h5 := hG.1
  have hT := hG.tok (k := v + 1) k3
  have hroot : ∀ x, 2 ≤ x → x < 127 → b x = rootW (tsp g.ops (v + 1)) (efA g.ops (v + 1)) x := k6 d1
  obtain ⟨_, c2, c3, _⟩ := rootW_v (T := tsp g.ops (v + 1)) (a := efA g.ops (v + 1)) hT.c1
  have hcf : (clI (b 15) 0 48).toNatClampNeg = (tsp g.ops (v + 1)).cnt := clI_c (by rw [hroot 15 (by omega) (by omega), c2]) hT.c1
  rw [hcf] at q10 q11 q15 q16
  obtain ⟨l1, l2⟩ := TR.load (T := tsp g.ops (v + 1)) (a := efA g.ops (v + 1)) (b := b) (jf := D 11) (zf := D 12) (nf := D1 13) (mf := D1 14) (fo := D 15) (vf := D 16) (y := (b 1) - (b 1) / 512 * 512) (q := 0) hT.c1 (fun i hi => by have := hT.e1 i hi; omega) (fun x h1 h2 => by rw [Nat.zero_add]; exact hroot x (by omega) h2)
  have hver : (b 1) - (b 1) / 512 * 512 = nI v := by rw [k2, ver_t (by omega), d3]
  have hrt : D1 16 960 = nI v := by rw [q16, l2, hver]
  have hRT : RTb P g (v + 1) D1 0 := by
    refine ⟨k3, by rw [hrt, efv_s k4], ?_, by rw [q10, pk_us, hroot 16 (by omega) (by omega), c3], fun w hw ew => ?_⟩
    · rw [q10, pk_un (by decide), pk_us, q11, q12, q15, q16]
      exact l1
    · rw [efv_s k4] at ew
      have := nI_inj (by omega) (by omega) ew
      subst this
      exact hmd
  refine ⟨⟨by rw [q7.1]; exact h.l1.1, by rw [q7.2]; exact h.l1.2.1, h.l1.2.2⟩, fun i hi => by rw [q8]; exact h.l2 i hi, fun a t h1 h2 h3 h4 m hm hbm => ?_, fun fx p h1 _ _ h4 => by rw [q17, pk_un (by omega), ax_fill_in _ _ (by omega) (by omega)], ?_⟩
  · rw [q17] at hbm
    by_cases z : a = 960
    · subst z
      rw [pk_us, hu] at hbm
      have h32 : m < 32 := by
        rcases Nat.lt_or_ge m 32 with y | y
        · exact y
        · rw [b_big y] at hbm; cases hbm
      rw [bt_one hn h32] at hbm
      have : m = n := by simpa using hbm
      subst this
      rw [tgA_r hrt] at h3
      have : rtg v = t := nI_inj (by omega) (by omega) h3
      rw [← this]
      exact hr
    · rw [pk_un z, ax_fill_in _ _ (by omega) (by omega), b_0] at hbm
      cases hbm
  · rcases hw with ⟨w1, w2⟩ | ⟨w1, w2⟩
    · by_cases c : D 18 3 = 0
      · exact Or.inl ⟨by rw [q183, w2]; exact c, v + 1, hRT⟩
      · obtain ⟨o, zo⟩ := h.wa c
        refine Or.inr (Or.inl ⟨?_, ⟨v + 1, hRT⟩, o, zo.cg (q18 4 (by decide)) (q18 6 (by decide)) q19 q20⟩)
        rcases h.st with ⟨z, _⟩ | ⟨z, _⟩ | ⟨z, _⟩ | ⟨z, _⟩ | ⟨z, _⟩
        · exact absurd z c
        · rw [q183, w2]; exact z
        · rw [z] at w1; exact absurd w1 (by decide)
        · rw [z] at w1; exact absurd w1 (by decide)
        · rw [z] at w1; exact absurd w1 (by decide)
    · obtain ⟨o, zo⟩ := h.wa (fun z => w1 (by rw [z]; decide))
      exact Or.inr (Or.inl ⟨by rw [q183, w2], ⟨v + 1, hRT⟩, o, zo.cg (q18 4 (by decide)) (q18 6 (by decide)) q19 q20⟩)
theorem item_lem {P : Pm} {g : Gh} {e : Nat} {me : Int32} {u b : Nat → Int32} {D : Nat → Nat → Int32} {K A : Int64} {Y : List Mg} {n k : Nat} (hG : GO g) (hgg : 0 < P.gg) (hnn : P.nn ≤ 6) (hn : n < P.nn) (hu : u 1 = nI n) (hk : k < 5243392) (h5 : u 5 = nI k) (hb1 : b 1 = nI k) (hB : Bg P g b) (hr : g.rep e n k) (h : LO P g e D K) (hY : MOL P g Y) :
    ∃ (D' : Nat → Nat → Int32) (K' A' : Int64) (Y' : List Mg), F_83 P.nn P.gg P.C me P.f u b D K A Y = (D', K', A', Y') ∧ LO P g e D' K' ∧ MOL P g Y' ∧ (∀ q, q < 7 → D' q = D q) ∧ D' 7 12 = D 7 12 := by
  have h512 := hG.1
  unfold F_83
  rw [h5]
  rcases rtB_or (nI k) with ⟨r0, r1⟩ | ⟨r0, t, r1, r2, r3⟩
  · rw [if_pos r0]
    have hnr : ¬ k / 10240 = 512 := r1 k (by omega) rfl
    rcases h.find hgg hk with ⟨z1, z2⟩ | ⟨a, a1, a2, a3, a4, a5, a6⟩
    · rw [if_pos z1]
      exact ⟨D, K, A, Y, rfl, h, hY, fun _ _ => rfl, rfl⟩
    · have hcl : (fndI (D 15) (D 16) (nI k)).toNatClampNeg = a := by rw [a2, nI_clamp (by omega)]
      rw [if_neg (by rw [a2]; exact nIneg (by omega)), bnN_e, hcl]
      rcases a3 with ⟨z, _⟩ | ⟨p1, fx, f1, f2, f3⟩
      · exact absurd z hnr
      have hp : k / 512 % 20 < 20 := Nat.mod_lt _ (by decide)
      have ha20 : a % 20 = k / 512 % 20 := by omega
      have ha2 : a / 20 = fx := by omega
      by_cases c9 : k / 512 % 20 = 19
      · -- a RECORD
        rw [if_neg (fun z => z (by rw [ha20, c9]; rfl))]
        have hfb : fndI (D 15) (D 16) (b (0 + 1)) = nI a := by rw [Nat.zero_add, hb1]; exact a2
        have hfc : (fndI (D 15) (D 16) (b (0 + 1))).toNatClampNeg = a := by rw [hfb, nI_clamp (by omega)]
        by_cases ck : bq K fx = true
        · -- it is known
          have hrc : rcF (D 12) (D 13) (D 14) (D 16) K (D 15) b 0 = (D 12, D 13, D 14, D 16, K) := by
            unfold rcF
            rw [hfc, ha2, if_neg (fun z => by
              have := (knB_z K (show fx < 64 by omega)).mp z.2.2
              rw [ck] at this; cases this)]
          rw [hrc]
          show ∃ D' K' A' Y', (if ¬ knA K (D 10 9) = 0 then _ else _) = (D', K', A', Y') ∧ _
          simp only [vup_same]
          by_cases c1 : knA K (D 10 9) = 0
          · rw [if_neg (fun z => z c1), if_pos c1]
            exact ⟨D, K, A, Y, rfl, h, hY, fun _ _ => rfl, rfl⟩
          · rw [if_pos c1]
            exact ⟨D, K, A, Y, rfl, h, hY, fun _ _ => rfl, rfl⟩
        · -- it is new
          have ckf : bq K fx = false := by cases z : bq K fx with | true => exact absurd z ck | false => rfl
          have hrc : rcF (D 12) (D 13) (D 14) (D 16) K (D 15) b 0 = (upd (D 12) fx (b (0 + 15)), upd (D 13) fx (b (0 + 16)), va_cpy b (D 14) (0 + 17) (fx * 50) 50, va_cpy b (D 16) (0 + 67) (fx * 20) 19, K ||| (1 <<< ((nI fx).toInt64 &&& 63))) := by
            unfold rcF rcR
            rw [hfc, ha2, if_pos ⟨by rw [hfb]; exact nIneg (by omega), by omega, (knB_z K (show fx < 64 by omega)).mpr ckf⟩]
          rw [hrc]
          have hidle : D 18 3 ≤ 1 := by
            by_cases c : D 18 3 ≤ 1
            · exact c
            · have := h.act c fx f1 (by rw [f2]; exact nIneg (by omega))
              rw [ckf] at this; cases this
          obtain ⟨r, zr⟩ := h.idle hidle
          have hvr : (tsp g.ops r).vr (k / 10240) 19 = nI (k % 512) := by
            rw [← zr.tr.r1 _ fx p1 f1 f2]
            rw [f3, c9] at a4
            exact a4
          obtain ⟨s1, s2, s3, s4, s5, s6⟩ := (hG.stb zr.r1).s (k / 10240) 19 (k % 512) (by decide) (Nat.mod_lt _ (by decide)) hvr
          have hrec : ∀ x, 15 ≤ x → x < 127 → b (0 + x) = recW (tsp g.ops r) (k / 10240) x := fun x h1 h2 => by
            obtain ⟨⟨k', q1, q2, q3, q4, q5, q6, q7, q8⟩, _⟩ := hB
            rw [q2] at hb1
            have := nI_inj (by omega) (by omega) hb1
            subst this
            rw [Nat.zero_add, q7 hnr c9 x (by omega) h2, s5 rfl x]
          have hTR := zr.tr.rrec f1 p1 f2 hrec
          generalize hD1 : va_up (va_up (va_up (va_up D 12 (upd (D 12) fx (b (0 + 15)))) 13 (upd (D 13) fx (b (0 + 16)))) 14 (va_cpy b (D 14) (0 + 17) (fx * 50) 50)) 16 (va_cpy b (D 16) (0 + 67) (fx * 20) 19) = D1
          have w1 : ∀ q, q ≠ 12 → q ≠ 13 → q ≠ 14 → q ≠ 16 → D1 q = D q := fun q a1 a2 a3 a4 => by rw [← hD1, va_up_n _ _ a4, va_up_n _ _ a3, va_up_n _ _ a2, va_up_n _ _ a1]
          have g12 : D1 12 = upd (D 12) fx (b (0 + 15)) := by rw [← hD1, va_up_n _ _ (by decide), va_up_n _ _ (by decide), va_up_n _ _ (by decide), va_up_s]
          have g13 : D1 13 = upd (D 13) fx (b (0 + 16)) := by rw [← hD1, va_up_n _ _ (by decide), va_up_n _ _ (by decide), va_up_s]
          have g14 : D1 14 = va_cpy b (D 14) (0 + 17) (fx * 50) 50 := by rw [← hD1, va_up_n _ _ (by decide), va_up_s]
          have g16 : D1 16 = va_cpy b (D 16) (0 + 67) (fx * 20) 19 := by rw [← hD1, va_up_s]
          have hq : ∀ q, q < 12 ∨ q = 15 ∨ 16 < q → D1 q = D q := fun q hq => w1 q (by omega) (by omega) (by omega) (by omega)
          have hLO : LO P g e D1 (K ||| (1 <<< ((nI fx).toInt64 &&& 63))) := by
            have hRT : RTb P g r D1 (K ||| (1 <<< ((nI fx).toInt64 &&& 63))) := ⟨zr.r1, by rw [g16, pk_cpy_out (by omega)]; exact zr.rt, by rw [hq 10 (by omega), hq 11 (by omega), g12, g13, g14, hq 15 (by omega), g16]; exact hTR, by rw [hq 10 (by omega)]; exact zr.an, zr.md⟩
            refine ⟨⟨by rw [hq 7 (by omega)]; exact h.l1.1, by rw [hq 7 (by omega)]; exact h.l1.2.1, h.l1.2.2⟩, fun i hi => by rw [hq 8 (by omega)]; exact h.l2 i hi, fun x t h1 h2 h3 h4 m hm hbm => ?_, fun fy p h1 h2 h3 h4 => ?_, ?_⟩
            · rw [hq 17 (by omega)] at hbm
              by_cases z : fx * 20 ≤ x ∧ x < fx * 20 + 19
              · have := h.hz fx (x - fx * 20) f1 (by rw [f2]; exact nIneg (by omega)) ckf (by omega)
                rw [show fx * 20 + (x - fx * 20) = x by omega] at this
                rw [this, b_0] at hbm
                cases hbm
              · have hx : D1 16 x = D 16 x := by rw [g16]; exact pk_cpy_out (by omega)
                rw [hx] at h2
                have htg : tgA (D1 11) (D1 16) x = tgA (D 11) (D 16) x := by unfold tgA; rw [hx, hq 11 (by omega)]
                rw [htg] at h3
                exact h.hd x t h1 h2 h3 h4 m hm hbm
            · rw [hq 11 (by omega)] at h2
              rw [hq 17 (by omega)]
              refine h.hz fy p h1 h2 ?_ h4
              rw [q_set K (by omega) (by omega)] at h3
              simp only [Bool.or_eq_false_iff] at h3
              exact h3.1
            · rcases h.st with ⟨z, _⟩ | ⟨z, _, o, zo⟩ | ⟨z, _⟩ | ⟨z, _⟩ | ⟨z, _⟩
              · exact Or.inl ⟨by rw [hq 18 (by omega)]; exact z, r, hRT⟩
              · exact Or.inr (Or.inl ⟨by rw [hq 18 (by omega)]; exact z, ⟨r, hRT⟩, o, zo.cg (by rw [hq 18 (by omega)]) (by rw [hq 18 (by omega)]) (hq 19 (by omega)) (hq 20 (by omega))⟩)
              · rw [z] at hidle; exact absurd hidle (by decide)
              · rw [z] at hidle; exact absurd hidle (by decide)
              · rw [z] at hidle; exact absurd hidle (by decide)
          show ∃ D' K' A' Y', (if ¬ knA K (D 10 9) = 0 then (va_up (va_up (va_up (va_up D 12 (upd (D 12) fx (b (0 + 15)))) 13 (upd (D 13) fx (b (0 + 16)))) 14 (va_cpy b (D 14) (0 + 17) (fx * 50) 50)) 16 (va_cpy b (D 16) (0 + 67) (fx * 20) 19), K ||| (1 <<< ((nI fx).toInt64 &&& 63)), A, Y) else _) = (D', K', A', Y') ∧ _
          rw [hD1]
          by_cases c1 : knA K (D 10 9) = 0
          · rw [if_neg (fun z => z c1)]
            by_cases c2 : knA (K ||| (1 <<< ((nI fx).toInt64 &&& 63))) (D 10 9) = 0
            · rw [if_pos c2]
              exact ⟨D1, _, A, Y, rfl, hLO, hY, fun q hq' => hq q (by omega), by rw [hq 7 (by omega)]⟩
            · rw [if_neg c2]
              obtain ⟨Y', y1, y2⟩ := poll_lem (nn := P.nn) (gg := P.gg) (C := P.C) (me := me) (f := P.f) (u := u) (b := b) (A := A) hLO hY
              rw [y1, bnS_e]
              exact ⟨D1, _, A, Y', rfl, hLO, y2, fun q hq' => hq q (by omega), by rw [hq 7 (by omega)]⟩
          · rw [if_pos c1]
            exact ⟨D1, _, A, Y, rfl, hLO, hY, fun q hq' => hq q (by omega), by rw [hq 7 (by omega)]⟩
      · -- a STRIPE
        rw [if_pos (fun z => c9 (by rw [← ha20]; exact nI_inj (by omega) (by decide) z))]
        by_cases cs : D 18 3 = 2
        · rcases h.st with ⟨z, _⟩ | ⟨z, _⟩ | ⟨_, o, zo, z1, z2, z3, z4⟩ | ⟨z, _⟩ | ⟨z, _⟩
          · rw [cs] at z; exact absurd z (by decide)
          · rw [cs] at z; exact absurd z (by decide)
          · obtain ⟨D', y1, y2, y3, y4, _, _⟩ := fill_lem (nn := P.nn) (gg := P.gg) (C := P.C) (me := me) (f := P.f) (u := u) (b := b) (A := A) (Y := Y) (Bg_X P g) a1 hB z1 (by rw [hb1]; exact a5.symm) cs
            rw [y1, bnS_e]
            refine ⟨D', K, A, Y, rfl, ?_, hY, fun q hq => y3 q (by omega) (by omega), by rw [y3 7 (by decide) (by decide)]⟩
            refine ⟨⟨by rw [y3 7 (by decide) (by decide)]; exact h.l1.1, by rw [y3 7 (by decide) (by decide)]; exact h.l1.2.1, h.l1.2.2⟩, fun i hi => by rw [y3 8 (by decide) (by decide)]; exact h.l2 i hi, fun x t h1 h2 h3 h4 m hm hbm => ?_, fun fy p h1 h2 h3 h4 => ?_, Or.inr (Or.inr (Or.inl ⟨by rw [y4 3 (by decide)]; exact cs, o, zo, y2, by rw [y4 6 (by decide)]; exact z2, by rw [y3 10 (by decide) (by decide)]; exact z3, z4⟩))⟩
            · rw [y3 16 (by decide) (by decide)] at h2
              rw [y3 11 (by decide) (by decide), y3 16 (by decide) (by decide)] at h3
              rw [y3 17 (by decide) (by decide)] at hbm
              exact h.hd x t h1 h2 h3 h4 m hm hbm
            · rw [y3 11 (by decide) (by decide)] at h2
              rw [y3 17 (by decide) (by decide)]
              exact h.hz fy p h1 h2 h3 h4
          · rw [cs] at z; exact absurd z (by decide)
          · rw [cs] at z; exact absurd z (by decide)
        · have hF : F_87 P.nn P.gg P.C me P.f u b D K A Y (nI a) = (D, K, A, Y) := by
            unfold F_87
            rw [bnN_e]
            exact fill_no _ 0 D cs
          rw [hF, bnS_e]
          exact ⟨D, K, A, Y, rfl, h, hY, fun _ _ => rfl, rfl⟩
  · -- a ROOT
    rw [if_neg (by rw [r0]; decide), ver_t (by omega)]
    have : k = t := nI_inj (by omega) (by omega) r2
    subst this
    have hkv : k = rtg (k % 512) := by unfold rtg tgN; omega
    by_cases c : nI (k % 512) ≤ D 16 960
    · rw [if_pos c]
      exact ⟨D, K, A, Y, rfl, h, hY, fun _ _ => rfl, rfl⟩
    · rw [if_neg c, bnN_e]
      have hv : k % 512 < 512 := Nat.mod_lt _ (by decide)
      have hb1' : b 1 = nI (rtg (k % 512)) := by rw [← hkv]; exact hb1
      have hr' : g.rep e n (rtg (k % 512)) := by rw [← hkv]; exact hr
      by_cases cs : D 18 3 ≤ 1
      · rw [if_pos cs]
        generalize hD1 : va_up (va_up (va_up (va_up (va_up (va_up (va_up D 7 (upd (upd (D 7) 10 0) 14 0)) 10 (upd (upd (D 10) 9 (nI (clI (b (0 + 15)) 0 48).toNatClampNeg)) 10 (b (0 + 16)))) 11 (rrJ b 0 (ax_fill (D 11) 0 48 (-1)) (clI (b (0 + 15)) 0 48).toNatClampNeg)) 12 (ax_fill (D 12) 0 48 0)) 15 (rrO b 0 (ax_fill (D 15) 0 512 (-1)) (clI (b (0 + 15)) 0 48).toNatClampNeg)) 16 (rrV b 0 (upd (ax_fill (D 16) 0 961 (-1)) 960 ((b (0 + 1)) - (b (0 + 1)) / 512 * 512)) (clI (b (0 + 15)) 0 48).toNatClampNeg)) 17 (upd (ax_fill (D 17) 0 961 0) 960 (1 <<< ((u 1) &&& 31))) = D1
        have w : ∀ q, q ≠ 7 → q ≠ 10 → q ≠ 11 → q ≠ 12 → q ≠ 15 → q ≠ 16 → q ≠ 17 → D1 q = D q := fun q a1 a2 a3 a4 a5 a6 a7 => by rw [← hD1, va_up_n _ _ a7, va_up_n _ _ a6, va_up_n _ _ a5, va_up_n _ _ a4, va_up_n _ _ a3, va_up_n _ _ a2, va_up_n _ _ a1]
        have g7 : D1 7 = upd (upd (D 7) 10 0) 14 0 := by rw [← hD1]; (iterate 6 rw [va_up_n _ _ (by decide)]); rw [va_up_s]
        have hLO : LO P g e D1 0 := root_lem (u := u) (b := b) (w := D 18 3) hG h (show n < 32 by omega) hv hb1' hB hr' hu ⟨by rw [g7, pk_un (by decide), pk_un (by decide)], by rw [g7, pk_un (by decide), pk_un (by decide)]⟩ (w 8 (by decide) (by decide) (by decide) (by decide) (by decide) (by decide) (by decide)) (by rw [← hD1]; (iterate 5 rw [va_up_n _ _ (by decide)]); rw [va_up_s]) (by rw [← hD1]; (iterate 4 rw [va_up_n _ _ (by decide)]); rw [va_up_s]) (by rw [← hD1]; (iterate 3 rw [va_up_n _ _ (by decide)]); rw [va_up_s]) (by rw [← hD1]; (iterate 2 rw [va_up_n _ _ (by decide)]); rw [va_up_s]) (by rw [← hD1, va_up_n _ _ (by decide), va_up_s]) (by rw [← hD1, va_up_s]) (w 19 (by decide) (by decide) (by decide) (by decide) (by decide) (by decide) (by decide)) (w 20 (by decide) (by decide) (by decide) (by decide) (by decide) (by decide) (by decide)) (fun x _ => by rw [w 18 (by decide) (by decide) (by decide) (by decide) (by decide) (by decide) (by decide)]) (by rw [w 18 (by decide) (by decide) (by decide) (by decide) (by decide) (by decide) (by decide)]) (Or.inl ⟨cs, rfl⟩)
        obtain ⟨Y', y1, y2⟩ := poll_lem (nn := P.nn) (gg := P.gg) (C := P.C) (me := me) (f := P.f) (u := u) (b := b) (A := 0) hLO hY
        rw [y1, bnS_e]
        exact ⟨D1, 0, 0, Y', rfl, hLO, y2, fun q hq => w q (by omega) (by omega) (by omega) (by omega) (by omega) (by omega) (by omega), by rw [g7, pk_un (by decide), pk_un (by decide)]⟩
      · rw [if_neg cs]
        generalize hD1 : va_up (va_up (va_up (va_up (va_up (va_up (va_up (va_up D 7 (upd (upd (D 7) 10 0) 14 0)) 10 (upd (upd (D 10) 9 (nI (clI (b (0 + 15)) 0 48).toNatClampNeg)) 10 (b (0 + 16)))) 11 (rrJ b 0 (ax_fill (D 11) 0 48 (-1)) (clI (b (0 + 15)) 0 48).toNatClampNeg)) 12 (ax_fill (D 12) 0 48 0)) 15 (rrO b 0 (ax_fill (D 15) 0 512 (-1)) (clI (b (0 + 15)) 0 48).toNatClampNeg)) 16 (rrV b 0 (upd (ax_fill (D 16) 0 961 (-1)) 960 ((b (0 + 1)) - (b (0 + 1)) / 512 * 512)) (clI (b (0 + 15)) 0 48).toNatClampNeg)) 17 (upd (ax_fill (D 17) 0 961 0) 960 (1 <<< ((u 1) &&& 31)))) 18 (upd (D 18) 3 1) = D1
        have w : ∀ q, q ≠ 7 → q ≠ 10 → q ≠ 11 → q ≠ 12 → q ≠ 15 → q ≠ 16 → q ≠ 17 → q ≠ 18 → D1 q = D q := fun q a1 a2 a3 a4 a5 a6 a7 a8 => by rw [← hD1, va_up_n _ _ a8, va_up_n _ _ a7, va_up_n _ _ a6, va_up_n _ _ a5, va_up_n _ _ a4, va_up_n _ _ a3, va_up_n _ _ a2, va_up_n _ _ a1]
        have g7 : D1 7 = upd (upd (D 7) 10 0) 14 0 := by rw [← hD1]; (iterate 7 rw [va_up_n _ _ (by decide)]); rw [va_up_s]
        have g18 : D1 18 = upd (D 18) 3 1 := by rw [← hD1, va_up_s]
        have hLO : LO P g e D1 0 := root_lem (u := u) (b := b) (w := 1) hG h (show n < 32 by omega) hv hb1' hB hr' hu ⟨by rw [g7, pk_un (by decide), pk_un (by decide)], by rw [g7, pk_un (by decide), pk_un (by decide)]⟩ (w 8 (by decide) (by decide) (by decide) (by decide) (by decide) (by decide) (by decide) (by decide)) (by rw [← hD1]; (iterate 6 rw [va_up_n _ _ (by decide)]); rw [va_up_s]) (by rw [← hD1]; (iterate 5 rw [va_up_n _ _ (by decide)]); rw [va_up_s]) (by rw [← hD1]; (iterate 4 rw [va_up_n _ _ (by decide)]); rw [va_up_s]) (by rw [← hD1]; (iterate 3 rw [va_up_n _ _ (by decide)]); rw [va_up_s]) (by rw [← hD1]; (iterate 2 rw [va_up_n _ _ (by decide)]); rw [va_up_s]) (by rw [← hD1, va_up_n _ _ (by decide), va_up_s]) (w 19 (by decide) (by decide) (by decide) (by decide) (by decide) (by decide) (by decide) (by decide)) (w 20 (by decide) (by decide) (by decide) (by decide) (by decide) (by decide) (by decide) (by decide)) (fun x hx => by rw [g18, pk_un hx]) (by rw [g18, pk_us]) (Or.inr ⟨cs, rfl⟩)
        obtain ⟨Y', y1, y2⟩ := poll_lem (nn := P.nn) (gg := P.gg) (C := P.C) (me := me) (f := P.f) (u := u) (b := b) (A := 0) hLO hY
        rw [y1, bnS_e]
        exact ⟨D1, 0, 0, Y', rfl, hLO, y2, fun q hq => w q (by omega) (by omega) (by omega) (by omega) (by omega) (by omega) (by omega) (by omega), by rw [g7, pk_un (by decide), pk_un (by decide)]⟩

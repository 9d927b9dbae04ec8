/-! a TICK of the leader -/
theorem LO.tagp {P : Pm} {g : Gh} {e : Nat} {D : Nat → Nat → Int32} {K : Int64} (h : LO P g e D K) (hG : GO g) (hgg : 0 < P.gg) {a : Nat} (ha : a < 961) (hv : ¬ D 16 a < 0) : ∃ k, k < 5243392 ∧ tgA (D 11) (D 16) a = nI k ∧ plc (D 11) k a ∧ D 16 a = nI (k % 512) ∧ D 8 (grp (D 11) P.gg a) = msk P g e k := by
  have h512 := hG.1
  obtain ⟨c, c1, htr, hroot⟩ := h.tab
  have hT := hG.tok c1
  have fin : ∀ k, k < 5243392 → tgA (D 11) (D 16) a = nI k → plc (D 11) k a → D 16 a = nI (k % 512) → ∃ k, k < 5243392 ∧ tgA (D 11) (D 16) a = nI k ∧ plc (D 11) k a ∧ D 16 a = nI (k % 512) ∧ D 8 (grp (D 11) P.gg a) = msk P g e k := fun k q1 q2 q3 q4 => ⟨k, q1, q2, q3, q4, by rw [plc_grp q1 q3]; exact h.l2 _ (gr_lt hgg k)⟩
  by_cases e9 : a = 960
  · subst e9
    rcases hroot with z | ⟨v, v1, v2⟩
    · rw [z] at hv; exact absurd (by decide) hv
    · obtain ⟨d1, d2, d3⟩ := tgN_d (i := 512) (p := 0) (v := v) (by decide) (by omega)
      exact fin _ (by unfold tgN; omega) (tgA_r v2) (Or.inl ⟨d1, rfl⟩) (by rw [d3]; exact v2)
  · have hd : a = a / 20 * 20 + a % 20 := by omega
    have hp : a % 20 < 20 := Nat.mod_lt _ (by decide)
    rcases htr.b2 (a / 20) (by omega) with ⟨_, _, _, z⟩ | ⟨i, i1, i2, _⟩
    · have := z (a % 20) hp
      rw [← hd] at this
      rw [this] at hv; exact absurd (by decide) hv
    · have hvr : D 16 a = (tsp g.ops c).vr i (a % 20) := by
        by_cases p9 : a % 20 = 19
        · have := htr.r1 i (a / 20) i1 (by omega) i2
          rw [p9]
          rw [← this]
          congr 1
          omega
        · cases ek : bq K (a / 20) with
          | true =>
            have := (htr.k1 i (a / 20) i1 (by omega) i2 ek).2.2.2 (a % 20) (by omega)
            rw [← hd] at this
            exact this
          | false =>
            have := (htr.u1 i (a / 20) i1 (by omega) i2 ek).2 (a % 20) (by omega)
            rw [← hd] at this
            rw [this] at hv
            exact absurd (by decide) hv
      rcases hT.v1 i (a % 20) with z | ⟨v, v1, v2⟩
      · rw [hvr, z] at hv; exact absurd (by decide) hv
      · have := tgA_v (jf := D 11) (vf := D 16) (f := a / 20) (p := a % 20) (i := i) (v := v) (by omega) hp i2 (by rw [← hd, hvr, v2])
        rw [← hd] at this
        obtain ⟨d1, d2, d3⟩ := tgN_d (i := i) (p := a % 20) (v := v) hp (by omega)
        exact fin (tgN i (a % 20) v) (by unfold tgN; omega) this (Or.inr ⟨by rw [d1]; exact i1, a / 20, by omega, by rw [d1]; exact i2, by rw [d2]; exact hd⟩) (by rw [d3, hvr, v2])
theorem mSE_v (nn : Nat) (me : Int32) (D : Nat → Nat → Int32) (a n : Nat) : (mSE nn me D a n).1 0 = 9 ∧ (mSE nn me D a n).1 1 = me ∧ (mSE nn me D a n).1 2 = nI (oneO ((D 17) a) nn nn ((D 7 13)).toNatClampNeg) ∧ (mSE nn me D a n).1 3 = D 7 7 ∧ (mSE nn me D a n).1 5 = tgA (D 11) (D 16) a ∧ (mSE nn me D a n).1 6 = nI n := by
  have w : ∀ x, x ≠ 5 → x ≠ 6 → (mSE nn me D a n).1 x = mg 9 me (nI (oneO ((D 17) a) nn nn ((D 7 13)).toNatClampNeg)) (D 7 7) (D 7 8) x := fun x h5 h6 => by
    show va_up (va_up (mg 9 me (nI (oneO ((D 17) a) nn nn ((D 7 13)).toNatClampNeg)) (D 7 7) (D 7 8)) 5 (tgA (D 11) (D 16) a)) 6 (nI n) x = _
    rw [va_up_n _ _ h6, va_up_n _ _ h5]
  refine ⟨w 0 (by decide) (by decide), w 1 (by decide) (by decide), w 2 (by decide) (by decide), w 3 (by decide) (by decide), ?_, ?_⟩
  · show va_up (va_up (mg 9 me (nI (oneO ((D 17) a) nn nn ((D 7 13)).toNatClampNeg)) (D 7 7) (D 7 8)) 5 (tgA (D 11) (D 16) a)) 6 (nI n) 5 = _
    rw [va_up_n _ _ (by decide), va_up_s]
  · show va_up (va_up (mg 9 me (nI (oneO ((D 17) a) nn nn ((D 7 13)).toNatClampNeg)) (D 7 7) (D 7 8)) 5 (tgA (D 11) (D 16) a)) 6 (nI n) 6 = _
    rw [va_up_s]
/-- what a TICK may post: no LISTED, no HAVE -/
def zTk (P : Pm) (g : Gh) (e : Nat) (z : Mg) : Prop := MS P g z ∧ z.1 3 = nI e ∧ ¬ z.1 0 = 5 ∧ ¬ z.1 0 = 11
theorem PZ.tk {P : Pm} {g : Gh} {e : Nat} {me : Int32} {D : Nat → Nat → Int32} {K : Int64} {Z : List Mg} (hG : GO g) (hgg : 0 < P.gg) (h : LO P g e D K) (hz : PZ P.nn P.gg me D Z) : ∀ z ∈ Z, zTk P g e z := fun z hz' => by
  have key : zGo P g e z := by
    rcases hz with ⟨s, l, m, _⟩ | ⟨s, l, m, _⟩ | ⟨s, l, m, _⟩ | ⟨_, _, _, s⟩
    · obtain ⟨j, _, _, e⟩ := m z hz'
      have w : ∀ x, x ≠ 5 → z.1 x = mg 6 me (nI (oneO ((D 17) (ndB (D 18) j).toNatClampNeg) P.nn P.nn ((D 7 13)).toNatClampNeg)) (D 7 7) (D 7 8) x := fun x hx => by rw [e]; exact va_up_n _ _ hx
      have h0 : z.1 0 = 6 := w 0 (by decide)
      exact ⟨MS.no (by rw [h0]; decide) (by rw [h0]; decide) (by rw [h0]; decide) (by rw [h0]; decide), (w 3 (by decide)).trans h.l1.1, Or.inr (Or.inl h0)⟩
    · obtain ⟨o, j, o8, j1, j2, e⟩ := m z hz'
      rw [e]
      rcases h.st with ⟨y, _⟩ | ⟨y, _⟩ | ⟨y, _⟩ | ⟨_, o', zo⟩ | ⟨y, _⟩
      · rw [s] at y; exact absurd y (by decide)
      · rw [s] at y; exact absurd y (by decide)
      · rw [s] at y; exact absurd y (by decide)
      · rcases zo.nb.b1 o (by omega) with y | ⟨_, _, _, k, y1, y2, _⟩
        · exfalso
          unfold msO at j2
          have := y 0 (by omega)
          rw [Nat.add_zero] at this
          rw [if_pos (by unfold seB; rw [if_pos this]), b_0] at j2
          cases j2
        · exact put_ms hgg h (by omega) y1 j1 j2
      · rw [s] at y; exact absurd y (by decide)
    · obtain ⟨j, j1, j2, e⟩ := m z hz'
      rw [e]
      rcases h.st with ⟨y, _⟩ | ⟨y, _⟩ | ⟨y, _⟩ | ⟨y, _⟩ | ⟨_, o', zo⟩
      · rw [s] at y; exact absurd y (by decide)
      · rw [s] at y; exact absurd y (by decide)
      · rw [s] at y; exact absurd y (by decide)
      · rw [s] at y; exact absurd y (by decide)
      · have h5 := hG.1
        have := zo.wa.o1
        exact put_ms hgg h (by unfold rtg tgN; omega) zo.b8.2.1 j1 j2
    · rw [s] at hz'; cases hz'
  refine ⟨key.1, key.2.1, ?_, ?_⟩
  · rcases key.2.2 with y | y | y <;> rw [y] <;> decide
  · rcases key.2.2 with y | y | y <;> rw [y] <;> decide
def WZ (P : Pm) (me : Int32) (D : Nat → Nat → Int32) (K : Int64) (D' : Nat → Nat → Int32) (Z : List Mg) : Prop :=
  ∃ (D1 : Nat → Nat → Int32) (Zp Zq Zm : List Mg), Z = Zp ++ (Zq ++ Zm) ∧ (∀ q, q ≠ 7 → D1 q = D q) ∧ (∀ x, x ≠ 13 → D1 7 x = D 7 x) ∧ inR P.nn (D1 7 13) ∧
    (Zp.length ≤ 6 ∧ ∀ z ∈ Zp, ∃ j, j < P.nn ∧ bt (D 7 10) j = false ∧ ¬ (D 18 3 = 3 ∨ D 18 3 = 4) ∧ z = mLI me D j) ∧ ((D 18 3 = 3 ∨ D 18 3 = 4) ∨ ∀ j, j < P.nn → bt (D 7 10) j = false → mLI me D j ∈ Zp) ∧ PZ P.nn P.gg me D1 Zq ∧
    ((Zm = [] ∧ D' = D1 ∧ (¬ acB (D 18 3) = 0 ∨ knA K (D 10 9) = 0 ∨ ¬ D 7 14 = 0)) ∨
     (D 18 3 ≤ 1 ∧ ¬ knA K (D 10 9) = 0 ∧ D 7 14 = 0 ∧ (Zm.length ≤ 29 ∧ ∀ z ∈ Zm, ∃ a n, a < 961 ∧ n < P.nn ∧ unS P.gg D a ∧ ¬ D 17 a = 0 ∧ bt (mxA P.gg D a) n = true ∧ z = mSE P.nn me D1 a n) ∧ MR D1 D' ∧
      ((∃ a, a < 961 ∧ unS P.gg D a ∧ ¬ D 17 a = 0 ∧ ¬ mxA P.gg D a = 0 ∧ ∀ n, n < P.nn → bt (mxA P.gg D a) n = true → mSE P.nn me D1 a n ∈ Zm) ∨ ∀ a, a < 961 → unS P.gg D a → D 17 a = 0 ∨ mxA P.gg D a = 0) ∧ (¬ D' 7 14 = 0 → ∀ a, a < 961 → ¬ unS P.gg D a)))
theorem work_z {P : Pm} {g : Gh} {e : Nat} {me : Int32} {u b : Nat → Int32} {D : Nat → Nat → Int32} {K A : Int64} (hG : GO g) (hgg : 0 < P.gg) (hnn : P.nn ≤ 6) (h1n : 0 < P.nn) (hf : Rg P.nn P.f) (hni : inR 961 (D 7 12)) (h : LO P g e D K) :
    ∃ (D' : Nat → Nat → Int32) (Z : List Mg), (∀ Y, F_137 P.nn P.gg P.C me P.f u b D K A Y = (D', K, 0, psl Y Z)) ∧ LO P g e D' K ∧ (∀ q, q < 7 → D' q = D q) ∧ inR 961 (D' 7 12) ∧ (∀ q, q ≠ 7 → D' q = D q) ∧ (∀ x, x ≠ 12 → x ≠ 13 → x ≠ 14 → D' 7 x = D 7 x) ∧ (∀ z ∈ Z, zTk P g e z) ∧ WZ P me D K D' Z := by
  have fin : ∀ (D' : Nat → Nat → Int32) (Z : List Mg), (∀ Y, F_137 P.nn P.gg P.C me P.f u b D K A Y = (D', K, 0, psl Y Z)) → LO P g e D' K ∧ (∀ q, q < 7 → D' q = D q) ∧ inR 961 (D' 7 12) := fun D' Z hz => by
    obtain ⟨D2, K2, A2, Y2, e1, e2, _, e4, e5⟩ := work_lem (me := me) (u := u) (b := b) (A := A) (Y := []) hG hnn hni h (fun y hy => by cases hy)
    have e3 := (hz []).symm.trans e1
    rw [Prod.mk.injEq, Prod.mk.injEq] at e3
    obtain ⟨e31, e32, _⟩ := e3
    subst e31 e32
    exact ⟨e2, e4, e5 hni⟩
  generalize hD1 : va_up D 7 (upd (D 7) 13 (nI (((D 7 13).toNatClampNeg + 1) % P.nn))) = D1
  have q1 : ∀ q, q ≠ 7 → D1 q = D q := fun q hq => by rw [← hD1, va_up_n _ _ hq]
  have q7 : ∀ x, x ≠ 13 → D1 7 x = D 7 x := fun x hx => by rw [← hD1, va_up_s, pk_un hx]
  have q13 : inR P.nn (D1 7 13) := ⟨_, Nat.mod_lt _ h1n, by rw [← hD1, va_up_s, pk_us]⟩
  have hLO1 : LO P g e D1 K := by rw [← hD1]; exact h.f7 (pk_un (by decide)) (pk_un (by decide))
  -- poll
  have hpoll : ∃ Zp : List Mg, (∀ Y, F_137 P.nn P.gg P.C me P.f u b D K A Y = F_137_k1 P.nn P.gg P.C me P.f u b D1 K 0 (psl Y Zp)) ∧ Zp.length ≤ 6 ∧ (∀ z ∈ Zp, zTk P g e z) ∧ ((D 18 3 = 3 ∨ D 18 3 = 4) ∨ ∀ j, j < P.nn → bt (D 7 10) j = false → mLI me D j ∈ Zp) ∧ ∀ z ∈ Zp, ∃ j, j < P.nn ∧ bt (D 7 10) j = false ∧ ¬ (D 18 3 = 3 ∨ D 18 3 = 4) ∧ z = mLI me D j := by
    by_cases c3 : D 18 3 = 3
    · exact ⟨[], fun Y => by unfold F_137; rw [bnN_e, if_pos c3, hD1]; rfl, Nat.zero_le _, fun z hz => (by cases hz), Or.inl (Or.inl c3), fun z hz => (by cases hz)⟩
    · by_cases c4 : D 18 3 = 4
      · exact ⟨[], fun Y => by unfold F_137; rw [bnN_e, if_neg c3, if_pos c4, hD1]; rfl, Nat.zero_le _, fun z hz => (by cases hz), Or.inl (Or.inr c4), fun z hz => (by cases hz)⟩
      · obtain ⟨Z, z1, z2, z3, z4, _⟩ := poll_z (nn := P.nn) (gg := P.gg) (C := P.C) (me := me) (f := P.f) (u := u) (b := b) (D := D1) (K := K) (A := 0) P.nn 0 (by omega)
        have eLI : ∀ j, mLI me D1 j = mLI me D j := fun j => by unfold mLI; rw [q7 7 (by decide), q7 8 (by decide)]
        refine ⟨Z, fun Y => ?_, by omega, fun z hz => ?_, Or.inr (fun j hj hb => ?_), fun z hz => ?_⟩
        · unfold F_137
          rw [bnN_e, if_neg c3, if_neg c4, hD1]
          have : F_35 P.nn P.gg P.C me P.f u b D1 K 0 Y = (D1, K, 0, psl Y Z) := z1 Y
          rw [this, bnS_e]
        · obtain ⟨j, _, _, _, e'⟩ := z3 z hz
          rw [e', eLI]
          exact ⟨MS.no (show ¬ (4 : Int32) = 5 by decide) (show ¬ (4 : Int32) = 10 by decide) (show ¬ (4 : Int32) = 9 by decide) (show ¬ (4 : Int32) = 12 by decide), h.l1.1, show ¬ (4 : Int32) = 5 by decide, show ¬ (4 : Int32) = 11 by decide⟩
        · have := z4 j (Nat.zero_le _) (by omega) (by rw [q7 10 (by decide)]; exact hb)
          rw [eLI] at this
          exact this
        · obtain ⟨j, _, j2, j3, j4⟩ := z3 z hz
          rw [q7 10 (by decide)] at j3
          exact ⟨j, by omega, j3, fun y => by rcases y with y | y; exact c3 y; exact c4 y, by rw [j4, eLI]⟩
  obtain ⟨Zp, p1, p2, p3, p4, p5⟩ := hpoll
  obtain ⟨Zq, s1, s2⟩ := push_z (nn := P.nn) (gg := P.gg) (C := P.C) (me := me) (f := P.f) (u := u) (b := b) (D := D1) (K := K) (A := 0) hnn
  have hk1 : ∀ Y, F_137 P.nn P.gg P.C me P.f u b D K A Y = F_137_k2 P.nn P.gg P.C me P.f u b D1 K 0 (psl (psl Y Zp) Zq) := fun Y => by
    rw [p1 Y]
    unfold F_137_k1
    rw [s1 _, bnS_e]
  have hZq := PZ.tk hG hgg hLO1 s2
  -- no mending
  have no : (¬ acB (D 18 3) = 0 ∨ knA K (D 10 9) = 0 ∨ ¬ D 7 14 = 0) → (∀ Y, F_137_k2 P.nn P.gg P.C me P.f u b D1 K 0 Y = (D1, K, 0, Y)) → ∃ (D' : Nat → Nat → Int32) (Z : List Mg), (∀ Y, F_137 P.nn P.gg P.C me P.f u b D K A Y = (D', K, 0, psl Y Z)) ∧ LO P g e D' K ∧ (∀ q, q < 7 → D' q = D q) ∧ inR 961 (D' 7 12) ∧ (∀ q, q ≠ 7 → D' q = D q) ∧ (∀ x, x ≠ 12 → x ≠ 13 → x ≠ 14 → D' 7 x = D 7 x) ∧ (∀ z ∈ Z, zTk P g e z) ∧ WZ P me D K D' Z := fun hc hF => by
    have hz : ∀ Y, F_137 P.nn P.gg P.C me P.f u b D K A Y = (D1, K, 0, psl Y (Zp ++ (Zq ++ []))) := fun Y => by rw [hk1 Y, hF, List.append_nil, psl_app]
    obtain ⟨f1, f2, f3⟩ := fin _ _ hz
    refine ⟨D1, _, hz, f1, f2, f3, q1, fun x _ h13 _ => q7 x h13, fun z hz' => ?_, D1, Zp, Zq, [], rfl, q1, q7, q13, ⟨p2, p5⟩, p4, s2, Or.inl ⟨rfl, rfl, hc⟩⟩
    rcases List.mem_append.mp hz' with y | y
    · exact p3 z y
    · rw [List.append_nil] at y; exact hZq z y
  by_cases c1 : acB (D 18 3) = 0
  · by_cases c2 : knA K (D 10 9) = 0
    · exact no (Or.inr (Or.inl c2)) (fun Y => by unfold F_137_k2; rw [q1 18 (by decide), q1 10 (by decide), if_neg (fun z => z c1), if_pos c2])
    · by_cases c3 : D 7 14 = 0
      · obtain ⟨a0, a01, a02⟩ := hni
        have hm8 : ∀ a, a < 961 → ∀ j, P.nn ≤ j → j < 32 → bt (va_up D1 7 (upd (D1 7) 14 1) 8 (grp (va_up D1 7 (upd (D1 7) 14 1) 11) P.gg a)) j = false := fun a _ j h1 h2 => by
          rw [va_up_n _ _ (by decide), va_up_n _ _ (by decide), q1 8 (by decide), q1 11 (by decide), h.l2 _ (grp_lt _ hgg a)]
          have := mof_bits hf hnn P.C (g.mp e) P.nn (grp (D 11) P.gg a * P.nn) 0 0 (fun x _ => b_0 x) j h1
          unfold gm mof2
          split
          · exact this
          · exact b_0 j
        obtain ⟨D2, Zm, m1, m2, m3, m4, m5, m6, m7⟩ := mend_z (nn := P.nn) (gg := P.gg) (C := P.C) (me := me) (f := P.f) (u := u) (b := b) (K := K) (A := 0) hnn 961 0 0 a0 (va_up D1 7 (upd (D1 7) 14 1)) (by omega) a01 (by rw [va_up_s, pk_un (by decide), q7 12 (by decide)]; exact a02) hm8
        have hMR1 : MR D1 (va_up D1 7 (upd (D1 7) 14 1)) := ⟨fun q hq => va_up_n _ _ hq, fun x _ h14 => by rw [va_up_s, pk_un h14]⟩
        have hmr := hMR1.tr m2
        have eun : ∀ a, unS P.gg (va_up D1 7 (upd (D1 7) 14 1)) a ↔ unS P.gg D a := fun a => by
          rw [hMR1.un a]
          unfold unS
          rw [q1 8 (by decide), q1 11 (by decide), q1 16 (by decide), q1 17 (by decide)]
        have emx : ∀ a, mxA P.gg (va_up D1 7 (upd (D1 7) 14 1)) a = mxA P.gg D a := fun a => by
          rw [hMR1.mx a]
          unfold mxA
          rw [q1 8 (by decide), q1 11 (by decide), q1 17 (by decide), q7 9 (by decide)]
        have e17 : ∀ a, va_up D1 7 (upd (D1 7) 14 1) 17 a = D 17 a := fun a => by rw [va_up_n _ _ (by decide), q1 17 (by decide)]
        have hz : ∀ Y, F_137 P.nn P.gg P.C me P.f u b D K A Y = (D2, K, 0, psl Y (Zp ++ (Zq ++ Zm))) := fun Y => by
          rw [hk1 Y]
          unfold F_137_k2 F_138
          rw [q1 18 (by decide), q1 10 (by decide), q7 14 (by decide), if_neg (fun z => z c1), if_neg c2, if_neg (fun z => z c3)]
          have := m1 (psl (psl Y Zp) Zq)
          rw [nI_0] at this
          rw [this, bnS_e, psl_app, psl_app]
        obtain ⟨f1, f2, f3⟩ := fin _ _ hz
        refine ⟨D2, _, hz, f1, f2, f3, fun q hq => by rw [hmr.1 q hq, q1 q hq], fun x h12 h13 h14 => by rw [hmr.2 x h12 h14, q7 x h13], fun z hz' => ?_, D1, Zp, Zq, Zm, rfl, q1, q7, q13, ⟨p2, p5⟩, p4, s2, Or.inr ⟨acB_le.mp c1, c2, c3, ⟨by omega, fun z hz => ?_⟩, hmr, ?_, fun z a ha => ?_⟩⟩
        · rcases List.mem_append.mp hz' with y | y
          · exact p3 z y
          · rcases List.mem_append.mp y with y | y
            · exact hZq z y
            · obtain ⟨a, n, a1, n1, u1, _, b1, e1⟩ := m5 z y
              rw [e1, hMR1.se]
              obtain ⟨v0, _, _, v3, v5, v6⟩ := mSE_v P.nn me D1 a n
              have hu := (eun a).mp u1
              obtain ⟨k, k1, k2, k3, k4, k5⟩ := h.tagp hG hgg a1 hu.1
              refine ⟨⟨fun q => absurd (v0.symm.trans q) (by decide), fun q => absurd (v0.symm.trans q) (by decide), fun _ => ⟨e, n, k, by rw [v3, q7 7 (by decide)]; exact h.l1.1, h.l1.2.2.1, v6, n1, by rw [v5, q1 11 (by decide), q1 16 (by decide)]; exact k2, k1, ?_⟩, fun q => absurd (v0.symm.trans q) (by decide)⟩, by rw [v3, q7 7 (by decide)]; exact h.l1.1, by rw [v0]; decide, by rw [v0]; decide⟩
              rw [emx] at b1
              unfold mxA at b1
              rw [k5, b_and, b_and] at b1
              simp only [Bool.and_eq_true] at b1
              exact b1.1.1
        · obtain ⟨a, n, a1, n1, u1, c1', b1, e1⟩ := m5 z hz
          rw [e17] at c1'
          rw [emx] at b1
          exact ⟨a, n, a1, n1, (eun a).mp u1, c1', b1, by rw [e1, hMR1.se]⟩
        · rcases (m7 rfl).1 with ⟨a, a1, a2, a3, a4, a5⟩ | y
          · refine Or.inl ⟨a, a1, (eun a).mp a2, by rw [e17] at a3; exact a3, by rw [emx] at a4; exact a4, fun n hn hb => ?_⟩
            have := a5 n hn (by rw [emx]; exact hb)
            rw [hMR1.se] at this
            exact this
          · refine Or.inr (fun a ha hu => ?_)
            have := y ((a + 961 - a0) % 961) (Nat.mod_lt _ (by decide))
            rw [show (a0 + (a + 961 - a0) % 961) % 961 = a by omega] at this
            have := this ((eun a).mpr hu)
            rw [e17, emx] at this
            exact this
        · have := (m7 rfl).2 z ((a + 961 - a0) % 961) (Nat.mod_lt _ (by decide))
          rw [show (a0 + (a + 961 - a0) % 961) % 961 = a by omega] at this
          exact fun hu => this ((eun a).mpr hu)
      · exact no (Or.inr (Or.inr c3)) (fun Y => by unfold F_137_k2; rw [q1 18 (by decide), q1 10 (by decide), q7 14 (by decide), if_neg (fun z => z c1), if_neg c2, if_pos c3])
  · exact no (Or.inl c1) (fun Y => by unfold F_137_k2; rw [q1 18 (by decide), if_pos c1])

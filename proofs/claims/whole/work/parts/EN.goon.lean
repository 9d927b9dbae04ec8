/-! goOn -/
theorem efA_eq {ops : Nat → Mg} : ∀ {r v : Nat}, efv ops r = nI v → v < 512 → r ≤ 512 → efA ops r = efA ops (v + 1) ∧ tsp ops r = tsp ops (v + 1) ∧ v < r
  | 0, v, h, hv, _ => absurd h (fun z => nIneg (by omega) z.symm)
  | r + 1, v, h, hv, hr => by
    cases e : stp (tsp ops r) r (ops r) with
    | some x =>
      have h : (match stp (tsp ops r) r (ops r) with | some _ => nI r | none => efv ops r) = nI v := h
      rw [e] at h
      have := nI_inj (by omega) (by omega) h
      subst this
      exact ⟨rfl, rfl, by omega⟩
    | none =>
      have h1 : efv ops r = nI v := by
        have h : (match stp (tsp ops r) r (ops r) with | some _ => nI r | none => efv ops r) = nI v := h
        rw [e] at h
        exact h
      obtain ⟨a, b, c⟩ := efA_eq h1 hv (by omega)
      refine ⟨?_, ?_, by omega⟩
      · show (match stp (tsp ops r) r (ops r) with | some x => nI x.1 | none => efA ops r) = _
        rw [e]; exact a
      · show (match stp (tsp ops r) r (ops r) with | some x => x.2 | none => tsp ops r) = _
        rw [e]; exact b
theorem efA_no {ops : Nat → Mg} : ∀ {r : Nat}, efv ops r = -1 → r ≤ 512 → efA ops r = 0
  | 0, _, _ => rfl
  | r + 1, h, hr => by
    cases e : stp (tsp ops r) r (ops r) with
    | some x =>
      have h : (match stp (tsp ops r) r (ops r) with | some _ => nI r | none => efv ops r) = -1 := h
      rw [e] at h
      exact absurd h (nIneg (by omega))
    | none =>
      have h1 : efv ops r = -1 := by
        have h : (match stp (tsp ops r) r (ops r) with | some _ => nI r | none => efv ops r) = -1 := h
        rw [e] at h
        exact h
      show (match stp (tsp ops r) r (ops r) with | some x => nI x.1 | none => efA ops r) = 0
      rw [e]
      exact efA_no h1 (by omega)
/-- the same ROOT, the same state -/
theorem same_root {ops : Nat → Mg} {r o : Nat} (hr : r ≤ 512) (ho : o ≤ 512) (h : efv ops r = efv ops o) : tsp ops r = tsp ops o ∧ efA ops r = efA ops o := by
  rcases efv_or ops r with z | ⟨v, a, b, _⟩
  · rw [z] at h
    exact ⟨(efv_none z hr).trans (efv_none h.symm ho).symm, (efA_no z hr).trans (efA_no h.symm ho).symm⟩
  · obtain ⟨x1, x2, _⟩ := efA_eq b (by omega) hr
    obtain ⟨y1, y2, _⟩ := efA_eq (h.symm.trans b) (by omega) ho
    exact ⟨x2.trans y2.symm, x1.trans y1.symm⟩
/-- an OPERATION is to be told of -/
def TE (P : Pm) (g : Gh) (e : Nat) (D : Nat → Nat → Int32) (K : Int64) : Prop :=
  (D 7 7 = nI e ∧ D 7 8 = g.mp e ∧ e ≤ g.ep ∧ g.es ≤ e) ∧
  (∀ i, i < P.gg → D 8 i = gm P.nn P.C P.f (g.mp e) i) ∧
  (∀ a k, a < 961 → ¬ D 16 a < 0 → tgA (D 11) (D 16) a = nI k → k < 5243392 → ∀ n, n < P.nn → bt (D 17 a) n = true → g.rep e n k) ∧
  (∀ f p, f < 48 → ¬ D 11 f = -1 → bq K f = false → p < 19 → D 17 (f * 20 + p) = 0) ∧
  (D 18 3 = 5) ∧
  (∃ r, RTb P g r D K) ∧
  (∃ o, o < g.bg ∧ D 18 4 = nI o ∧ tkO P g o (D 18 5))
theorem TE.l1 {P : Pm} {g : Gh} {e : Nat} {D : Nat → Nat → Int32} {K : Int64} (h_ : TE P g e D K) : D 7 7 = nI e ∧ D 7 8 = g.mp e ∧ e ≤ g.ep ∧ g.es ≤ e := h_.1
theorem TE.l2 {P : Pm} {g : Gh} {e : Nat} {D : Nat → Nat → Int32} {K : Int64} (h_ : TE P g e D K) : ∀ i, i < P.gg → D 8 i = gm P.nn P.C P.f (g.mp e) i := h_.2.1
theorem TE.hd {P : Pm} {g : Gh} {e : Nat} {D : Nat → Nat → Int32} {K : Int64} (h_ : TE P g e D K) : ∀ a k, a < 961 → ¬ D 16 a < 0 → tgA (D 11) (D 16) a = nI k → k < 5243392 → ∀ n, n < P.nn → bt (D 17 a) n = true → g.rep e n k := h_.2.2.1
theorem TE.hz {P : Pm} {g : Gh} {e : Nat} {D : Nat → Nat → Int32} {K : Int64} (h_ : TE P g e D K) : ∀ f p, f < 48 → ¬ D 11 f = -1 → bq K f = false → p < 19 → D 17 (f * 20 + p) = 0 := h_.2.2.2.1
theorem TE.s5 {P : Pm} {g : Gh} {e : Nat} {D : Nat → Nat → Int32} {K : Int64} (h_ : TE P g e D K) : D 18 3 = 5 := h_.2.2.2.2.1
theorem TE.rt {P : Pm} {g : Gh} {e : Nat} {D : Nat → Nat → Int32} {K : Int64} (h_ : TE P g e D K) : ∃ r, RTb P g r D K := h_.2.2.2.2.2.1
theorem TE.tk {P : Pm} {g : Gh} {e : Nat} {D : Nat → Nat → Int32} {K : Int64} (h_ : TE P g e D K) : ∃ o, o < g.bg ∧ D 18 4 = nI o ∧ tkO P g o (D 18 5) := h_.2.2.2.2.2.2
/-- cells 18 to 21 and no others -/
def K18 (D D' : Nat → Nat → Int32) : Prop := ∀ q, q < 18 → D' q = D q
theorem K18.b {P : Pm} {g : Gh} {e : Nat} {D D' : Nat → Nat → Int32} {K : Int64} (hk : K18 D D') (h : LO P g e D K) : (D' 7 7 = nI e ∧ D' 7 8 = g.mp e ∧ e ≤ g.ep ∧ g.es ≤ e) ∧ (∀ i, i < P.gg → D' 8 i = gm P.nn P.C P.f (g.mp e) i) ∧ (∀ a k, a < 961 → ¬ D' 16 a < 0 → tgA (D' 11) (D' 16) a = nI k → k < 5243392 → ∀ n, n < P.nn → bt (D' 17 a) n = true → g.rep e n k) ∧ (∀ f p, f < 48 → ¬ D' 11 f = -1 → bq K f = false → p < 19 → D' 17 (f * 20 + p) = 0) := by
  rw [hk 7 (by decide), hk 8 (by decide), hk 11 (by decide), hk 16 (by decide), hk 17 (by decide)]
  exact ⟨h.l1, h.l2, h.hd, h.hz⟩
theorem RTb.k18 {P : Pm} {g : Gh} {r : Nat} {D D' : Nat → Nat → Int32} {K : Int64} (h : RTb P g r D K) (hk : K18 D D') : RTb P g r D' K := ⟨h.r1, by rw [hk 16 (by decide)]; exact h.rt, by rw [hk 10 (by decide), hk 11 (by decide), hk 12 (by decide), hk 13 (by decide), hk 14 (by decide), hk 15 (by decide), hk 16 (by decide)]; exact h.tr, by rw [hk 10 (by decide)]; exact h.an, h.md⟩
theorem TKD.k18 {T : TS} {D D' : Nat → Nat → Int32} {K : Int64} (h : TKD T D K) (hk : K18 D D') : TKD T D' K := by
  show TK T (D' 10 9) (D' 11) (D' 12) (D' 13) (D' 14) (D' 15) (D' 16) K
  rw [hk 10 (by decide), hk 11 (by decide), hk 12 (by decide), hk 13 (by decide), hk 14 (by decide), hk 15 (by decide), hk 16 (by decide)]
  exact h
/-- plan -/
theorem plan_all {P : Pm} {g : Gh} {e : Nat} {me : Int32} {u b : Nat → Int32} {D : Nat → Nat → Int32} {K A : Int64} {Y : List Mg} (hG : GO g) (h : LO P g e D K) (hs : D 18 3 = 1) (hk : ¬ knA K (D 10 9) = 0) :
    ∃ D' : Nat → Nat → Int32, F_93 P.nn P.gg P.C me P.f u b D K A Y = (D', K, A, Y) ∧ K18 D D' ∧ (LO P g e D' K ∨ TE P g e D' K) := by
  have h512 := hG.1
  obtain ⟨r, zr⟩ := h.idle (by rw [hs]; decide)
  obtain ⟨o, zo⟩ := h.wa (by rw [hs]; decide)
  have ho := zo.o1
  have htk := zr.tk hk
  have hop := zo.ak.op
  -- the fields of Work that plan begins with
  have zero : ∀ W : Nat → Int32, (∀ x, x < 1152 → ax_fill (D 21) 0 1152 0 x = 0) := fun _ x hx => ax_fill_in _ _ (by omega) hx
  by_cases c1 : D 16 960 ≤ D 18 4
  · by_cases c2 : D 16 960 = D 18 4
    · -- the ROOT is the OPERATION's own
      have hF : F_93 P.nn P.gg P.C me P.f u b D K A Y = (va_up (va_up D 18 (upd (upd (upd (upd (upd (upd (upd (D 18) 3 3) 5 (D 10 10)) 9 0) 11 0) 12 0) 13 (-1)) 14 (-1))) 21 (ax_fill (D 21) 0 1152 0), K, A, Y) := by
        unfold F_93
        rw [if_pos c1, if_neg (fun z => z c2)]
      rw [hF]
      generalize hD1 : va_up (va_up D 18 (upd (upd (upd (upd (upd (upd (upd (D 18) 3 3) 5 (D 10 10)) 9 0) 11 0) 12 0) 13 (-1)) 14 (-1))) 21 (ax_fill (D 21) 0 1152 0) = D1
      have hk18 : K18 D D1 := fun q hq => by rw [← hD1, va_up_n _ _ (by omega), va_up_n _ _ (by omega)]
      have w18 : D1 18 = upd (upd (upd (upd (upd (upd (upd (D 18) 3 3) 5 (D 10 10)) 9 0) 11 0) 12 0) 13 (-1)) 14 (-1) := by rw [← hD1, va_up_n _ _ (by decide), va_up_s]
      have w21 : D1 21 = ax_fill (D 21) 0 1152 0 := by rw [← hD1, va_up_s]
      have w19 : D1 19 = D 19 := by rw [← hD1, va_up_n _ _ (by decide), va_up_n _ _ (by decide)]
      have w20 : D1 20 = D 20 := by rw [← hD1, va_up_n _ _ (by decide), va_up_n _ _ (by decide)]
      have w4 : D1 18 4 = D 18 4 := by rw [w18]; iterate 7 rw [pk_un (by decide)]
      have w6 : D1 18 6 = D 18 6 := by rw [w18]; iterate 7 rw [pk_un (by decide)]
      have w3 : D1 18 3 = 3 := by rw [w18]; (iterate 6 rw [pk_un (by decide)]); rw [pk_us]
      have w5 : D1 18 5 = D 10 10 := by rw [w18]; (iterate 5 rw [pk_un (by decide)]); rw [pk_us]
      have hefv : efv g.ops r = nI o := by rw [← zr.rt, c2, hop]
      obtain ⟨a1, a2, a3⟩ := efA_eq hefv (by omega) (by have := zr.r1; omega)
      have heff : eff g o := ⟨ho, (efv_lt hefv (by omega) (by have := zr.r1; omega)).2⟩
      obtain ⟨b1, b2, b3, b4⟩ := hk18.b h
      refine ⟨D1, rfl, hk18, Or.inl ⟨b1, b2, b3, b4, Or.inr (Or.inr (Or.inr (Or.inl ⟨w3, o, zo.cg w4 w6 w19 w20, heff, ?_, Or.inr ⟨by rw [hk18 16 (by decide), c2, hop], by rw [hk18 10 (by decide), zr.an, a1], zr.md o (by omega) hefv⟩, by rw [w5, zr.an, a1], fun j hj => Or.inl (fun x hx => by rw [w21]; exact ax_fill_in _ _ (by omega) (by omega)), Or.inl (by rw [hk18 16 (by decide), c2, hop])⟩)))⟩⟩
      rw [← a2]
      exact htk.k18 hk18
    · by_cases c3 : D 16 960 = D 18 6
      · -- the OPERATION is begun
        have hrt : efv g.ops r = efv g.ops o := by rw [← zr.rt, c3, zo.bf]
        obtain ⟨s1, s2⟩ := same_root (by have := zr.r1; omega) (by omega) hrt
        obtain ⟨D', p1, p2, p3, p4, p5⟩ := plan_lem (G := Bg P g) (nn := P.nn) (gg := P.gg) (C := P.C) (me := me) (f := P.f) (u := u) (b := b) (A := A) (Y := Y) (hG.tok (Nat.le_of_lt ho)) (by omega) (by rw [← s1]; exact htk) zo.ak (by rw [zr.rt, hrt]) zo.bf
        have hk18 : K18 D D' := fun q hq => p2 q (by omega) (by omega) (by omega) (by omega)
        obtain ⟨b1, b2, b3, b4⟩ := hk18.b h
        refine ⟨D', p1, hk18, ?_⟩
        rcases p5 with ⟨q1, q2, q3⟩ | ⟨q1, q2⟩
        · refine Or.inr ⟨b1, b2, b3, b4, q1, ⟨r, zr.k18 hk18⟩, o, ho, p3, fun z => ?_, fun _ => ?_⟩
          · obtain ⟨_, x, hx⟩ := z
            cases (q2.symm.trans hx)
          · rcases q3 with q | q | q
            · exact Or.inr (Or.inl q)
            · exact Or.inr (Or.inr (Or.inl q))
            · exact Or.inr (Or.inr (Or.inr q))
        · exact Or.inl ⟨b1, b2, b3, b4, Or.inr (Or.inr (Or.inl ⟨q1, o, ⟨ho, zo.o2⟩, q2, by rw [p4]; exact zo.bf, by rw [hk18 10 (by decide), zr.an, s2], fun v hv ev => zr.md v hv (by rw [hrt]; exact ev)⟩))⟩
      · -- the ROOT is too old
        have hF : F_93 P.nn P.gg P.C me P.f u b D K A Y = (va_up (va_up D 18 (upd (upd (upd (upd (upd (D 18) 9 0) 11 0) 12 0) 13 (-1)) 14 (-1))) 21 (ax_fill (D 21) 0 1152 0), K, A, Y) := by
          unfold F_93
          rw [if_pos c1, if_pos c2, if_pos c3]
        rw [hF]
        generalize hD1 : va_up (va_up D 18 (upd (upd (upd (upd (upd (D 18) 9 0) 11 0) 12 0) 13 (-1)) 14 (-1))) 21 (ax_fill (D 21) 0 1152 0) = D1
        have hk18 : K18 D D1 := fun q hq => by rw [← hD1, va_up_n _ _ (by omega), va_up_n _ _ (by omega)]
        have w18 : D1 18 = upd (upd (upd (upd (upd (D 18) 9 0) 11 0) 12 0) 13 (-1)) 14 (-1) := by rw [← hD1, va_up_n _ _ (by decide), va_up_s]
        have w19 : D1 19 = D 19 := by rw [← hD1, va_up_n _ _ (by decide), va_up_n _ _ (by decide)]
        have w20 : D1 20 = D 20 := by rw [← hD1, va_up_n _ _ (by decide), va_up_n _ _ (by decide)]
        have w4 : D1 18 4 = D 18 4 := by rw [w18]; iterate 5 rw [pk_un (by decide)]
        have w6 : D1 18 6 = D 18 6 := by rw [w18]; iterate 5 rw [pk_un (by decide)]
        have w3 : D1 18 3 = D 18 3 := by rw [w18]; iterate 5 rw [pk_un (by decide)]
        obtain ⟨b1, b2, b3, b4⟩ := hk18.b h
        exact ⟨D1, rfl, hk18, Or.inl ⟨b1, b2, b3, b4, Or.inr (Or.inl ⟨by rw [w3]; exact hs, ⟨r, zr.k18 hk18⟩, o, zo.cg w4 w6 w19 w20⟩)⟩⟩
  · -- the ROOT is newer
    have hF : F_93 P.nn P.gg P.C me P.f u b D K A Y = (va_up (va_up D 18 (upd (upd (upd (upd (upd (upd (D 18) 3 0) 9 0) 11 0) 12 0) 13 (-1)) 14 (-1))) 21 (ax_fill (D 21) 0 1152 0), K, A, Y) := by
      unfold F_93
      rw [if_neg c1]
    rw [hF]
    generalize hD1 : va_up (va_up D 18 (upd (upd (upd (upd (upd (upd (D 18) 3 0) 9 0) 11 0) 12 0) 13 (-1)) 14 (-1))) 21 (ax_fill (D 21) 0 1152 0) = D1
    have hk18 : K18 D D1 := fun q hq => by rw [← hD1, va_up_n _ _ (by omega), va_up_n _ _ (by omega)]
    have w18 : D1 18 = upd (upd (upd (upd (upd (upd (D 18) 3 0) 9 0) 11 0) 12 0) 13 (-1)) 14 (-1) := by rw [← hD1, va_up_n _ _ (by decide), va_up_s]
    have w3 : D1 18 3 = 0 := by rw [w18]; (iterate 5 rw [pk_un (by decide)]); rw [pk_us]
    obtain ⟨b1, b2, b3, b4⟩ := hk18.b h
    exact ⟨D1, rfl, hk18, Or.inl ⟨b1, b2, b3, b4, Or.inl ⟨w3, r, zr.k18 hk18⟩⟩⟩

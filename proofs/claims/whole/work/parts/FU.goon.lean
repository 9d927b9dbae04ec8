/-! goOn goes as far as it can -/
def GD (gg : Nat) (D : Nat → Nat → Int32) (K : Int64) : Prop :=
  (D 18 3 = 1 → knA K (D 10 9) = 0 ∨ rdB (D 8) (D 7 9) 0 = 0 ∨ (D 16 960 ≤ D 18 4 ∧ ¬ D 16 960 = D 18 4 ∧ ¬ D 16 960 = D 18 6)) ∧
  (D 18 3 = 2 → ¬ D 18 12 = 0) ∧ (D 18 3 = 3 → arS gg D (8 - 0) 0 = 0) ∧ (D 18 3 = 4 → arS gg D (9 - 8) 8 = 0)
theorem GD.st {gg : Nat} {D : Nat → Nat → Int32} {K : Int64} {s : Int32} (h : D 18 3 = s) (h1 : ¬ s = 1) (h2 : ¬ s = 2) (h3 : ¬ s = 3) (h4 : ¬ s = 4) : GD gg D K := by
  subst h
  exact ⟨fun z => absurd z h1, fun z => absurd z h2, fun z => absurd z h3, fun z => absurd z h4⟩
theorem arS_cg {gg : Nat} {D D' : Nat → Nat → Int32} (e8 : D' 8 = D 8) (e11 : D' 11 = D 11) (e15 : D' 15 = D 15) (e16 : D' 16 = D 16) (e17 : D' 17 = D 17) (e21 : D' 21 = D 21) : ∀ k i, arS gg D' k i = arS gg D k i
  | 0, _ => rfl
  | k + 1, i => by
    unfold arS
    rw [e8, e11, e15, e16, e17, e21, arS_cg e8 e11 e15 e16 e17 e21 k (i + 1)]
theorem GD.cg {gg : Nat} {D D' : Nat → Nat → Int32} {K : Int64} (h : GD gg D K) (hq : ∀ q, 6 < q → D' q = D q) : GD gg D' K := by
  obtain ⟨h1, h2, h3, h4⟩ := h
  have ha := arS_cg (gg := gg) (hq 8 (by decide)) (hq 11 (by decide)) (hq 15 (by decide)) (hq 16 (by decide)) (hq 17 (by decide)) (hq 21 (by decide))
  refine ⟨fun z => ?_, fun z => ?_, fun z => ?_, fun z => ?_⟩
  · rw [hq 18 (by decide)] at z
    have := h1 z
    rw [hq 10 (by decide), hq 8 (by decide), hq 7 (by decide), hq 16 (by decide), hq 18 (by decide)]
    exact this
  · rw [hq 18 (by decide)] at z ⊢; exact h2 z
  · rw [hq 18 (by decide)] at z; rw [ha]; exact h3 z
  · rw [hq 18 (by decide)] at z; rw [ha]; exact h4 z
theorem gd6 {P : Pm} {me : Int32} {u b : Nat → Int32} {D : Nat → Nat → Int32} {K A : Int64} {Y : List Mg} {w1 : Int32} (hnn : P.nn ≤ 6) (h : GD P.gg D K) : GD P.gg (F_91_k6 P.nn P.gg P.C me P.f u b D K A Y w1).1 (F_91_k6 P.nn P.gg P.C me P.f u b D K A Y w1).2.1 := by
  unfold F_91_k6
  by_cases c : D 18 3 = w1
  · rw [if_pos c]; exact h
  · obtain ⟨Z, z1, _⟩ := push_z (nn := P.nn) (gg := P.gg) (C := P.C) (me := me) (f := P.f) (u := u) (b := b) (D := D) (K := K) (A := A) hnn
    rw [if_neg c, z1 Y, bnS_e]; exact h
theorem gd5 {P : Pm} {me : Int32} {u b : Nat → Int32} {D : Nat → Nat → Int32} {K A : Int64} {Y : List Mg} {w1 : Int32} (hnn : P.nn ≤ 6) (h : ¬ D 18 3 = 5 → GD P.gg D K) : GD P.gg (F_91_k5 P.nn P.gg P.C me P.f u b D K A Y w1).1 (F_91_k5 P.nn P.gg P.C me P.f u b D K A Y w1).2.1 := by
  unfold F_91_k5
  by_cases c : D 18 3 = 5
  · have hF : ∃ Y1, F_123 P.nn P.gg P.C me P.f u b D K A Y = (va_up D 18 (upd (D 18) 3 0), K, A, Y1) := ⟨_, by unfold F_123; rw [bnN_e]⟩
    obtain ⟨Y1, hF⟩ := hF
    rw [if_neg (fun z => z c), hF, bnS_e]
    exact gd6 hnn (GD.st (s := 0) (by rw [va_up_s, pk_us]) (by decide) (by decide) (by decide) (by decide))
  · rw [if_pos c]
    exact gd6 hnn (h c)
theorem gd4 {P : Pm} {me : Int32} {u b : Nat → Int32} {D : Nat → Nat → Int32} {K A : Int64} {Y : List Mg} {w1 : Int32} (hnn : P.nn ≤ 6) (h : ¬ D 18 3 = 4 → ¬ D 18 3 = 5 → GD P.gg D K) : GD P.gg (F_91_k4 P.nn P.gg P.C me P.f u b D K A Y w1).1 (F_91_k4 P.nn P.gg P.C me P.f u b D K A Y w1).2.1 := by
  unfold F_91_k4
  by_cases c : D 18 3 = 4
  · rw [if_neg (fun z => z c), bnI_e]
    by_cases d : arS P.gg D (9 - 8) 8 = 0
    · rw [if_pos d]
      exact gd5 hnn (fun _ => ⟨fun z => by rw [c] at z; exact absurd z (by decide), fun z => by rw [c] at z; exact absurd z (by decide), fun z => by rw [c] at z; exact absurd z (by decide), fun _ => d⟩)
    · rw [if_neg d]
      exact gd5 hnn (fun z => absurd (by rw [va_up_s, pk_us]) z)
  · rw [if_pos c]
    exact gd5 hnn (h c)
theorem gd3 {P : Pm} {me : Int32} {u b : Nat → Int32} {D : Nat → Nat → Int32} {K A : Int64} {Y : List Mg} {w1 : Int32} (hnn : P.nn ≤ 6) (h : ¬ D 18 3 = 3 → ¬ D 18 3 = 4 → ¬ D 18 3 = 5 → GD P.gg D K) : GD P.gg (F_91_k3 P.nn P.gg P.C me P.f u b D K A Y w1).1 (F_91_k3 P.nn P.gg P.C me P.f u b D K A Y w1).2.1 := by
  unfold F_91_k3
  by_cases c : D 18 3 = 3
  · rw [if_neg (fun z => z c), bnI_e]
    by_cases d : arS P.gg D (8 - 0) 0 = 0
    · rw [if_pos d]
      exact gd4 hnn (fun _ _ => ⟨fun z => by rw [c] at z; exact absurd z (by decide), fun z => by rw [c] at z; exact absurd z (by decide), fun _ => d, fun z => by rw [c] at z; exact absurd z (by decide)⟩)
    · rw [if_neg d]
      obtain ⟨D1, K1, A1, Y1, hF⟩ : ∃ D1 K1 A1 Y1, F_121 P.nn P.gg P.C me P.f u b D K A Y = (D1, K1, A1, Y1) := ⟨_, _, _, _, rfl⟩
      rw [hF, bnS_e]
      exact gd4 hnn (fun z => absurd (root_x hF).1 z)
  · rw [if_pos c]
    exact gd4 hnn (h c)
theorem gd2 {P : Pm} {g : Gh} {e : Nat} {me : Int32} {u b : Nat → Int32} {D : Nat → Nat → Int32} {K A : Int64} {Y : List Mg} {w1 : Int32} (hG : GO g) (hnn : P.nn ≤ 6) (hL : LO P g e D K ∨ TE P g e D K) (h : ¬ D 18 3 = 2 → ¬ D 18 3 = 3 → ¬ D 18 3 = 4 → ¬ D 18 3 = 5 → GD P.gg D K) : GD P.gg (F_91_k2 P.nn P.gg P.C me P.f u b D K A Y w1).1 (F_91_k2 P.nn P.gg P.C me P.f u b D K A Y w1).2.1 := by
  unfold F_91_k2
  by_cases c : D 18 3 = 2
  · rw [if_neg (fun z => z c)]
    by_cases d : D 18 12 = 0
    · rw [if_neg (fun z => z d)]
      rcases hL with hL | hL
      · obtain ⟨D1, K1, r1, r2, r3⟩ := change_all (me := me) (u := u) (b := b) (A := A) (Y := Y) hG hL c d
        obtain ⟨x1, x2⟩ := change_x hG hL c d r1
        rw [bnS_2 (F_104 P.nn P.gg P.C me P.f u b D K A Y) (F_114 P.nn P.gg P.C me P.f u b) (fun D4 K4 A4 Y4 => F_91_k3 P.nn P.gg P.C me P.f u b D4 K4 A4 Y4 w1), r1, bnS_e]
        refine gd3 hnn (fun z1 z2 z3 => ?_)
        rcases x2 with x | ⟨x, _⟩
        · exact absurd x z1
        · exact absurd x z3
      · rw [hL.s5] at c; exact absurd c (by decide)
    · rw [if_pos d]
      exact gd3 hnn (fun _ _ _ => ⟨fun z => by rw [c] at z; exact absurd z (by decide), fun _ => d, fun z => by rw [c] at z; exact absurd z (by decide), fun z => by rw [c] at z; exact absurd z (by decide)⟩)
  · rw [if_pos c]
    exact gd3 hnn (h c)
theorem plan_gd {P : Pm} {g : Gh} {e : Nat} {me : Int32} {u b : Nat → Int32} {D D' : Nat → Nat → Int32} {K A : Int64} {Y : List Mg} (hG : GO g) (h : LO P g e D K) (hs : D 18 3 = 1) (hk : ¬ knA K (D 10 9) = 0) (hF : F_93 P.nn P.gg P.C me P.f u b D K A Y = (D', K, A, Y)) : ¬ D' 18 3 = 2 → ¬ D' 18 3 = 3 → ¬ D' 18 3 = 5 → GD P.gg D' K := by
  intro n2 n3 n5
  have h512 := hG.1
  obtain ⟨r, zr⟩ := h.idle (by rw [hs]; decide)
  obtain ⟨o, zo⟩ := h.wa (by rw [hs]; decide)
  have ho := zo.o1
  have htk := zr.tk hk
  by_cases c1 : D 16 960 ≤ D 18 4
  · by_cases c2 : D 16 960 = D 18 4
    · unfold F_93 at hF
      rw [if_pos c1, if_neg (fun z => z c2)] at hF
      have e1 := (Prod.mk.inj hF).1
      exfalso
      apply n3
      rw [← e1, va_up_n _ _ (by decide), va_up_s]
      (iterate 6 rw [pk_un (by decide)])
      rw [pk_us]
    · by_cases c3 : D 16 960 = D 18 6
      · have hrt : efv g.ops r = efv g.ops o := by rw [← zr.rt, c3, zo.bf]
        obtain ⟨s1, s2⟩ := same_root (by have := zr.r1; omega) (by omega) hrt
        obtain ⟨D2, p1, p2, p3, p4, p5⟩ := plan_lem (G := Bg P g) (nn := P.nn) (gg := P.gg) (C := P.C) (me := me) (f := P.f) (u := u) (b := b) (A := A) (Y := Y) (hG.tok (Nat.le_of_lt ho)) (by omega) (by rw [← s1]; exact htk) zo.ak (by rw [zr.rt, hrt]) zo.bf
        have e1 := (Prod.mk.inj (p1.symm.trans hF)).1
        rw [e1] at p5
        rcases p5 with ⟨q1, _⟩ | ⟨q1, _⟩
        · exact absurd q1 n5
        · exact absurd q1 n2
      · unfold F_93 at hF
        rw [if_pos c1, if_pos c2, if_pos c3] at hF
        have e1 := (Prod.mk.inj hF).1
        have q : ∀ q, q ≠ 18 → q ≠ 21 → D' q = D q := fun q a1 a2 => by rw [← e1, va_up_n _ _ a2, va_up_n _ _ a1]
        have w18 : D' 18 = upd (upd (upd (upd (upd (D 18) 9 0) 11 0) 12 0) 13 (-1)) 14 (-1) := by rw [← e1, va_up_n _ _ (by decide), va_up_s]
        have w3 : D' 18 3 = 1 := by rw [w18]; (iterate 5 rw [pk_un (by decide)]); exact hs
        have w4 : D' 18 4 = D 18 4 := by rw [w18]; iterate 5 rw [pk_un (by decide)]
        have w6 : D' 18 6 = D 18 6 := by rw [w18]; iterate 5 rw [pk_un (by decide)]
        exact ⟨fun _ => Or.inr (Or.inr (by rw [q 16 (by decide) (by decide), w4, w6]; exact ⟨c1, c2, c3⟩)), fun z => by rw [w3] at z; exact absurd z (by decide), fun z => by rw [w3] at z; exact absurd z (by decide), fun z => by rw [w3] at z; exact absurd z (by decide)⟩
  · unfold F_93 at hF
    rw [if_neg c1] at hF
    have e1 := (Prod.mk.inj hF).1
    refine GD.st (s := 0) ?_ (by decide) (by decide) (by decide) (by decide)
    rw [← e1, va_up_n _ _ (by decide), va_up_s]
    (iterate 5 rw [pk_un (by decide)])
    rw [pk_us]
theorem gd_91 {P : Pm} {g : Gh} {e : Nat} {me : Int32} {u b : Nat → Int32} {D : Nat → Nat → Int32} {K A : Int64} {Y : List Mg} (hG : GO g) (hnn : P.nn ≤ 6) (h : LO P g e D K) : GD P.gg (F_91 P.nn P.gg P.C me P.f u b D K A Y).1 (F_91 P.nn P.gg P.C me P.f u b D K A Y).2.1 := by
  unfold F_91
  rw [bnI_e]
  have one : ∀ x : Int32, D 18 3 = 1 → x = D 18 3 → ¬ x = 2 ∧ ¬ x = 3 ∧ ¬ x = 4 := fun x h1 h2 => by rw [h2, h1]; decide
  by_cases c : D 18 3 = 1
  · rw [if_neg (fun z => z c)]
    obtain ⟨o2, o3, o4⟩ := one _ c rfl
    by_cases d : knA K (D 10 9) = 0
    · rw [if_pos d]
      exact gd2 hG hnn (Or.inl h) (fun _ _ _ _ => ⟨fun _ => Or.inl d, fun z => absurd z o2, fun z => absurd z o3, fun z => absurd z o4⟩)
    · rw [if_neg d]
      by_cases r : rdB (D 8) (D 7 9) 0 = 0
      · rw [if_pos r]
        exact gd2 hG hnn (Or.inl h) (fun _ _ _ _ => ⟨fun _ => Or.inr (Or.inl r), fun z => absurd z o2, fun z => absurd z o3, fun z => absurd z o4⟩)
      · rw [if_neg r]
        obtain ⟨D1, r1, r2, r3⟩ := plan_all (me := me) (u := u) (b := b) (A := A) (Y := Y) hG h c d
        rw [r1, bnS_e]
        exact gd2 hG hnn r3 (fun z2 z3 _ z5 => plan_gd hG h c d r1 z2 z3 z5)
  · rw [if_pos c]
    refine gd2 hG hnn (Or.inl h) (fun z2 z3 z4 _ => GD.st rfl c z2 z3 z4)
/-- a NODE hears -/
theorem gd_55k {P : Pm} {g : Gh} {n e : Nat} {u b : Nat → Int32} {D D' : Nat → Nat → Int32} {K A K' A' : Int64} {Y Y' : List Mg} (hG : GO g) (hb12 : g.bg ≤ g.sn + 12) (hgg : 0 < P.gg) (hnn : P.nn ≤ 6) (hf : Rg P.nn P.f) (hn : n < P.nn) (h : NU P g n e D K) (hm : MO P g e (u, b)) (hs : MS P g (u, b)) (hd : ¬ ldB P.f P.nn (nI n) (D 0 8) = 0 → GD P.gg D K)
    (hF : F_55_k P.nn P.gg P.C (nI n) P.f u b D K A Y = (D', K', A', Y')) : ¬ ldB P.f P.nn (nI n) (D 0 8) = 0 → GD P.gg D' K' := fun hl => by
  by_cases hno : isN (u 0)
  · obtain ⟨D2, K2, A2, Z, r1, _, r3⟩ := node_z (A := A) (Y := Y) hG hb12 hgg hnn hf hn h hm hs
    have e1 := r1.symm.trans hF
    rw [Prod.mk.injEq, Prod.mk.injEq] at e1
    obtain ⟨e11, e12, _⟩ := e1
    subst e11 e12
    rcases r3 with ⟨_, q1, _, q3, _⟩ | ⟨q, _⟩ | ⟨q, _⟩
    · rw [q1]
      exact (hd hl).cg (fun q hq => q3 q (Or.inr hq))
    · exact absurd hno q
    · exact absurd hno q
  · have c0 : ¬ u 0 = 0 := fun z => hno (Or.inl z)
    have c4 : ¬ u 0 = 4 := fun z => hno (Or.inr (Or.inl z))
    have c6 : ¬ u 0 = 6 := fun z => hno (Or.inr (Or.inr (Or.inl z)))
    have c9 : ¬ u 0 = 9 := fun z => hno (Or.inr (Or.inr (Or.inr (Or.inl z))))
    have c10 : ¬ u 0 = 10 := fun z => hno (Or.inr (Or.inr (Or.inr (Or.inr (Or.inl z)))))
    have c12 : ¬ u 0 = 12 := fun z => hno (Or.inr (Or.inr (Or.inr (Or.inr (Or.inr z)))))
    unfold F_55_k at hF
    rw [if_neg c0, if_neg c4, if_neg c6, if_neg c9, if_neg c10, if_neg c12] at hF
    simp only [ite_self] at hF
    rw [if_neg hl] at hF
    obtain ⟨D1, K1, A1, Z1, r1, _, r3, _⟩ := hear_z (me := nI n) (A := A) hG hb12 hgg hnn hf (h.ld hl) hm hs
    rw [r1 Y, bnS_e] at hF
    have hg := gd_91 (me := nI n) (u := u) (b := b) (A := A1) (Y := psl Y Z1) hG hnn r3
    obtain ⟨D4, K4, A4, Y4, h4⟩ : ∃ D4 K4 A4 Y4, F_91 P.nn P.gg P.C (nI n) P.f u b D1 K1 A1 (psl Y Z1) = (D4, K4, A4, Y4) := ⟨_, _, _, _, rfl⟩
    rw [h4, bnS_e] at hF
    rw [h4] at hg
    rw [Prod.mk.injEq, Prod.mk.injEq] at hF
    obtain ⟨e11, e12, _⟩ := hF
    subst e11 e12
    exact hg
theorem st_29 {P : Pm} {me : Int32} {u b : Nat → Int32} {D : Nat → Nat → Int32} {K A : Int64} {Y : List Mg} {e2 s2 : Int32} (hnn : P.nn ≤ 6) : (F_29 P.nn P.gg P.C me P.f u b D K A Y e2 s2).1 18 3 = 0 := by
  have hF : ∀ (D0 : Nat → Nat → Int32) (Y : List Mg), ∃ D1, F_33 P.nn P.gg P.C me P.f u b D0 K A Y = (D1, 0, 0, Y) ∧ D1 18 3 = 0 := fun D0 Y => by
    refine ⟨_, by unfold F_33; rfl, ?_⟩
    rw [va_up_s, pk_un (by decide), pk_us]
  obtain ⟨D1, f1, f2⟩ := hF (va_up D 0 (upd (upd (D 0) 7 e2) 8 s2)) Y
  unfold F_29
  by_cases c : ldB P.f P.nn me s2 = 0
  · rw [if_pos c, f1, bnS_e]; exact f2
  · rw [if_neg c]
    obtain ⟨D2, m1, m2⟩ := masks_z (nn := P.nn) (gg := P.gg) (C := P.C) (me := me) (f := P.f) (u := u) (b := b) (K := 0) (A := 0) P.gg 0 (va_up D1 7 (upd (upd (D1 7) 7 e2) 8 s2))
    obtain ⟨Z, z1, _⟩ := poll_w (nn := P.nn) (gg := P.gg) (C := P.C) (me := me) (f := P.f) (u := u) (b := b) (D := D2) (K := 0) (A := 0) hnn
    unfold F_32
    rw [f1, bnS_e, bnS_e, m1 Y, z1 Y, bnS_e]
    show D2 18 3 = 0
    rw [m2 18 (by decide), va_up_n _ _ (by decide)]; exact f2
theorem gd_55 {P : Pm} {g : Gh} {n e e2 : Nat} {u b : Nat → Int32} {D D' : Nat → Nat → Int32} {K A K' A' : Int64} {Y Y' : List Mg} (hG : GO g) (hb12 : g.bg ≤ g.sn + 12) (hep : g.ep < 2 ^ 31) (hgg : 0 < P.gg) (hnn : P.nn ≤ 6) (hf : Rg P.nn P.f) (hn : n < P.nn) (h : NU P g n e D K) (hm : MO P g e2 (u, b)) (hs : MS P g (u, b)) (hd : ¬ ldB P.f P.nn (nI n) (D 0 8) = 0 → GD P.gg D K)
    (hF : F_55 P.nn P.gg P.C (nI n) P.f u b D K A Y = (D', K', A', Y')) : ¬ ldB P.f P.nn (nI n) (D' 0 8) = 0 → GD P.gg D' K' := by
  have h3 : u 3 = nI e2 := hm.ep.1
  have h4 : u 4 = g.mp e2 := hm.ep.2.2
  have he := h.ep.2.1
  have he2 := hm.ep.2.1
  have key : ∀ {e : Nat} {D : Nat → Nat → Int32} {K A : Int64} {Y : List Mg}, NU P g n e D K → MO P g e (u, b) → F_55_k P.nn P.gg P.C (nI n) P.f u b D K A Y = (D', K', A', Y') → D' 0 = D 0 := fun {e D K A Y} h hm hF => by
    obtain ⟨D2, K2, A2, Z, r1, _, r3⟩ := node_z (A := A) (Y := Y) hG hb12 hgg hnn hf hn h hm hs
    have e1 := (Prod.mk.inj (r1.symm.trans hF)).1
    subst e1
    rcases r3 with ⟨_, _, _, q3, _⟩ | ⟨_, _, q⟩ | ⟨_, _, q, _⟩
    · exact q3 0 (Or.inl rfl)
    · exact q.2.2.2.1 0 (by decide)
    · rw [q]
  unfold F_55 at hF
  rw [h.ep.1, h3] at hF
  by_cases c1 : nI e ≤ nI e2
  · rw [if_pos c1] at hF
    have c1 := (nI_leI (by omega) (by omega)).mp c1
    by_cases c2 : nI e2 ≤ nI e
    · rw [if_pos c2] at hF
      have c2 := (nI_leI (by omega) (by omega)).mp c2
      have : e2 = e := by omega
      subst this
      rw [key h hm hF]
      exact gd_55k hG hb12 hgg hnn hf hn h hm hs hd hF
    · rw [if_neg c2, h4] at hF
      obtain ⟨D1, K1, A1, Z1, f1, _⟩ := follow_z (P := P) (g := g) (n := n) (e2 := e2) (u := u) (b := b) (D := D) (K := K) (A := A) hnn
      obtain ⟨D3, K3, A3, Y3, r1, r2, _, _⟩ := follow_lem (u := u) (b := b) (K := K) (A := A) (Y := []) h.du h.rp h.rk h.ni c1 he2 (Nat.le_trans h.ep.2.2.2 c1) (fun y hy => by cases hy)
      have e3 := (f1 []).symm.trans r1
      rw [Prod.mk.injEq, Prod.mk.injEq] at e3
      obtain ⟨e31, e32, _⟩ := e3
      subst e31 e32
      have h0 := st_29 (P := P) (me := nI n) (u := u) (b := b) (D := D) (K := K) (A := A) (Y := Y) (e2 := nI e2) (s2 := g.mp e2) hnn
      rw [f1 Y] at h0
      rw [f1 Y, bnS_e] at hF
      rw [key r2 hm hF]
      exact gd_55k hG hb12 hgg hnn hf hn r2 hm hs (fun _ => GD.st h0 (by decide) (by decide) (by decide) (by decide)) hF
  · rw [if_neg c1] at hF
    rw [Prod.mk.injEq, Prod.mk.injEq] at hF
    obtain ⟨e11, e12, _⟩ := hF
    subst e11 e12
    exact hd
/-- a TICK of a NODE -/
theorem gd_136 {P : Pm} {g : Gh} {n e : Nat} {u b : Nat → Int32} {D D' : Nat → Nat → Int32} {K A K' A' : Int64} {Y Y' : List Mg} (hG : GO g) (hgg : 0 < P.gg) (hnn : P.nn ≤ 6) (hf : Rg P.nn P.f) (hn : n < P.nn) (h : NU P g n e D K)
    (hF : F_136 P.nn P.gg P.C (nI n) P.f u b D K A Y = (D', K', A', Y')) : ¬ ldB P.f P.nn (nI n) (D 0 8) = 0 → GD P.gg D' K' := fun c => by
  obtain ⟨D1, Zf, r1, r2, r3, r4, r5, r6⟩ := flush_z (nn := P.nn) (gg := P.gg) (C := P.C) (me := nI n) (f := P.f) (u := u) (b := b) (K := K) (A := A) (Bg_X P g) h.du
  have hN : NU P g n e D1 K := h.disk (fun q hq => r4 q (by omega) (by omega) (by omega)) r2 (fun k _ ⟨s, s1, s2, s3⟩ => Or.inl ⟨s, s1, by rw [r4 6 (by decide) (by decide) (by decide)]; exact s2, r5 s s1⟩)
  have e0 : D1 0 = D 0 := r4 0 (by decide) (by decide) (by decide)
  unfold F_136 at hF
  rw [r1 Y, bnS_e, if_neg (by rw [e0]; exact c)] at hF
  have hLO := hN.ld (by rw [e0]; exact c)
  obtain ⟨D2, Zw, w1, w2, _⟩ := work_z (me := nI n) (u := u) (b := b) (A := A) hG hgg hnn (by omega) hf hN.ni hLO
  rw [w1 _, bnS_e] at hF
  have hg := gd_91 (me := nI n) (u := u) (b := b) (A := 0) (Y := psl (psl Y Zf) Zw) hG hnn w2
  obtain ⟨D4, K4, A4, Y4, h4⟩ : ∃ D4 K4 A4 Y4, F_91 P.nn P.gg P.C (nI n) P.f u b D2 K 0 (psl (psl Y Zf) Zw) = (D4, K4, A4, Y4) := ⟨_, _, _, _, rfl⟩
  rw [h4, bnS_e] at hF
  rw [h4] at hg
  rw [Prod.mk.injEq, Prod.mk.injEq] at hF
  obtain ⟨e11, e12, _⟩ := hF
  subst e11 e12
  exact hg

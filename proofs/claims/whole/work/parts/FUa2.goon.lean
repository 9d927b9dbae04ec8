/-! goOn, one step behind the other -/
def GIc (P : Pm) (g : Gh) (e : Nat) (me : Int32) (A : Int64) (Y : List Mg) (I : (Nat → Nat → Int32) → Int64 → List Mg → Prop) (w1 : Int32) (s : St) : Prop :=
  ∃ (D' : Nat → Nat → Int32) (K' : Int64) (Zt Zp : List Mg), s = (D', K', A, psl (psl Y Zt) Zp) ∧ I D' K' Zt ∧ LO P g e D' K' ∧ ((D' 18 3 = w1 ∧ Zp = []) ∨ (¬ D' 18 3 = w1 ∧ PZ P.nn P.gg me D' Zp))
theorem gi6 {P : Pm} {g : Gh} {e : Nat} {me : Int32} {u b : Nat → Int32} {D : Nat → Nat → Int32} {K A : Int64} {Y : List Mg} {w1 : Int32} {I : (Nat → Nat → Int32) → Int64 → List Mg → Prop} {Zt : List Mg} (hnn : P.nn ≤ 6) (h : LO P g e D K) (hI : I D K Zt) : GIc P g e me A Y I w1 (F_91_k6 P.nn P.gg P.C me P.f u b D K A (psl Y Zt) w1) := by
  unfold F_91_k6
  by_cases c : D 18 3 = w1
  · rw [if_pos c]
    exact ⟨D, K, Zt, [], rfl, hI, h, Or.inl ⟨c, rfl⟩⟩
  · rw [if_neg c]
    obtain ⟨Z, z1, z2⟩ := push_z (nn := P.nn) (gg := P.gg) (C := P.C) (me := me) (f := P.f) (u := u) (b := b) (D := D) (K := K) (A := A) hnn
    rw [z1 (psl Y Zt), bnS_e]
    exact ⟨D, K, Zt, Z, rfl, hI, h, Or.inr ⟨c, z2⟩⟩
/-- what a property must stand -/
def GIh (P : Pm) (g : Gh) (e : Nat) (me : Int32) (u b : Nat → Int32) (A : Int64) (Y : List Mg) (I : (Nat → Nat → Int32) → Int64 → List Mg → Prop) : Prop :=
  (∀ D D1 K, LO P g e D K → D 18 3 = 1 → ¬ knA K (D 10 9) = 0 → ¬ rdB (D 8) (D 7 9) 0 = 0 → F_93 P.nn P.gg P.C me P.f u b D K A Y = (D1, K, A, Y) → K18 D D1 → (LO P g e D1 K ∨ TE P g e D1 K) → I D K [] → I D1 K []) ∧
  (∀ D D1 K K1, LO P g e D K → D 18 3 = 2 → D 18 12 = 0 → bnS (F_104 P.nn P.gg P.C me P.f u b D K A Y) (fun D3 K3 A3 Y3 => bnS (F_114 P.nn P.gg P.C me P.f u b D3 K3 A3 Y3) (fun D4 K4 A4 Y4 => (D4, K4, A4, Y4))) = (D1, K1, A, Y) → (∀ q, q < 10 → D1 q = D q) → (LO P g e D1 K1 ∨ TE P g e D1 K1) → I D K [] → I D1 K1 []) ∧
  (∀ D D1 K, LO P g e D K → D 18 3 = 3 → ¬ arS P.gg D 8 0 = 0 → F_121 P.nn P.gg P.C me P.f u b D K A Y = (D1, K, A, Y) → (∀ q, q < 10 → D1 q = D q) → LO P g e D1 K → I D K [] → I D1 K []) ∧
  (∀ D K, LO P g e D K → D 18 3 = 4 → ¬ arS P.gg D 1 8 = 0 → TE P g e (va_up (va_up D 7 (upd (upd (D 7) 10 0) 14 0)) 18 (upd (D 18) 3 5)) K → I D K [] → I (va_up (va_up D 7 (upd (upd (D 7) 10 0) 14 0)) 18 (upd (D 18) 3 5)) K []) ∧
  (∀ D K tl, TE P g e D K → LO P g e (va_up D 18 (upd (D 18) 3 0)) K → I D K [] → I (va_up D 18 (upd (D 18) 3 0)) K [mTL P.nn me D tl])
theorem gi5 {P : Pm} {g : Gh} {e : Nat} {me : Int32} {u b : Nat → Int32} {D : Nat → Nat → Int32} {K A : Int64} {Y : List Mg} {w1 : Int32} {I : (Nat → Nat → Int32) → Int64 → List Mg → Prop} (hH : GIh P g e me u b A Y I) (hnn : P.nn ≤ 6) (h : LO P g e D K ∨ TE P g e D K) (hI : I D K []) : GIc P g e me A Y I w1 (F_91_k5 P.nn P.gg P.C me P.f u b D K A Y w1) := by
  unfold F_91_k5
  rcases h with h | h
  · rw [if_pos h.no5]
    exact gi6 (Zt := []) hnn h hI
  · rw [if_neg (fun z => z h.s5)]
    obtain ⟨D1, Y1, r1, r2, _, r4⟩ := tell_all (nn := P.nn) (gg := P.gg) (C := P.C) (me := me) (f := P.f) (u := u) (b := b) (A := A) (Y := []) h (fun y hy => by cases hy)
    have hF : ∃ tl, ∀ Y, F_123 P.nn P.gg P.C me P.f u b D K A Y = (va_up D 18 (upd (D 18) 3 0), K, A, pst Y (mTL P.nn me D tl)) := ⟨_, fun Y => by unfold F_123; rw [bnN_e]; rfl⟩
    obtain ⟨tl, hF⟩ := hF
    have e1 := (Prod.mk.inj ((hF []).symm.trans r1)).1
    subst e1
    rw [hF Y, bnS_e]
    exact gi6 (Zt := [mTL P.nn me D tl]) hnn r2 (hH.2.2.2.2 D K tl h r2 hI)
theorem gi4 {P : Pm} {g : Gh} {e : Nat} {me : Int32} {u b : Nat → Int32} {D : Nat → Nat → Int32} {K A : Int64} {Y : List Mg} {w1 : Int32} {I : (Nat → Nat → Int32) → Int64 → List Mg → Prop} (hG : GO g) (hgg : 0 < P.gg) (hH : GIh P g e me u b A Y I) (hnn : P.nn ≤ 6) (h : LO P g e D K ∨ TE P g e D K) (hI : I D K []) : GIc P g e me A Y I w1 (F_91_k4 P.nn P.gg P.C me P.f u b D K A Y w1) := by
  unfold F_91_k4
  by_cases c : D 18 3 = 4
  · rw [if_neg (fun z => z c), bnI_e]
    rcases h with h | h
    · by_cases d : arS P.gg D (9 - 8) 8 = 0
      · rw [if_pos d]
        exact gi5 hH hnn (Or.inl h) hI
      · rw [if_neg d]
        have := commit_all hG hgg hnn h c d
        exact gi5 hH hnn (Or.inr this) (hH.2.2.2.1 D K h c d this hI)
    · rw [h.s5] at c; exact absurd c (by decide)
  · rw [if_pos c]
    exact gi5 hH hnn h hI
theorem gi3 {P : Pm} {g : Gh} {e : Nat} {me : Int32} {u b : Nat → Int32} {D : Nat → Nat → Int32} {K A : Int64} {Y : List Mg} {w1 : Int32} {I : (Nat → Nat → Int32) → Int64 → List Mg → Prop} (hG : GO g) (hgg : 0 < P.gg) (hH : GIh P g e me u b A Y I) (hnn : P.nn ≤ 6) (h : LO P g e D K ∨ TE P g e D K) (hI : I D K []) : GIc P g e me A Y I w1 (F_91_k3 P.nn P.gg P.C me P.f u b D K A Y w1) := by
  unfold F_91_k3
  by_cases c : D 18 3 = 3
  · rw [if_neg (fun z => z c), bnI_e]
    rcases h with h | h
    · by_cases d : arS P.gg D (8 - 0) 0 = 0
      · rw [if_pos d]
        exact gi4 hG hgg hH hnn (Or.inl h) hI
      · rw [if_neg d]
        obtain ⟨D1, r1, r2, r3⟩ := root_all (me := me) (u := u) (b := b) (A := A) (Y := Y) hG hgg hnn h c d
        rw [r1, bnS_e]
        exact gi4 hG hgg hH hnn (Or.inl r3) (hH.2.2.1 D D1 K h c d r1 r2 r3 hI)
    · rw [h.s5] at c; exact absurd c (by decide)
  · rw [if_pos c]
    exact gi4 hG hgg hH hnn h hI
theorem gi2 {P : Pm} {g : Gh} {e : Nat} {me : Int32} {u b : Nat → Int32} {D : Nat → Nat → Int32} {K A : Int64} {Y : List Mg} {w1 : Int32} {I : (Nat → Nat → Int32) → Int64 → List Mg → Prop} (hG : GO g) (hgg : 0 < P.gg) (hH : GIh P g e me u b A Y I) (hnn : P.nn ≤ 6) (h : LO P g e D K ∨ TE P g e D K) (hI : I D K []) : GIc P g e me A Y I w1 (F_91_k2 P.nn P.gg P.C me P.f u b D K A Y w1) := by
  unfold F_91_k2
  by_cases c : D 18 3 = 2
  · rw [if_neg (fun z => z c)]
    rcases h with h | h
    · by_cases d : D 18 12 = 0
      · rw [if_neg (fun z => z d)]
        obtain ⟨D1, K1, r1, r2, r3⟩ := change_all (me := me) (u := u) (b := b) (A := A) (Y := Y) hG h c d
        have key : bnS (F_104 P.nn P.gg P.C me P.f u b D K A Y) (fun D3 K3 A3 Y3 => bnS (F_114 P.nn P.gg P.C me P.f u b D3 K3 A3 Y3) (fun D4 K4 A4 Y4 => F_91_k3 P.nn P.gg P.C me P.f u b D4 K4 A4 Y4 w1)) = F_91_k3 P.nn P.gg P.C me P.f u b D1 K1 A Y w1 := by
          rw [bnS_2 (F_104 P.nn P.gg P.C me P.f u b D K A Y) (F_114 P.nn P.gg P.C me P.f u b) (fun D4 K4 A4 Y4 => F_91_k3 P.nn P.gg P.C me P.f u b D4 K4 A4 Y4 w1), r1, bnS_e]
        rw [key]
        exact gi3 hG hgg hH hnn r3 (hH.2.1 D D1 K K1 h c d r1 r2 r3 hI)
      · rw [if_pos d]
        exact gi3 hG hgg hH hnn (Or.inl h) hI
    · rw [h.s5] at c; exact absurd c (by decide)
  · rw [if_pos c]
    exact gi3 hG hgg hH hnn h hI
theorem goon_I {P : Pm} {g : Gh} {e : Nat} {me : Int32} {u b : Nat → Int32} {D : Nat → Nat → Int32} {K A : Int64} {Y : List Mg} {I : (Nat → Nat → Int32) → Int64 → List Mg → Prop} (hG : GO g) (hgg : 0 < P.gg) (hH : GIh P g e me u b A Y I) (hnn : P.nn ≤ 6) (h : LO P g e D K) (hI : I D K []) : GIc P g e me A Y I (D 18 3) (F_91 P.nn P.gg P.C me P.f u b D K A Y) := by
  unfold F_91
  rw [bnI_e]
  by_cases c : D 18 3 = 1
  · rw [if_neg (fun z => z c)]
    by_cases d : knA K (D 10 9) = 0
    · rw [if_pos d]
      exact gi2 hG hgg hH hnn (Or.inl h) hI
    · rw [if_neg d]
      by_cases rd : rdB (D 8) (D 7 9) 0 = 0
      · rw [if_pos rd]
        exact gi2 hG hgg hH hnn (Or.inl h) hI
      · rw [if_neg rd]
        obtain ⟨D1, r1, r2, r3⟩ := plan_all (me := me) (u := u) (b := b) (A := A) (Y := Y) hG h c d
        rw [r1, bnS_e]
        exact gi2 hG hgg hH hnn r3 (hH.1 D D1 K h c d rd r1 r2 r3 hI)
  · rw [if_pos c]
    exact gi2 hG hgg hH hnn (Or.inl h) hI
/-- goOn: the table stays, but for STORE and COMMIT -/
theorem goon_q {P : Pm} {g : Gh} {e : Nat} {me : Int32} {u b : Nat → Int32} {D D' : Nat → Nat → Int32} {K A K' A' : Int64} {Y Y' : List Mg} (hG : GO g) (hgg : 0 < P.gg) (hnn : P.nn ≤ 6) (h : LO P g e D K) (hF : F_91 P.nn P.gg P.C me P.f u b D K A Y = (D', K', A', Y')) : (D' 18 3 = 3 ∨ D' 18 3 = 4) ∨ (D' 7 10 = 0 ∧ D' 7 14 = 0 ∧ D' 18 3 = 0) ∨ (K' = K ∧ (∀ q, q < 18 → D' q = D q) ∧ (D 18 3 ≤ 2 ∨ D' 18 3 = D 18 3)) := by
  have hH : GIh P g e me u b A Y (fun D1 K1 _ => (D1 18 3 = 3 ∨ D1 18 3 = 4) ∨ (D1 7 10 = 0 ∧ D1 7 14 = 0 ∧ (D1 18 3 = 0 ∨ D1 18 3 = 5)) ∨ (K1 = K ∧ (∀ q, q < 18 → D1 q = D q) ∧ (D 18 3 ≤ 2 ∨ D1 18 3 = D 18 3))) := by
    refine ⟨fun D1 D2 K1 _ hs _ _ _ hk _ hI => ?_, fun D1 D2 K1 K2 hL hs h12 hq _ hL2 hI => ?_, fun D1 D2 K1 hL hs ha hq _ hL2 hI => ?_, fun D1 K1 _ _ _ _ hI => ?_, fun D1 K1 tl hT _ hI => ?_⟩
    · rcases hI with (y | y) | ⟨_, _, y | y⟩ | ⟨y1, y2, y3⟩
      · rw [hs] at y; exact absurd y (by decide)
      · rw [hs] at y; exact absurd y (by decide)
      · rw [hs] at y; exact absurd y (by decide)
      · rw [hs] at y; exact absurd y (by decide)
      · exact Or.inr (Or.inr ⟨y1, fun q hq => by rw [hk q hq, y2 q hq], Or.inl (by rcases y3 with y3 | y3; exact y3; rw [← y3, hs]; decide)⟩)
    · obtain ⟨x1, x2⟩ := change_x hG hL hs h12 hq
      rcases x2 with x2 | ⟨x2, x3, x4⟩
      · exact Or.inl (Or.inl x2)
      · rcases hI with (y | y) | ⟨_, _, y | y⟩ | ⟨y1, y2, y3⟩
        · rw [hs] at y; exact absurd y (by decide)
        · rw [hs] at y; exact absurd y (by decide)
        · rw [hs] at y; exact absurd y (by decide)
        · rw [hs] at y; exact absurd y (by decide)
        · exact Or.inr (Or.inr ⟨by rw [x3, y1], fun q hq => by rw [x4 q hq, y2 q hq], Or.inl (by rcases y3 with y3 | y3; exact y3; rw [← y3, hs]; decide)⟩)
    · exact Or.inl (Or.inr (root_x hq).1)
    · exact Or.inr (Or.inl ⟨by rw [va_up_n _ _ (by decide), va_up_s, pk_un (by decide), pk_us], by rw [va_up_n _ _ (by decide), va_up_s, pk_us], Or.inr (by rw [va_up_s, pk_us])⟩)
    · rcases hI with (y | y) | ⟨y1, y2, _⟩ | ⟨y1, y2, y3⟩
      · rw [hT.s5] at y; exact absurd y (by decide)
      · rw [hT.s5] at y; exact absurd y (by decide)
      · exact Or.inr (Or.inl ⟨by rw [va_up_n _ _ (by decide)]; exact y1, by rw [va_up_n _ _ (by decide)]; exact y2, Or.inl (by rw [va_up_s, pk_us])⟩)
      · exact Or.inr (Or.inr ⟨y1, fun q hq => by rw [va_up_n _ _ (by omega), y2 q hq], Or.inl (by rcases y3 with y3 | y3; exact y3; rw [hT.s5] at y3; exact absurd y3.symm h.no5)⟩)
  obtain ⟨D2, K2, Zt, Zp, r1, r2, r3, _⟩ := goon_I (me := me) (u := u) (b := b) (A := A) (Y := Y) hG hgg hH hnn h (Or.inr (Or.inr ⟨rfl, fun _ _ => rfl, Or.inr rfl⟩))
  rw [r1, Prod.mk.injEq, Prod.mk.injEq] at hF
  obtain ⟨e1, e2, _⟩ := hF
  subst e1 e2
  rcases r2 with r2 | ⟨a1, a2, a3 | a3⟩ | r2
  · exact Or.inl r2
  · exact Or.inr (Or.inl ⟨a1, a2, a3⟩)
  · exact absurd a3 r3.no5
  · exact Or.inr (Or.inr r2)
/-- plan: what comes out -/
theorem plan_x {P : Pm} {g : Gh} {e : Nat} {me : Int32} {u b : Nat → Int32} {D D' : Nat → Nat → Int32} {K A : Int64} {Y : List Mg} (hG : GO g) (h : LO P g e D K) (hs : D 18 3 = 1) (hk : ¬ knA K (D 10 9) = 0) (hF : F_93 P.nn P.gg P.C me P.f u b D K A Y = (D', K, A, Y)) :
    D' 18 4 = D 18 4 ∧ D' 18 6 = D 18 6 ∧ ((¬ D 16 960 ≤ D 18 4 ∧ D' 18 3 = 0) ∨ (D 16 960 ≤ D 18 4 ∧ D 16 960 = D 18 4 ∧ D' 18 3 = 3) ∨ (D 16 960 ≤ D 18 4 ∧ ¬ D 16 960 = D 18 4 ∧ D 16 960 = D 18 6 ∧ (D' 18 3 = 5 ∨ D' 18 3 = 2)) ∨ (D 16 960 ≤ D 18 4 ∧ ¬ D 16 960 = D 18 4 ∧ ¬ D 16 960 = D 18 6 ∧ D' 18 3 = 1)) := by
  have h512 := hG.1
  obtain ⟨r, zr⟩ := h.idle (by rw [hs]; decide)
  obtain ⟨o, zo⟩ := h.wa (by rw [hs]; decide)
  have ho := zo.o1
  have htk := zr.tk hk
  by_cases c1 : D 16 960 ≤ D 18 4
  · by_cases c2 : D 16 960 = D 18 4
    · unfold F_93 at hF
      rw [if_pos c1, if_neg (fun z => z c2)] at hF
      have e1 := (Prod.mk.inj hF).1
      refine ⟨?_, ?_, Or.inr (Or.inl ⟨c1, c2, ?_⟩)⟩
      · rw [← e1, va_up_n _ _ (by decide), va_up_s]
        (iterate 7 rw [pk_un (by decide)])
      · rw [← e1, va_up_n _ _ (by decide), va_up_s]
        (iterate 7 rw [pk_un (by decide)])
      · rw [← e1, va_up_n _ _ (by decide), va_up_s]
        (iterate 6 rw [pk_un (by decide)])
        rw [pk_us]
    · by_cases c3 : D 16 960 = D 18 6
      · have hrt : efv g.ops r = efv g.ops o := by rw [← zr.rt, c3, zo.bf]
        obtain ⟨s1, s2⟩ := same_root (by have := zr.r1; omega) (by omega) hrt
        obtain ⟨D2, p1, p2, p3, p4, p5⟩ := plan_lem (G := Bg P g) (nn := P.nn) (gg := P.gg) (C := P.C) (me := me) (f := P.f) (u := u) (b := b) (A := A) (Y := Y) (hG.tok (Nat.le_of_lt ho)) (by omega) (by rw [← s1]; exact htk) zo.ak (by rw [zr.rt, hrt]) zo.bf
        have e1 := (Prod.mk.inj (p1.symm.trans hF)).1
        subst e1
        refine ⟨by rw [p3, zo.ak.op], p4, Or.inr (Or.inr (Or.inl ⟨c1, c2, c3, ?_⟩))⟩
        rcases p5 with ⟨q1, _⟩ | ⟨q1, _⟩
        · exact Or.inl q1
        · exact Or.inr q1
      · unfold F_93 at hF
        rw [if_pos c1, if_pos c2, if_pos c3] at hF
        have e1 := (Prod.mk.inj hF).1
        have w18 : D' 18 = upd (upd (upd (upd (upd (D 18) 9 0) 11 0) 12 0) 13 (-1)) 14 (-1) := by rw [← e1, va_up_n _ _ (by decide), va_up_s]
        have w3 : D' 18 3 = 1 := by rw [w18]; (iterate 5 rw [pk_un (by decide)]); exact hs
        have w4 : D' 18 4 = D 18 4 := by rw [w18]; iterate 5 rw [pk_un (by decide)]
        have w6 : D' 18 6 = D 18 6 := by rw [w18]; iterate 5 rw [pk_un (by decide)]
        exact ⟨w4, w6, Or.inr (Or.inr (Or.inr ⟨c1, c2, c3, w3⟩))⟩
  · unfold F_93 at hF
    rw [if_neg c1] at hF
    have e1 := (Prod.mk.inj hF).1
    refine ⟨?_, ?_, Or.inl ⟨c1, ?_⟩⟩
    · rw [← e1, va_up_n _ _ (by decide), va_up_s]
      (iterate 6 rw [pk_un (by decide)])
    · rw [← e1, va_up_n _ _ (by decide), va_up_s]
      (iterate 6 rw [pk_un (by decide)])
    · rw [← e1, va_up_n _ _ (by decide), va_up_s]
      (iterate 5 rw [pk_un (by decide)])
      rw [pk_us]
theorem change_op {P : Pm} {g : Gh} {e : Nat} {me : Int32} {u b : Nat → Int32} {D D' : Nat → Nat → Int32} {K K' A A' : Int64} {Y Y' : List Mg} (hG : GO g) (h : LO P g e D K) (hs : D 18 3 = 2) (h12 : D 18 12 = 0) (hq : bnS (F_104 P.nn P.gg P.C me P.f u b D K A Y) (fun D3 K3 A3 Y3 => bnS (F_114 P.nn P.gg P.C me P.f u b D3 K3 A3 Y3) (fun D4 K4 A4 Y4 => (D4, K4, A4, Y4))) = (D', K', A', Y')) : D' 18 4 = D 18 4 ∧ D' 18 6 = D 18 6 := by
  have h512 := hG.1
  rcases h.st with ⟨z, _⟩ | ⟨z, _⟩ | ⟨_, o, ⟨ho, ho2⟩, z1, z2, z3, z4⟩ | ⟨z, _⟩ | ⟨z, _⟩
  · rw [hs] at z; exact absurd z (by decide)
  · rw [hs] at z; exact absurd z (by decide)
  · have hT := hG.tok (Nat.le_of_lt ho)
    have hS := hG.stb (Nat.le_of_lt ho)
    have hFE : FE g.ops (Bk g.ops g.bg) o D K := z1.mono (fun w hw => hw.1)
    rcases change_lem (nn := P.nn) (gg := P.gg) (C := P.C) (me := me) (f := P.f) (u := u) (b := b) (A := A) (Y := Y) (by omega) hT hS hFE h12 with ⟨k4, hn, D2, r1, r2, r3, r4⟩ | ⟨a, T', D1, K1, r1, r2, r3, r4⟩
    · have hF : F_114 P.nn P.gg P.C me P.f u b D2 K A Y = (D2, K, A, Y) := by
        unfold F_114
        rw [if_neg (by rw [r2]; decide)]
      rw [r1, bnS_e, hF, bnS_e] at hq
      rw [Prod.mk.injEq, Prod.mk.injEq] at hq
      obtain ⟨e1, e2, _⟩ := hq
      subst e1 e2
      exact ⟨r3 4 (by decide), r3 6 (by decide)⟩
    · obtain ⟨D4, y1, y2⟩ := seal_lem (bg := g.bg) (nn := P.nn) (gg := P.gg) (C := P.C) (me := me) (f := P.f) (u := u) (b := b) (A := A) (Y := Y) (by omega) ho hT z1.tk ⟨_, r1⟩ r4
      rw [r3, bnS_e, y1, bnS_e] at hq
      rw [Prod.mk.injEq, Prod.mk.injEq] at hq
      obtain ⟨e1, e2, _⟩ := hq
      subst e1 e2
      exact ⟨by rw [y2.2.1, z1.ak.op], y2.2.2.1 6 (Or.inr rfl)⟩
  · rw [hs] at z; exact absurd z (by decide)
  · rw [hs] at z; exact absurd z (by decide)
theorem root_op {nn gg : Nat} {C me : Int32} {f u b : Nat → Int32} {D D' : Nat → Nat → Int32} {K K' A A' : Int64} {Y Y' : List Mg} (h : F_121 nn gg C me f u b D K A Y = (D', K', A', Y')) : ∀ x, x ≠ 3 → D' 18 x = D 18 x := by
  intro x hx
  unfold F_121 at h
  rw [bnN_e] at h
  by_cases c : D 16 960 = nI (D 18 4).toNatClampNeg
  · rw [if_pos c] at h
    have e := (Prod.mk.inj h).1
    rw [← e, va_up_n _ _ (by decide), va_up_s, pk_un hx]
  · rw [if_neg c] at h
    have e := (Prod.mk.inj h).1
    rw [← e, va_up_n _ _ (by decide), va_up_s, pk_un hx]
/-- goOn doesn't change which OPERATION it is -/
theorem goon_op {P : Pm} {g : Gh} {e : Nat} {me : Int32} {u b : Nat → Int32} {D D' : Nat → Nat → Int32} {K A K' A' : Int64} {Y Y' : List Mg} (hG : GO g) (hgg : 0 < P.gg) (hnn : P.nn ≤ 6) (h : LO P g e D K) (hF : F_91 P.nn P.gg P.C me P.f u b D K A Y = (D', K', A', Y')) : D' 18 4 = D 18 4 := by
  have hH : GIh P g e me u b A Y (fun D1 _ _ => D1 18 4 = D 18 4) := ⟨fun D1 D2 K1 hL hs hk _ hF _ _ hI => (plan_x hG hL hs hk hF).1.trans hI, fun D1 D2 K1 K2 hL hs h12 hq _ _ hI => (change_op hG hL hs h12 hq).1.trans hI, fun D1 D2 K1 hL hs ha hq _ _ hI => (root_op hq 4 (by decide)).trans hI, fun D1 K1 _ _ _ _ hI => by
    show va_up (va_up D1 7 (upd (upd (D1 7) 10 0) 14 0)) 18 (upd (D1 18) 3 5) 18 4 = D 18 4
    rw [va_up_s, pk_un (by decide)]; exact hI, fun D1 K1 tl _ _ hI => by
    show va_up D1 18 (upd (D1 18) 3 0) 18 4 = D 18 4
    rw [va_up_s, pk_un (by decide)]; exact hI⟩
  obtain ⟨D2, K2, Zt, Zp, r1, r2, r3, _⟩ := goon_I (me := me) (u := u) (b := b) (A := A) (Y := Y) hG hgg hH hnn h rfl
  rw [r1, Prod.mk.injEq] at hF
  rw [← hF.1]
  exact r2

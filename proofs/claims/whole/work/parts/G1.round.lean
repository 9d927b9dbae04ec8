/-! from when on all NODES are at the new EPOCH: one hand-over -/
def RG (P : Pm) (g : Gh) (l : Nat) (S : SS) : Prop :=
  SU P g S ∧ S.2.2.1.length ≤ 128 ∧ lds P g l g.ep ∧ (∀ n, n < P.nn → eN S n = g.ep) ∧ (∀ x ∈ S.2.2.1, x.1 3 = nI g.ep) ∧ CL1 P g S ∧ CL2 P g l S ∧ GDs P g S
/-- the leader hears and goes on -/
def LDr (P : Pm) (g : Gh) (l : Nat) (u b : Nat → Int32) (D : Nat → Nat → Int32) (K A : Int64) (D' : Nat → Nat → Int32) (K' A' : Int64) (Y Z : List Mg) : Prop :=
  ∃ (D1 : Nat → Nat → Int32) (K1 : Int64) (Z1 Z2 : List Mg), Z = Z1 ++ Z2 ∧ (∀ Y, F_67 P.nn P.gg P.C (nI l) P.f u b D K A Y = (D1, K1, A', psl Y Z1)) ∧ HRl P.nn P.gg (nI l) g u b D K A D1 K1 A' Z1 ∧ LO P g g.ep D1 K1 ∧ K9 u D D1 ∧
    F_91 P.nn P.gg P.C (nI l) P.f u b D1 K1 A' (psl Y Z1) = (D', K', A', psl (psl Y Z1) Z2) ∧ LO P g g.ep D' K' ∧ GZ P g g.ep (D1 18 3) D1 K1 D' K' Z2 ∧ K7 D1 D' ∧ (∀ q, q < 7 → D' q = D q) ∧ GD P.gg D' K'
/-- a MESSAGE at NODE j -/
def NK2 (P : Pm) (g : Gh) (l j : Nat) (u b : Nat → Int32) (D : Nat → Nat → Int32) (K A : Int64) (D' : Nat → Nat → Int32) (K' A' : Int64) (Y Z : List Mg) : Prop :=
  (isN (u 0) ∧ K' = K ∧ A' = A ∧ (∀ q, q = 0 ∨ 6 < q → D' q = D q) ∧ NRl P j u b D D' Z) ∨ (¬ isN (u 0) ∧ j = l ∧ LDr P g l u b D K A D' K' A' Y Z) ∨ (¬ isN (u 0) ∧ j ≠ l ∧ D' = D ∧ K' = K ∧ A' = A ∧ Z = [])
def St1 (P : Pm) (g : Gh) (l : Nat) (x : Mg) (Z : List Mg) (S S' : SS) : Prop :=
  S.2.2.1[0]? = some x ∧ smL S'.2.2.1 (psl (tkl S.2.2.1 0) Z) ∧ MO P g g.ep x ∧ MS P g x ∧ (∀ z ∈ Z, MS P g z ∧ z.1 3 = nI g.ep) ∧
  ((x.1 2 = nI P.nn ∧ S'.2.2.2 = S.2.2.2 ∧ ahR P.nn P.f x (S.1, S.2.1, tkl S.2.2.1 0, S.2.2.2) S') ∨
   (∃ (j : Nat) (D' : Nat → Nat → Int32) (K' A' : Int64), j < P.nn ∧ x.1 2 = nI j ∧ S' = (S.1, S.2.1, S'.2.2.1, va_up S.2.2.2.1 j D', va_up S.2.2.2.2.1 j K', va_up S.2.2.2.2.2 j A') ∧ NK2 P g l j x.1 x.2 (S.2.2.2.1 j) (S.2.2.2.2.1 j) (S.2.2.2.2.2 j) D' K' A' (tkl S.2.2.1 0) Z ∧ F_55_k P.nn P.gg P.C (nI j) P.f x.1 x.2 (S.2.2.2.1 j) (S.2.2.2.2.1 j) (S.2.2.2.2.2 j) (tkl S.2.2.1 0) = (D', K', A', psl (tkl S.2.2.1 0) Z)) ∨
   (¬ x.1 2 = nI P.nn ∧ (∀ j, j < P.nn → ¬ x.1 2 = nI j) ∧ S' = (S.1, S.2.1, tkl S.2.2.1 0, S.2.2.2) ∧ Z = []))
theorem ld_raw {P : Pm} {g : Gh} {l : Nat} {u b : Nat → Int32} {D D' : Nat → Nat → Int32} {K A K' A' : Int64} {Y Y' : List Mg} (hG : GO g) (hb12 : g.bg ≤ g.sn + 12) (hgg : 0 < P.gg) (hnn : P.nn ≤ 6) (hf : Rg P.nn P.f) (hL : LO P g g.ep D K) (hm : MO P g g.ep (u, b)) (hs : MS P g (u, b)) (hno : ¬ isN (u 0)) (hl : ¬ ldB P.f P.nn (nI l) (D 0 8) = 0)
    (hF : F_55_k P.nn P.gg P.C (nI l) P.f u b D K A Y = (D', K', A', Y')) : ∃ Z, Y' = psl Y Z ∧ LDr P g l u b D K A D' K' A' Y Z ∧ ∀ z ∈ Z, MS P g z ∧ z.1 3 = nI g.ep := by
  have c0 : ¬ u 0 = 0 := fun z => hno (Or.inl z)
  have c4 : ¬ u 0 = 4 := fun z => hno (Or.inr (Or.inl z))
  have c6 : ¬ u 0 = 6 := fun z => hno (Or.inr (Or.inr (Or.inl z)))
  have c9 : ¬ u 0 = 9 := fun z => hno (Or.inr (Or.inr (Or.inr (Or.inl z))))
  have c10 : ¬ u 0 = 10 := fun z => hno (Or.inr (Or.inr (Or.inr (Or.inr (Or.inl z)))))
  have c12 : ¬ u 0 = 12 := fun z => hno (Or.inr (Or.inr (Or.inr (Or.inr (Or.inr z)))))
  unfold F_55_k at hF
  rw [if_neg c0, if_neg c4, if_neg c6, if_neg c9, if_neg c10, if_neg c12] at hF
  simp only [ite_self] at hF
  rw [if_neg hl] at hF
  obtain ⟨D1, K1, A1, Z1, t1, t2, t3, t4, _⟩ := hear_z (me := nI l) (A := A) hG hb12 hgg hnn hf hL hm hs
  have ka := k9_67 (me := nI l) (A := A) (Y := Y) hG hb12 hgg hnn hf hL hm hs
  rw [t1 Y] at ka
  replace ka : K9 u D D1 := ka
  rw [t1 Y, bnS_e] at hF
  obtain ⟨D2, K2, Z2, s1, s2, s3, s4, s5⟩ := goon_z (me := nI l) (u := u) (b := b) (A := A1) (Y := psl Y Z1) hG hgg hnn t3
  have kb := k7_91 (me := nI l) (u := u) (b := b) (A := A1) (Y := psl Y Z1) hG hgg hnn t3
  have kg := gd_91 (me := nI l) (u := u) (b := b) (A := A1) (Y := psl Y Z1) hG hnn t3
  rw [s1] at kb kg
  rw [s1, bnS_e] at hF
  rw [Prod.mk.injEq, Prod.mk.injEq, Prod.mk.injEq] at hF
  obtain ⟨e1, e2, e3, e4⟩ := hF
  subst e1 e2 e3
  refine ⟨Z1 ++ Z2, by rw [← e4, psl_app], ⟨D1, K1, Z1, Z2, rfl, t1, t2, t3, ka, s1, s2, s5, kb, fun q hq => by rw [s3 q hq, t4 q hq], kg⟩, fun z hz => ?_⟩
  rcases List.mem_append.mp hz with y | y
  · refine ⟨(t2.2.2.2.1 z y).ms, ?_⟩
    rcases t2.2.2.2.1 z y with ⟨j, _, e⟩ | ⟨t, k, e⟩ | ⟨to, c, bf, _, e⟩
    · rw [e]; exact hL.l1.1
    · rw [e]
      show va_up (mg 6 (nI l) k (D 7 7) (D 7 8)) 5 t 3 = _
      rw [va_up_n _ _ (by decide)]; exact hL.l1.1
    · rw [e]
      show va_up (mg 12 (nI l) to (D 7 7) (D 7 8)) 7 (nI c) 3 = _
      rw [va_up_n _ _ (by decide)]; exact hL.l1.1
  · obtain ⟨y1, y2, _⟩ := s5.2.2.2.2.1 z y
    exact ⟨y1, y2⟩
theorem RG.st {P : Pm} {g : Gh} {l : Nat} {S S' : SS} (hP : PmO P) (hln : l < P.nn) (h : RG P g l S) (hr : thR P.nn P.gg P.C P.f S S') : ∃ x Z, St1 P g l x Z S S' := by
  obtain ⟨hS, hlen, hld, hep, hmE, _⟩ := h
  obtain ⟨x, S1, r1, r2⟩ := hr
  have hnn := hP.nn
  have hS1 : S1 = (S.1, S.2.1, tkl S.2.2.1 0, S.2.2.2) := r1.2
  have hx : x ∈ S.2.2.1 := List.mem_of_getElem? r1.1
  obtain ⟨a1, ⟨e2, a2⟩, _⟩ := hS.1.take r1.tkM
  have hepb := hS.1.ep.1
  have he2 : e2 = g.ep := nI_inj (by have := a2.ep.2.1; omega) (by omega) (by rw [← a2.ep.1]; exact hmE x hx)
  subst he2
  have hMx : MS P g x := hS.2.2 x hx
  rcases r2 with ⟨z0, z⟩ | ⟨j, j1, j2, j3, j4⟩ | ⟨z0, z1, z⟩
  · rw [hS1] at z
    have hz : ∃ Z, S'.2.2.1 = psl (tkl S.2.2.1 0) Z ∧ (∀ z ∈ Z, MS P g z ∧ z.1 3 = nI g.ep) ∧ S'.2.2.2 = S.2.2.2 := by
      rcases z with ⟨_, z⟩ | ⟨_, _, z⟩ | ⟨_, _, ms', z, zr⟩
      · exact ⟨[], by rw [z]; rfl, fun z hz => (by cases hz), by rw [z]⟩
      · exact ⟨[], by rw [z]; rfl, fun z hz => (by cases hz), by rw [z]⟩
      · obtain ⟨Z, z1, _, z3, _⟩ := ask_z zr
        obtain ⟨he, ha⟩ := hS.1.as
        refine ⟨Z, by rw [z]; exact z1, fun y hy => ⟨MS.k2 (z3 y hy).1, ?_⟩, by rw [z]⟩
        rw [(z3 y hy).2, z]
        show heE S.1 _ _ _ 4 13 = _
        unfold heE
        rw [va_up_n _ _ (by decide), va_up_s]
        split
        · rw [pk_un (by decide)]; exact ha.ep.1
        · rw [pk_un (by decide), pk_un (by decide)]; exact ha.ep.1
    obtain ⟨Z, y1, y2, y3⟩ := hz
    exact ⟨x, Z, r1.1, by rw [y1]; exact smL.rf, a2, hMx, y2, Or.inl ⟨z0, y3, z⟩⟩
  · rw [hS1] at j3 j4
    have hNj := hS.nu j1
    rw [hep j j1] at hNj
    obtain ⟨ms', m1, m2⟩ := j4
    have hF0 : F_55 P.nn P.gg P.C (nI j) P.f x.1 x.2 (S.2.2.2.1 j) (S.2.2.2.2.1 j) (S.2.2.2.2.2 j) (tkl S.2.2.1 0) = F_55_k P.nn P.gg P.C (nI j) P.f x.1 x.2 (S.2.2.2.1 j) (S.2.2.2.2.1 j) (S.2.2.2.2.2 j) (tkl S.2.2.1 0) := by
      unfold F_55
      rw [hNj.ep.1, hmE x hx, if_pos (Int32.le_refl _), if_pos (Int32.le_refl _)]
    have m1 : smL ms' (F_55 P.nn P.gg P.C (nI j) P.f x.1 x.2 (S.2.2.2.1 j) (S.2.2.2.2.1 j) (S.2.2.2.2.2 j) (tkl S.2.2.1 0)).2.2.2 := m1
    have m2 : S' = (S.1, S.2.1, ms', va_up S.2.2.2.1 j (F_55 P.nn P.gg P.C (nI j) P.f x.1 x.2 (S.2.2.2.1 j) (S.2.2.2.2.1 j) (S.2.2.2.2.2 j) (tkl S.2.2.1 0)).1, va_up S.2.2.2.2.1 j (F_55 P.nn P.gg P.C (nI j) P.f x.1 x.2 (S.2.2.2.1 j) (S.2.2.2.2.1 j) (S.2.2.2.2.2 j) (tkl S.2.2.1 0)).2.1, va_up S.2.2.2.2.2 j (F_55 P.nn P.gg P.C (nI j) P.f x.1 x.2 (S.2.2.2.1 j) (S.2.2.2.2.1 j) (S.2.2.2.2.2 j) (tkl S.2.2.1 0)).2.2.1) := m2
    rw [hF0] at m1 m2
    obtain ⟨D', K', A', Y', hF⟩ : ∃ D' K' A' Y', F_55_k P.nn P.gg P.C (nI j) P.f x.1 x.2 (S.2.2.2.1 j) (S.2.2.2.2.1 j) (S.2.2.2.2.2 j) (tkl S.2.2.1 0) = (D', K', A', Y') := ⟨_, _, _, _, rfl⟩
    rw [hF] at m1 m2
    have hms : S'.2.2.1 = ms' := by rw [m2]
    have m2 : S' = (S.1, S.2.1, S'.2.2.1, va_up S.2.2.2.1 j D', va_up S.2.2.2.2.1 j K', va_up S.2.2.2.2.2 j A') := by rw [hms]; exact m2
    have m3 : smL S'.2.2.1 Y' := by rw [hms]; exact m1
    by_cases hno : isN (x.1 0)
    · obtain ⟨D2, K2, A2, Z, q1, q2, q3⟩ := node_z (A := S.2.2.2.2.2 j) (Y := tkl S.2.2.1 0) hS.1.go (SU.b12 hS.1) hP.gg hP.nn hP.f j1 hNj a2 hMx
      have e1 := q1.symm.trans hF
      rw [Prod.mk.injEq, Prod.mk.injEq, Prod.mk.injEq] at e1
      obtain ⟨e11, e12, e13, e14⟩ := e1
      subst e11 e12 e13
      rcases q3 with ⟨_, w1, w2, w3, _, w5⟩ | ⟨w, _⟩ | ⟨w, _⟩
      · exact ⟨x, Z, r1.1, by rw [e14]; exact m3, a2, hMx, q2, Or.inr (Or.inl ⟨j, D2, K2, A2, j1, j2, m2, Or.inl ⟨hno, w1, w2, w3, w5⟩, q1⟩)⟩
      · exact absurd hno w
      · exact absurd hno w
    · by_cases hl : ldB P.f P.nn (nI j) (S.2.2.2.1 j 0 8) = 0
      · obtain ⟨D2, K2, A2, Z, q1, q2, q3⟩ := node_z (A := S.2.2.2.2.2 j) (Y := tkl S.2.2.1 0) hS.1.go (SU.b12 hS.1) hP.gg hP.nn hP.f j1 hNj a2 hMx
        have e1 := q1.symm.trans hF
        rw [Prod.mk.injEq, Prod.mk.injEq, Prod.mk.injEq] at e1
        obtain ⟨e11, e12, e13, e14⟩ := e1
        subst e11 e12 e13
        rcases q3 with ⟨w, _⟩ | ⟨_, w, _⟩ | ⟨_, _, w1, w2, w3, w4⟩
        · exact absurd w hno
        · exact absurd hl w
        · refine ⟨x, Z, r1.1, by rw [e14]; exact m3, a2, hMx, q2, Or.inr (Or.inl ⟨j, D2, K2, A2, j1, j2, m2, Or.inr (Or.inr ⟨hno, fun z => ?_, w1, w2, w3, w4⟩), q1⟩)⟩
          rw [hNj.ep.2.2.1, z] at hl
          exact hld hl
      · have hjl : j = l := lds_1 (by omega) (by omega) hld (by rw [← hNj.ep.2.2.1]; exact hl)
        subst hjl
        obtain ⟨Z, z1, z2, z3⟩ := ld_raw hS.1.go (SU.b12 hS.1) hP.gg hP.nn hP.f (hNj.ld hl) a2 hMx hno hl hF
        exact ⟨x, Z, r1.1, by rw [← z1]; exact m3, a2, hMx, z3, Or.inr (Or.inl ⟨j, D', K', A', j1, j2, m2, Or.inr (Or.inl ⟨hno, rfl, z2⟩), by rw [← z1]; exact hF⟩)⟩
  · refine ⟨x, [], r1.1, by rw [z, hS1]; exact smL.rf, a2, hMx, fun z hz => (by cases hz), Or.inr (Or.inr ⟨z0, fun j hj q => ?_, by rw [z, hS1], rfl⟩)⟩
    have := z1 j hj q
    rw [hS1] at this
    exact hS.2.1 j hj this
theorem RG.th {P : Pm} {g : Gh} {l : Nat} {S S' : SS} (hP : PmO P) (hl : l < P.nn) (h : RG P g l S) (hr : thR P.nn P.gg P.C P.f S S') : ∃ g', Gs g g' ∧ RG P g' l S' := by
  obtain ⟨x, Z, hst⟩ := h.st hP hl hr
  obtain ⟨hS, hlen, hld, hep, hmE, h1, h2, hgd⟩ := h
  obtain ⟨g', b1, b2, _, _, _⟩ := th_V (ip := fun _ => True) hP hS (fun _ _ => trivial) trivial hr
  obtain ⟨x0, c1, c2, c3⟩ := th_F hP hS hlen hl hld hr b1 b2
  obtain ⟨d1, d2⟩ := CL_stepA hl hS.np b2.np c1 c2 h1 h2
  obtain ⟨g3, _, e2, _⟩ := GIX.th hP ⟨hS.1, hlen, hS.2.2, hgd⟩ hr
  refine ⟨g', b1, b2, c3, by rw [lds_gs b1, b1.ep]; exact hld, fun n hn => by rw [b1.ep]; exact c2.1 n hn (hep n hn), fun y hy => ?_, d1.gs b1, d2.gs b1, e2.2.2.2.hd (Nat.le_of_eq (GI.hde e2.1 b2.1))⟩
  rw [b1.ep]
  obtain ⟨s1, s2, _, _, s5, _⟩ := hst
  obtain ⟨y', y1, y2⟩ := smL_mem s2 hy
  rw [y2.1]
  rcases psl_in Z y1 with q | q
  · exact hmE y' ((tkl_perm s1).mem_iff.mp (List.mem_cons_of_mem _ q))
  · exact (s5 y' q).2

/-! OPERATIONS: how far the leader and those who ask are -/
def heN (S : SS) : Nat := (S.1 4 9).toNatClampNeg
theorem RG.he {P : Pm} {g : Gh} {l : Nat} {S : SS} (h : RG P g l S) : S.1 4 9 = nI (heN S) ∧ heN S = g.hd ∧ heN S ≤ g.bg ∧ g.bg ≤ 512 ∧ S.1 4 8 = nI g.bg ∧ S.1 4 12 = efv g.ops (heN S) ∧ g.sn ≤ heN S ∧ S.1 4 13 = nI g.ep ∧ S.1 4 14 = g.mp g.ep ∧ (∀ v, v < 512 → efv g.ops (heN S) = nI v → kept P g (rtg v)) := by
  obtain ⟨he, ha⟩ := h.1.1.as
  have h5 := h.1.1.go.1
  have h1 := ha.h1
  have : heN S = he := by unfold heN; rw [ha.h2, nI_clamp (by omega)]
  rw [this]
  exact ⟨ha.h2, ha.hh.symm, h1.1, h5, ha.bg, ha.ef, ha.se.1, ha.ep.1, ha.ep.2, ha.kp⟩
/-- those who ask in a hand-over -/
theorem St1.he {P : Pm} {g g' : Gh} {l : Nat} {x : Mg} {Z : List Mg} {S S' : SS} (hP : PmO P) (hl : l < P.nn) (h : RG P g l S) (hst : St1 P g l x Z S S') (h' : RG P g' l S') : heN S ≤ heN S' ∧ heN S' ≤ heN S + 1 ∧ (x.1 0 = 3 → x.1 2 = nI P.nn → x.1 5 = nI (heN S) → heN S' = heN S + 1) ∧ (¬ x.1 2 = nI P.nn → S'.1 = S.1) ∧ S'.1 4 8 = S.1 4 8 := by
  obtain ⟨e1, e2, e3, e4, e5, _⟩ := h.he
  have hm := hst.2.2.1
  have eq : ∀ {S1 S2 : SS}, S2.1 = S1.1 → heN S2 = heN S1 := fun {S1 S2} e => by unfold heN; rw [e]
  have nno : ∀ {j : Nat}, j < P.nn → ¬ nI j = nI P.nn := fun {j} hj z => by
    have := hP.nn
    have := nI_inj (by omega) (by omega) z
    omega
  rcases hst.cs hP.nn hl with ⟨c0, _, e⟩ | ⟨j, j1, j2, _, e, _⟩ | ⟨c, _, e, _⟩ | ⟨c, _, _, e, _⟩
  · rcases e with ⟨c, e⟩ | ⟨_, c, e⟩ | ⟨_, c, ms', e, _⟩
    · have e' : S'.1 = va_up S.1 4 (upd (S.1 4) 15 ((S.1 4 15) ||| ((1 : Int32) <<< (x.1 1 &&& 31)))) := by rw [e]
      have h9 : S'.1 4 9 = S.1 4 9 := by rw [e', va_up_s, pk_un (by decide)]
      have h8 : S'.1 4 8 = S.1 4 8 := by rw [e', va_up_s, pk_un (by decide)]
      have : heN S' = heN S := by unfold heN; rw [h9]
      exact ⟨by omega, by omega, fun z => by rw [c.1] at z; exact absurd z (by decide), fun z => absurd c0 z, h8⟩
    · have h1 : S'.1 = S.1 := by rw [e]
      have : heN S' = heN S := eq h1
      refine ⟨by omega, by omega, fun z1 _ z3 => ?_, fun z => absurd c0 z, by rw [h1]⟩
      exfalso
      obtain ⟨o, o1, o2, _⟩ := hm.tl z1
      have : o = heN S := nI_inj (by omega) (by omega) (o2.symm.trans z3)
      refine c ⟨z1, by show x.1 5 = S.1 4 9; rw [z3, e1], ?_⟩
      show S.1 4 9 < S.1 4 8
      rw [e1, e5]
      exact (nI_ltI (by omega) (by omega)).mpr (by omega)
    · have c2 : S.1 4 9 < S.1 4 8 := c.2.2
      rw [e1, e5] at c2
      have c2 := (nI_ltI (by omega) (by omega)).mp c2
      have h9 : S'.1 4 9 = nI (heN S + 1) := by
        rw [e]
        show heE S.1 _ (S.1 4 9).toNatClampNeg _ 4 9 = _
        unfold heE
        rw [va_up_n _ _ (by decide), va_up_s]
        split
        · rw [pk_us]; rfl
        · rw [pk_un (by decide), pk_us]; rfl
      have : heN S' = heN S + 1 := by
        show (S'.1 4 9).toNatClampNeg = _
        rw [h9, nI_clamp (by omega)]
      refine ⟨by omega, by omega, fun _ _ _ => this, fun z => absurd c0 z, ?_⟩
      rw [e]
      exact heE_8
  · have : heN S' = heN S := eq e
    refine ⟨by omega, by omega, fun _ z => ?_, fun _ => e, by rw [e]⟩
    rw [j2] at z; exact absurd z (nno j1)
  · have : heN S' = heN S := eq e
    refine ⟨by omega, by omega, fun _ z => ?_, fun _ => e, by rw [e]⟩
    rw [c] at z; exact absurd z (nno hl)
  · have : heN S' = heN S := eq e
    exact ⟨by omega, by omega, fun _ z => absurd z c, fun _ => e, by rw [e]⟩
/-- an OPERATION is done, or its TOLD is under way -/
def dnO (P : Pm) (h0 : Nat) (S : SS) : Prop := h0 < heN S ∨ ∃ x ∈ S.2.2.1, x.1 0 = 3 ∧ x.1 2 = nI P.nn ∧ x.1 5 = nI h0
theorem dnO.st {P : Pm} {g g' : Gh} {l h0 : Nat} {x : Mg} {Z : List Mg} {S S' : SS} (hP : PmO P) (hl : l < P.nn) (h : RG P g l S) (hst : St1 P g l x Z S S') (h' : RG P g' l S') (hh : h0 ≤ heN S) (hi : dnO P h0 S) : dnO P h0 S' := by
  obtain ⟨a1, a2, a3, _⟩ := hst.he hP hl h h'
  rcases hi with hi | ⟨y, y1, y2, y3, y4⟩
  · exact Or.inl (by omega)
  · rcases Nat.lt_or_ge h0 (heN S) with q | q
    · exact Or.inl (by omega)
    · have : heN S = h0 := by omega
      rcases hst.old y1 with e | ⟨y', b1, b2⟩
      · subst e
        have := a3 y2 y3 (by rw [this]; exact y4)
        exact Or.inl (by omega)
      · exact Or.inr ⟨y', b1, by rw [b2.1]; exact y2, by rw [b2.1]; exact y3, by rw [b2.1]; exact y4⟩
theorem dnO.e {P : Pm} {h0 : Nat} {S : SS} (hms : S.2.2.1 = []) (hi : dnO P h0 S) : h0 < heN S := by
  rcases hi with hi | ⟨y, y1, _⟩
  · exact hi
  · rw [hms] at y1; cases y1
theorem askM_v (nn : Nat) (fi he ef ep st : Int32) (A : Mg) (bm : Nat → Int32) : (askM nn fi he ef ep st A bm).1 2 = fi ∧ (askM nn fi he ef ep st A bm).1 5 = he := by
  have w : ∀ x, x ≠ 5 → x ≠ 6 → x ≠ 7 → (askM nn fi he ef ep st A bm).1 x = mg 2 (nI nn) fi ep st x := fun x a1 a2 a3 => by
    show va_up (va_up (va_up (mg 2 (nI nn) fi ep st) 5 he) 6 ef) 7 (A.1 5) x = _
    rw [va_up_n _ _ a3, va_up_n _ _ a2, va_up_n _ _ a1]
  refine ⟨w 2 (by decide) (by decide) (by decide), ?_⟩
  show va_up (va_up (va_up (mg 2 (nI nn) fi ep st) 5 he) 6 ef) 7 (A.1 5) 5 = _
  rw [va_up_n _ _ (by decide), va_up_n _ _ (by decide), va_up_s]
/-- ASKS under way are of h0 or later -/
def AKs (h0 : Nat) (S : SS) : Prop := h0 ≤ heN S ∧ ∀ x ∈ S.2.2.1, x.1 0 = 2 → ∃ o, h0 ≤ o ∧ o < 512 ∧ x.1 5 = nI o
theorem AKs.st {P : Pm} {g g' : Gh} {l h0 : Nat} {x : Mg} {Z : List Mg} {S S' : SS} (hP : PmO P) (hl : l < P.nn) (h : RG P g l S) (hst : St1 P g l x Z S S') (h' : RG P g' l S') (hi : AKs h0 S) : AKs h0 S' := by
  obtain ⟨a1, a2, a3, a4, _⟩ := hst.he hP hl h h'
  obtain ⟨e1, e2, e3, e4, e5, _⟩ := h'.he
  refine ⟨by have := hi.1; omega, fun y hy hk => ?_⟩
  rcases hst.src hP hl hy with ⟨y0, q1, q2⟩ | ⟨c, _⟩ | ⟨j, z, j1, j2, j3, hq, z1, z2⟩ | ⟨_, _, e, z, z0, z1, z2⟩
  · obtain ⟨o, o1, o2, o3⟩ := hi.2 y0 q1 (by rw [← q2.1]; exact hk)
    exact ⟨o, o1, o2, by rw [q2.1]; exact o3⟩
  · -- those who ask
    rcases hst.cs hP.nn hl with ⟨_, _, e⟩ | ⟨j, j1, j2, _⟩ | ⟨c2, _⟩ | ⟨c2, _⟩
    · have hsub : ∀ w, w ∈ tkl S.2.2.1 0 → w ∈ S.2.2.1 := fun w hw => (tkl_perm hst.1).mem_iff.mp (List.mem_cons_of_mem _ hw)
      rcases e with ⟨_, e⟩ | ⟨_, _, e⟩ | ⟨_, _, ms', e, er⟩
      · rw [e] at hy; exact hi.2 y (hsub y hy) hk
      · rw [e] at hy; exact hi.2 y (hsub y hy) hk
      · have hy' : y ∈ ms' := by rw [e] at hy; exact hy
        rcases er with ⟨_, q⟩ | ⟨q1, _, bm, q⟩
        · rw [q] at hy'; exact hi.2 y (hsub y hy') hk
        · rw [q] at hy'
          rcases pst_in hy' with w | w
          · exact hi.2 y (hsub y w) hk
          · refine ⟨heN S', by have := hi.1; omega, ?_, ?_⟩
            · rcases Nat.lt_or_ge (heN S') 512 with r | r
              · exact r
              · exfalso
                apply q1
                rw [e1, e5]
                congr 1
                omega
            · rw [w]
              exact (askM_v _ _ _ _ _ _ _ _).2.trans e1
    · have := hP.nn
      have := nI_inj (by omega) (by omega) (j2.symm.trans c)
      omega
    · have := hP.nn
      have := nI_inj (by omega) (by omega) (c2.symm.trans c)
      omega
    · exact absurd c c2
  · have hz : z.1 0 = 2 := by rw [← z2.1]; exact hk
    rcases hq.k z1 with ⟨_, c⟩ | ⟨_, _, c, _⟩ | ⟨_, c | c⟩ | ⟨_, c | c⟩ | ⟨_, c⟩
    · rw [hz] at c; exact absurd c (by decide)
    · rw [c, (mLS_v (to := x.1 1) (h.nu j1)).1] at hz; exact absurd hz (by decide)
    · rw [hz] at c; exact absurd c (by decide)
    · rw [hz] at c; exact absurd c (by decide)
    · rw [hz] at c; exact absurd c (by decide)
    · rw [hz] at c; exact absurd c (by decide)
    · rw [hz] at c; exact absurd c (by decide)
  · have hz : z.1 0 = 2 := by rw [← z2.1]; exact hk
    rcases e.kd z1 with c | c | c | c | c <;> rw [hz] at c <;> exact absurd c (by decide)
/-- goOn: where it ends, and what it tells -/
theorem goon_t {P : Pm} {g : Gh} {e : Nat} {me : Int32} {u b : Nat → Int32} {D D' : Nat → Nat → Int32} {K A K' A' : Int64} {Y Y' : List Mg} (hG : GO g) (hgg : 0 < P.gg) (hnn : P.nn ≤ 6) (h : LO P g e D K) (hF : F_91 P.nn P.gg P.C me P.f u b D K A Y = (D', K', A', Y')) : D' 18 4 = D 18 4 ∧ (D' 18 3 = 0 ∨ D 18 3 ≤ D' 18 3) ∧ (D 18 3 = 0 → D' 18 3 = 0) ∧ ∃ Zt Zp, Y' = psl (psl Y Zt) Zp ∧ ((Zt = [] ∧ (2 ≤ D 18 3 → ¬ D' 18 3 = 0)) ∨ ∃ z, Zt = [z] ∧ z.1 0 = 3 ∧ z.1 2 = nI P.nn ∧ z.1 5 = D 18 4 ∧ D' 18 3 = 0) := by
  have hop := goon_op hG hgg hnn h hF
  have hH : GIh P g e me u b A Y (fun D2 _ Zt => D2 18 4 = D 18 4 ∧ (D2 18 3 = 0 ∨ D 18 3 ≤ D2 18 3) ∧ (D 18 3 = 0 → D2 18 3 = 0) ∧ ((Zt = [] ∧ (2 ≤ D 18 3 → ¬ D2 18 3 = 0)) ∨ ∃ z, Zt = [z] ∧ z.1 0 = 3 ∧ z.1 2 = nI P.nn ∧ z.1 5 = D 18 4 ∧ D2 18 3 = 0)) := by
    have nil : ∀ (Q : Prop) (z0 : ∃ z : Mg, ([] : List Mg) = [z] ∧ Q), False := fun Q ⟨z, z1, _⟩ => by cases z1
    have tr : ∀ {a b c : Int32}, a ≤ b → b ≤ c → a ≤ c := fun h1 h2 => Int32.le_trans h1 h2
    refine ⟨fun D1 D2 K1 hL hs hk _ hF _ hL2 hI => ?_, fun D1 D2 K1 K2 hL hs h12 hq _ hL2 hI => ?_, fun D1 D2 K1 hL hs ha hq _ hL2 hI => ?_, fun D1 K1 hL hs _ _ hI => ?_, fun D1 K1 tl hT _ hI => ?_⟩
    · obtain ⟨i1, i2, i3, _⟩ := hI
      obtain ⟨p1, _, p3⟩ := plan_x hG hL hs hk hF
      have hle : D 18 3 ≤ 1 := by
        rcases i2 with z | z
        · rw [hs] at z; exact absurd z (by decide)
        · rw [hs] at z; exact z
      have hst : D2 18 3 = 0 ∨ D2 18 3 = 1 ∨ D2 18 3 = 2 ∨ D2 18 3 = 3 ∨ D2 18 3 = 5 := by
        rcases p3 with ⟨_, q⟩ | ⟨_, _, q⟩ | ⟨_, _, _, q | q⟩ | ⟨_, _, _, q⟩
        · exact Or.inl q
        · exact Or.inr (Or.inr (Or.inr (Or.inl q)))
        · exact Or.inr (Or.inr (Or.inr (Or.inr q)))
        · exact Or.inr (Or.inr (Or.inl q))
        · exact Or.inr (Or.inl q)
      refine ⟨p1.trans i1, ?_, fun z => by have := i3 z; rw [hs] at this; exact absurd this (by decide), Or.inl ⟨rfl, fun z => absurd (tr z hle) (by decide)⟩⟩
      rcases hst with q | q | q | q | q
      · exact Or.inl q
      · exact Or.inr (by rw [q]; exact hle)
      · exact Or.inr (tr hle (by rw [q]; decide))
      · exact Or.inr (tr hle (by rw [q]; decide))
      · exact Or.inr (tr hle (by rw [q]; decide))
    · obtain ⟨i1, i2, i3, _⟩ := hI
      obtain ⟨_, x2⟩ := change_x hG hL hs h12 hq
      have hle : D 18 3 ≤ 2 := by
        rcases i2 with z | z
        · rw [hs] at z; exact absurd z (by decide)
        · rw [hs] at z; exact z
      refine ⟨(change_op hG hL hs h12 hq).1.trans i1, ?_, fun z => by have := i3 z; rw [hs] at this; exact absurd this (by decide), Or.inl ⟨rfl, fun _ => ?_⟩⟩
      · rcases x2 with q | ⟨q, _⟩
        · exact Or.inr (tr hle (by rw [q]; decide))
        · exact Or.inr (tr hle (by rw [q]; decide))
      · rcases x2 with q | ⟨q, _⟩ <;> rw [q] <;> decide
    · obtain ⟨i1, i2, i3, _⟩ := hI
      have x1 := (root_x hq).1
      have hle : D 18 3 ≤ 3 := by
        rcases i2 with z | z
        · rw [hs] at z; exact absurd z (by decide)
        · rw [hs] at z; exact z
      exact ⟨(root_op hq 4 (by decide)).trans i1, Or.inr (tr hle (by rw [x1]; decide)), fun z => by have := i3 z; rw [hs] at this; exact absurd this (by decide), Or.inl ⟨rfl, fun _ => by rw [x1]; decide⟩⟩
    · obtain ⟨i1, i2, i3, _⟩ := hI
      have hle : D 18 3 ≤ 4 := by
        rcases i2 with z | z
        · rw [hs] at z; exact absurd z (by decide)
        · rw [hs] at z; exact z
      have x1 : va_up (va_up D1 7 (upd (upd (D1 7) 10 0) 14 0)) 18 (upd (D1 18) 3 5) 18 3 = 5 := by rw [va_up_s, pk_us]
      refine ⟨?_, Or.inr (by rw [x1]; exact tr hle (by decide)), fun z => by have := i3 z; rw [hs] at this; exact absurd this (by decide), Or.inl ⟨rfl, fun _ => by rw [x1]; decide⟩⟩
      show va_up (va_up D1 7 (upd (upd (D1 7) 10 0) 14 0)) 18 (upd (D1 18) 3 5) 18 4 = D 18 4
      rw [va_up_s, pk_un (by decide)]; exact i1
    · obtain ⟨i1, i2, i3, _⟩ := hI
      have x1 : va_up D1 18 (upd (D1 18) 3 0) 18 3 = 0 := by rw [va_up_s, pk_us]
      have w : ∀ x, x ≠ 5 → x ≠ 6 → x ≠ 7 → (mTL P.nn me D1 tl).1 x = mg 3 me (nI P.nn) (D1 7 7) (D1 7 8) x := fun x a1 a2 a3 => by
        show va_up (va_up (va_up (mg 3 me (nI P.nn) (D1 7 7) (D1 7 8)) 5 (D1 18 4)) 6 (D1 18 5)) 7 (nI tl) x = _
        rw [va_up_n _ _ a3, va_up_n _ _ a2, va_up_n _ _ a1]
      refine ⟨?_, Or.inl x1, fun _ => x1, Or.inr ⟨_, rfl, w 0 (by decide) (by decide) (by decide), w 2 (by decide) (by decide) (by decide), ?_, x1⟩⟩
      · show va_up D1 18 (upd (D1 18) 3 0) 18 4 = D 18 4
        rw [va_up_s, pk_un (by decide)]; exact i1
      · show va_up (va_up (va_up (mg 3 me (nI P.nn) (D1 7 7) (D1 7 8)) 5 (D1 18 4)) 6 (D1 18 5)) 7 (nI tl) 5 = _
        rw [va_up_n _ _ (by decide), va_up_n _ _ (by decide), va_up_s]; exact i1
  obtain ⟨D2, K2, Zt, Zp, r1, r2, r3, _⟩ := goon_I (me := me) (u := u) (b := b) (A := A) (Y := Y) hG hgg hH hnn h ⟨rfl, Or.inr (Int32.le_refl _), fun z => z, Or.inl ⟨rfl, fun z y => by rw [y] at z; exact absurd z (by decide)⟩⟩
  rw [r1, Prod.mk.injEq, Prod.mk.injEq, Prod.mk.injEq] at hF
  obtain ⟨e1, _, _, e4⟩ := hF
  subst e1
  exact ⟨r2.1, r2.2.1, r2.2.2.1, Zt, Zp, e4.symm, r2.2.2.2⟩

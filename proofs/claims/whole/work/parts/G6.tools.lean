/-! one hand-over: tools -/
abbrev dN (S : SS) (n : Nat) : Nat → Nat → Int32 := S.2.2.2.1 n
abbrev kN (S : SS) (n : Nat) : Int64 := S.2.2.2.2.1 n
abbrev aN (S : SS) (n : Nat) : Int64 := S.2.2.2.2.2 n
theorem St1.head {P : Pm} {g : Gh} {l : Nat} {x : Mg} {Z : List Mg} {S S' : SS} (h : St1 P g l x Z S S') : x ∈ S.2.2.1 := List.mem_of_getElem? h.1
theorem St1.old {P : Pm} {g : Gh} {l : Nat} {x y : Mg} {Z : List Mg} {S S' : SS} (h : St1 P g l x Z S S') (hy : y ∈ S.2.2.1) : y = x ∨ ∃ y' ∈ S'.2.2.1, smM y' y := by
  rcases List.mem_cons.mp ((tkl_perm h.1).mem_iff.mpr hy) with e | e
  · exact Or.inl e
  · obtain ⟨y', a, b⟩ := smL_mem2 h.2.1 (psl_old Z e)
    exact Or.inr ⟨y', a, b⟩
theorem St1.in {P : Pm} {g : Gh} {l : Nat} {x y : Mg} {Z : List Mg} {S S' : SS} (h : St1 P g l x Z S S') (hy : y ∈ S'.2.2.1) : (∃ y0, y0 ∈ S.2.2.1 ∧ smM y y0) ∨ ∃ z, z ∈ psl (tkl S.2.2.1 0) Z ∧ z ∈ Z ∧ smM y z := by
  obtain ⟨y0, a, b⟩ := smL_mem h.2.1 hy
  rcases psl_in Z a with q | q
  · exact Or.inl ⟨y0, (tkl_perm h.1).mem_iff.mp (List.mem_cons_of_mem _ q), b⟩
  · exact Or.inr ⟨y0, a, q, b⟩
theorem St1.new {P : Pm} {g : Gh} {l : Nat} {x z : Mg} {Z : List Mg} {S S' : SS} (h : St1 P g l x Z S S') (hz : z ∈ psl (tkl S.2.2.1 0) Z) : ∃ y ∈ S'.2.2.1, smM y z := smL_mem2 h.2.1 hz
theorem St1.lt {P : Pm} {g : Gh} {l : Nat} {x : Mg} {Z : List Mg} {S S' : SS} (h : St1 P g l x Z S S') (hl : S.2.2.1.length ≤ 128) : (tkl S.2.2.1 0).length < 128 := by
  have := (tkl_perm h.1).length_eq
  rw [List.length_cons] at this
  omega
theorem St1.cs {P : Pm} {g : Gh} {l : Nat} {x : Mg} {Z : List Mg} {S S' : SS} (hnn : P.nn ≤ 6) (hl : l < P.nn) (h : St1 P g l x Z S S') :
    (x.1 2 = nI P.nn ∧ S'.2.2.2 = S.2.2.2 ∧ ahR P.nn P.f x (S.1, S.2.1, tkl S.2.2.1 0, S.2.2.2) S') ∨
    (∃ j, j < P.nn ∧ x.1 2 = nI j ∧ isN (x.1 0) ∧ S'.1 = S.1 ∧ S'.2.1 = S.2.1 ∧ (∀ n, n ≠ j → dN S' n = dN S n) ∧ (∀ n, kN S' n = kN S n) ∧ (∀ n, aN S' n = aN S n) ∧ (∀ n q, q = 0 ∨ 6 < q → dN S' n q = dN S n q) ∧ NRl P j x.1 x.2 (dN S j) (dN S' j) Z ∧ F_55_k P.nn P.gg P.C (nI j) P.f x.1 x.2 (dN S j) (kN S j) (aN S j) (tkl S.2.2.1 0) = (dN S' j, kN S' j, aN S' j, psl (tkl S.2.2.1 0) Z)) ∨
    (x.1 2 = nI l ∧ ¬ isN (x.1 0) ∧ S'.1 = S.1 ∧ S'.2.1 = S.2.1 ∧ (∀ n, n ≠ l → dN S' n = dN S n ∧ kN S' n = kN S n ∧ aN S' n = aN S n) ∧ LDr P g l x.1 x.2 (dN S l) (kN S l) (aN S l) (dN S' l) (kN S' l) (aN S' l) (tkl S.2.2.1 0) Z) ∨
    (¬ x.1 2 = nI P.nn ∧ (x.1 2 = nI l → False) ∧ (∀ j, j < P.nn → x.1 2 = nI j → ¬ isN (x.1 0)) ∧ S'.1 = S.1 ∧ S'.2.1 = S.2.1 ∧ S'.2.2.2 = S.2.2.2 ∧ Z = []) := by
  obtain ⟨_, _, _, _, _, h6⟩ := h
  rcases h6 with h6 | ⟨j, D', K', A', j1, j2, j3, j4, j5⟩ | ⟨a1, a2, a3, a4⟩
  · exact Or.inl h6
  · have e1 : S'.1 = S.1 := by rw [j3]
    have e2 : S'.2.1 = S.2.1 := by rw [j3]
    have eD : S'.2.2.2.1 = va_up S.2.2.2.1 j D' := by rw [j3]
    have eK : S'.2.2.2.2.1 = va_up S.2.2.2.2.1 j K' := by rw [j3]
    have eA : S'.2.2.2.2.2 = va_up S.2.2.2.2.2 j A' := by rw [j3]
    have dj : dN S' j = D' := by show S'.2.2.2.1 j = _; rw [eD, va_up_s]
    have kj : kN S' j = K' := by show S'.2.2.2.2.1 j = _; rw [eK, va_up_s]
    have aj : aN S' j = A' := by show S'.2.2.2.2.2 j = _; rw [eA, va_up_s]
    have dn : ∀ n, n ≠ j → dN S' n = dN S n := fun n hn => by show S'.2.2.2.1 n = _; rw [eD, va_up_n _ _ hn]
    have kn : ∀ n, n ≠ j → kN S' n = kN S n := fun n hn => by show S'.2.2.2.2.1 n = _; rw [eK, va_up_n _ _ hn]
    have an : ∀ n, n ≠ j → aN S' n = aN S n := fun n hn => by show S'.2.2.2.2.2 n = _; rw [eA, va_up_n _ _ hn]
    rcases j4 with ⟨n1, n2, n3, n4, n5⟩ | ⟨n1, n2, n3⟩ | ⟨n1, n2, n3, n4, n5, n6⟩
    · refine Or.inr (Or.inl ⟨j, j1, j2, n1, e1, e2, dn, fun n => ?_, fun n => ?_, fun n q hq => ?_, by rw [dj]; exact n5, by rw [dj, kj, aj]; exact j5⟩)
      · by_cases c : n = j
        · rw [c, kj, n2]
        · exact kn n c
      · by_cases c : n = j
        · rw [c, aj, n3]
        · exact an n c
      · by_cases c : n = j
        · rw [c, dj]; exact n4 q hq
        · rw [dn n c]
    · subst n2
      exact Or.inr (Or.inr (Or.inl ⟨j2, n1, e1, e2, fun n hn => ⟨dn n hn, kn n hn, an n hn⟩, by rw [dj, kj, aj]; exact n3⟩))
    · refine Or.inr (Or.inr (Or.inr ⟨fun z => ?_, fun z => ?_, fun i hi z => n1, e1, e2, ?_, n6⟩))
      · have := nI_inj (by omega) (by omega) (j2.symm.trans z)
        omega
      · exact n2 (nI_inj (by omega) (by omega) (j2.symm.trans z))
      · have w1 : va_up S.2.2.2.1 j (S.2.2.2.1 j) = S.2.2.2.1 := vup_same S.2.2.2.1 j
        have w2 : va_up S.2.2.2.2.1 j (S.2.2.2.2.1 j) = S.2.2.2.2.1 := vup_same S.2.2.2.2.1 j
        have w3 : va_up S.2.2.2.2.2 j (S.2.2.2.2.2 j) = S.2.2.2.2.2 := vup_same S.2.2.2.2.2 j
        rw [j3, n3, n4, n5, w1, w2, w3]
  · exact Or.inr (Or.inr (Or.inr ⟨a1, fun z => a2 l hl z, fun j hj z => absurd z (a2 j hj), by rw [a3], by rw [a3], by rw [a3], a4⟩))

/-- nothing new is learned of ROOT and RECORDS -/
def smT (D : Nat → Nat → Int32) (K : Int64) (D' : Nat → Nat → Int32) (K' : Int64) : Prop := D' 16 960 = D 16 960 ∧ ((knA K (D 10 9) = 0 ∧ K' = K ∧ D' 10 9 = D 10 9 ∧ D' 15 = D 15 ∧ D' 16 = D 16) ∨ (¬ knA K (D 10 9) = 0 ∧ ¬ knA K' (D' 10 9) = 0))
/-- something new is -/
def pgT (g : Gh) (D : Nat → Nat → Int32) (K : Int64) (D' : Nat → Nat → Int32) (K' : Int64) : Prop := Nn g (D' 16 960) < Nn g (D 16 960) ∨ (D' 16 960 = D 16 960 ∧ knA K (D 10 9) = 0 ∧ (¬ knA K' (D' 10 9) = 0 ∨ zA K' < zA K))
theorem smT.of {D D' : Nat → Nat → Int32} {K K' : Int64} (e16 : D' 16 = D 16) (e10 : D' 10 = D 10) (e15 : D' 15 = D 15) (eK : K' = K) : smT D K D' K' := by
  refine ⟨by rw [e16], ?_⟩
  by_cases c : knA K (D 10 9) = 0
  · exact Or.inl ⟨c, eK, by rw [e10], e15, e16⟩
  · exact Or.inr ⟨c, by rw [eK, e10]; exact c⟩
theorem smT.tr {D D1 D' : Nat → Nat → Int32} {K K1 K' : Int64} (h : smT D K D1 K1) (h2 : smT D1 K1 D' K') : smT D K D' K' := by
  refine ⟨by rw [h2.1, h.1], ?_⟩
  rcases h.2 with ⟨a1, a2, a3, a4, a5⟩ | ⟨a1, a2⟩
  · rcases h2.2 with ⟨_, b2, b3, b4, b5⟩ | ⟨b1, _⟩
    · exact Or.inl ⟨a1, by rw [b2, a2], by rw [b3, a3], by rw [b4, a4], by rw [b5, a5]⟩
    · rw [a2, a3] at b1; exact absurd a1 b1
  · rcases h2.2 with ⟨b1, _⟩ | ⟨_, b2⟩
    · exact absurd b1 a2
    · exact Or.inr ⟨a1, b2⟩
theorem smT.rf (D : Nat → Nat → Int32) (K : Int64) : smT D K D K := smT.of rfl rfl rfl rfl
theorem pgT.sm {g : Gh} {D D1 D' : Nat → Nat → Int32} {K K1 K' : Int64} (h : pgT g D K D1 K1) (h2 : smT D1 K1 D' K' ∨ Nn g (D' 16 960) < Nn g (D1 16 960)) : pgT g D K D' K' := by
  rcases h2 with h2 | h2
  · rcases h with h | ⟨a1, a2, a3⟩
    · exact Or.inl (by rw [h2.1]; exact h)
    · refine Or.inr ⟨by rw [h2.1, a1], a2, ?_⟩
      rcases h2.2 with ⟨b1, b2, b3, _⟩ | ⟨_, b2⟩
      · rcases a3 with a3 | a3
        · exact absurd b1 a3
        · exact Or.inr (by rw [b2]; exact a3)
      · exact Or.inl b2
  · rcases h with h | ⟨a1, _⟩
    · exact Or.inl (Nat.lt_trans h2 h)
    · exact Or.inl (by rw [a1] at h2; exact h2)
theorem Nn_own2 {g : Gh} {x : Int32} {o : Nat} (hx : x = -1 ∨ ∃ w, w < o ∧ x = nI w) (ho : g.sn ≤ o) (ho5 : o < 512) (hb : o < g.sn + 12) : Nn g (nI o) < Nn g x := by
  have hE : ¬ nI o < efv g.ops g.sn := by
    rcases efv_or g.ops g.sn with z | ⟨z, a, b, _⟩
    · rw [z]; exact fun y => nI_pos (show o < 2 ^ 31 by omega) (Int32.lt_trans y (by decide))
    · rw [b]; exact fun y => by have := (nI_ltI (by omega) (by omega)).mp y; omega
  have e : Nn g (nI o) = g.sn + 11 - o := by
    unfold Nn
    rw [if_neg (nI_pos (by omega)), if_neg hE, nI_clamp (by omega), if_neg (by omega)]
  rw [e]
  unfold Nn
  rcases hx with hx | ⟨w, hw, hx⟩
  · rw [hx, if_pos (by decide)]; omega
  · rw [hx, if_neg (nI_pos (by omega))]
    split
    · omega
    · rw [nI_clamp (by omega)]
      split <;> omega
/-- what is known of an active leader -/
theorem LO.kn {P : Pm} {g : Gh} {e : Nat} {D : Nat → Nat → Int32} {K : Int64} (h : LO P g e D K) (hs : ¬ D 18 3 ≤ 1) : ¬ knA K (D 10 9) = 0 := by
  rcases h.st with ⟨z, _⟩ | ⟨z, _⟩ | ⟨_, o, _, zo, _⟩ | ⟨_, o, zo⟩ | ⟨_, o, zo⟩
  · rw [z] at hs; exact absurd (by decide) hs
  · rw [z] at hs; exact absurd (by decide) hs
  · exact zo.tk.1.known.mpr zo.tk.2
  · exact zo.tk.1.known.mpr zo.tk.2
  · exact zo.tk.1.known.mpr zo.tk.2
theorem goon_m {P : Pm} {g : Gh} {e : Nat} {me : Int32} {u b : Nat → Int32} {D D' : Nat → Nat → Int32} {K A K' A' : Int64} {Y Y' : List Mg} (hG : GO g) (hb12 : g.bg ≤ g.sn + 12) (hgg : 0 < P.gg) (hnn : P.nn ≤ 6) (h : LO P g e D K) (hF : F_91 P.nn P.gg P.C me P.f u b D K A Y = (D', K', A', Y')) : smT D K D' K' ∨ Nn g (D' 16 960) < Nn g (D 16 960) := by
  have comp : ∀ (D1 D2 : Nat → Nat → Int32) (K1 K2 : Int64), (smT D K D1 K1 ∨ Nn g (D1 16 960) < Nn g (D 16 960)) → (smT D1 K1 D2 K2 ∨ Nn g (D2 16 960) < Nn g (D1 16 960)) → (smT D K D2 K2 ∨ Nn g (D2 16 960) < Nn g (D 16 960)) := fun D1 D2 K1 K2 h1 h2 => by
    rcases h1 with h1 | h1
    · rcases h2 with h2 | h2
      · exact Or.inl (h1.tr h2)
      · exact Or.inr (by rw [← h1.1]; exact h2)
    · rcases h2 with h2 | h2
      · exact Or.inr (by rw [h2.1]; exact h1)
      · exact Or.inr (Nat.lt_trans h2 h1)
  have hH : GIh P g e me u b A Y (fun D1 K1 _ => smT D K D1 K1 ∨ Nn g (D1 16 960) < Nn g (D 16 960)) := by
    refine ⟨fun D1 D2 K1 _ _ _ _ _ hk _ hI => comp D1 D2 K1 K1 hI (Or.inl (smT.of (hk 16 (by decide)) (hk 10 (by decide)) (hk 15 (by decide)) rfl)), fun D1 D2 K1 K2 hL hs h12 hq _ hL2 hI => comp D1 D2 K1 K2 hI (Or.inl ?_), fun D1 D2 K1 hL hs ha hq _ hL2 hI => comp D1 D2 K1 K1 hI ?_, fun D1 K1 _ _ _ _ hI => comp D1 _ K1 K1 hI (Or.inl (smT.of (by rw [va_up_n _ _ (by decide), va_up_n _ _ (by decide)]) (by rw [va_up_n _ _ (by decide), va_up_n _ _ (by decide)]) (by rw [va_up_n _ _ (by decide), va_up_n _ _ (by decide)]) rfl)), fun D1 K1 tl _ _ hI => comp D1 _ K1 K1 hI (Or.inl (smT.of (by rw [va_up_n _ _ (by decide)]) (by rw [va_up_n _ _ (by decide)]) (by rw [va_up_n _ _ (by decide)]) rfl))⟩
    · obtain ⟨x1, x2⟩ := change_x hG hL hs h12 hq
      refine ⟨x1, Or.inr ⟨hL.kn (by rw [hs]; decide), ?_⟩⟩
      rcases x2 with x2 | ⟨x2, x3, x4⟩
      · rcases hL2 with hL2 | hL2
        · exact hL2.kn (by rw [x2]; decide)
        · rw [hL2.s5] at x2; exact absurd x2 (by decide)
      · rw [x3, x4 10 (by decide)]; exact hL.kn (by rw [hs]; decide)
    · obtain ⟨x1, x2, x3⟩ := root_x hq
      have hkn : ¬ knA K1 (D1 10 9) = 0 := hL.kn (by rw [hs]; decide)
      rcases hL.st with ⟨z, _⟩ | ⟨z, _⟩ | ⟨z, _⟩ | ⟨_, o, zo⟩ | ⟨z, _⟩
      · rw [hs] at z; exact absurd z (by decide)
      · rw [hs] at z; exact absurd z (by decide)
      · rw [hs] at z; exact absurd z (by decide)
      · have h5 := hG.1
        have o1 := zo.wa.o1
        rw [zo.wa.ak.op, nI_clamp (by omega)] at x3
        rcases zo.rt with ⟨w1, _⟩ | ⟨w1, _⟩
        · right
          rw [x3]
          refine Nn_own2 ?_ zo.wa.o2.1 (by omega) (by omega)
          rcases efv_or g.ops o with y | ⟨v, v1, v2, _⟩
          · exact Or.inl (w1.trans y)
          · exact Or.inr ⟨v, v1, w1.trans v2⟩
        · left
          exact ⟨by rw [x3, w1], Or.inr ⟨hkn, by rw [x2]; exact hkn⟩⟩
      · rw [hs] at z; exact absurd z (by decide)
  obtain ⟨D2, K2, Zt, Zp, r1, r2, _⟩ := goon_I (me := me) (u := u) (b := b) (A := A) (Y := Y) hG hgg hH hnn h (Or.inl (smT.rf D K))
  rw [r1, Prod.mk.injEq, Prod.mk.injEq] at hF
  obtain ⟨e1, e2, _⟩ := hF
  subst e1 e2
  exact r2
theorem HX.m {P : Pm} {g : Gh} {me : Int32} {u b : Nat → Int32} {D D1 : Nat → Nat → Int32} {K A K1 A1 : Int64} {Z : List Mg} (h : HX P g me u b D K A D1 K1 A1 Z) : smT D K D1 K1 ∨ pgT g D K D1 K1 := by
  have h7 : ∀ q, q ≠ 7 → hrd u D q = D q := fun q hq => hrd_n hq
  rcases h with ⟨_, a1, _, _, a4, _⟩ | ⟨_, a1, n, cnt, s2, s3, _, _, _, _, _, _, a8, _⟩ | ⟨_, n, k, _, _, _, _, a5⟩ | ⟨_, a1, _, _, n, _, _, a6, _⟩ | ⟨_, a1, _, _, n, _, _, a6, _⟩ | ⟨_, _, _, _, _, a1, _, _, a4⟩
  · exact Or.inl (smT.of (a4 16 (by decide)) (a4 10 (by decide)) (a4 15 (by decide)) a1)
  · have := a8.1
    exact Or.inl (smT.of (by rw [this 16 (by decide) (by decide) (by decide), h7 16 (by decide)]) (by rw [this 10 (by decide) (by decide) (by decide), h7 10 (by decide)]) (by rw [this 15 (by decide) (by decide) (by decide), h7 15 (by decide)]) a1)
  · unfold IX at a5
    rw [h7 16 (by decide), h7 15 (by decide), h7 10 (by decide)] at a5
    rcases a5 with ⟨_, _, b3, _⟩ | ⟨_, ⟨b1, b2, _⟩ | ⟨fx, b1, b2, b3, b4, b5, b6, b7, b8, _⟩ | ⟨a, _, _, _, b4, _, _, b7, _⟩⟩
    · exact Or.inr (Or.inl b3)
    · rw [b1]
      exact Or.inl (smT.of (h7 16 (by decide)) (h7 10 (by decide)) (h7 15 (by decide)) b2)
    · refine Or.inr (Or.inr ⟨b8, b4, Or.inr ?_⟩)
      rw [b5]
      have := zA_set b1 b3
      omega
    · exact Or.inl (smT.of (by rw [b7 16 (by decide) (by decide), h7 16 (by decide)]) (by rw [b7 10 (by decide) (by decide), h7 10 (by decide)]) (by rw [b7 15 (by decide) (by decide), h7 15 (by decide)]) b4)
  · exact Or.inl (smT.of (a6 16 (by decide) (by decide)) (a6 10 (by decide) (by decide)) (a6 15 (by decide) (by decide)) a1)
  · exact Or.inl (smT.of (a6 16 (by decide) (by decide)) (a6 10 (by decide) (by decide)) (a6 15 (by decide) (by decide)) a1)
  · rw [a4]
    exact Or.inl (smT.of (h7 16 (by decide)) (h7 10 (by decide)) (h7 15 (by decide)) a1)
/-- the leader hears and goes on -/
theorem LDr.m {P : Pm} {g : Gh} {l : Nat} {u b : Nat → Int32} {D D' : Nat → Nat → Int32} {K A K' A' : Int64} {Y Z : List Mg} (hG : GO g) (hb12 : g.bg ≤ g.sn + 12) (hgg : 0 < P.gg) (hnn : P.nn ≤ 6) (hL : LO P g g.ep D K) (hm : MO P g g.ep (u, b)) (hs : MS P g (u, b)) (h : LDr P g l u b D K A D' K' A' Y Z) :
    (smT D K D' K' ∨ pgT g D K D' K') ∧ ∃ (D1 : Nat → Nat → Int32) (K1 : Int64) (Z1 Z2 Z0 : List Mg), Z = Z1 ++ Z2 ∧ psE Z1 Z0 ∧ HX P g (nI l) u b D K A D1 K1 A' Z0 ∧ LO P g g.ep D1 K1 ∧ F_91 P.nn P.gg P.C (nI l) P.f u b D1 K1 A' (psl Y Z1) = (D', K', A', psl (psl Y Z1) Z2) ∧ LO P g g.ep D' K' ∧ GZ P g g.ep (D1 18 3) D1 K1 D' K' Z2 ∧ K7 D1 D' ∧ K9 u D D1 ∧ (smT D1 K1 D' K' ∨ Nn g (D' 16 960) < Nn g (D1 16 960)) ∧ (smT D K D1 K1 ∨ pgT g D K D1 K1) ∧ ∀ Y, F_67 P.nn P.gg P.C (nI l) P.f u b D K A Y = (D1, K1, A', psl Y Z1) := by
  obtain ⟨D1, K1, Z1, Z2, e1, e2, _, e4, e5, e6, e7, e8, e9, _⟩ := h
  obtain ⟨Z0, z1, z2⟩ := hear_x hG hb12 hgg hnn hL hm hs e2
  have m1 := z2.m
  have m2 := goon_m hG hb12 hgg hnn e4 e6
  refine ⟨?_, D1, K1, Z1, Z2, Z0, e1, z1, z2, e4, e6, e7, e8, e9, e5, m2, m1, e2⟩
  rcases m1 with m1 | m1
  · rcases m2 with m2 | m2
    · exact Or.inl (m1.tr m2)
    · exact Or.inr (Or.inl (by rw [← m1.1]; exact m2))
  · exact Or.inr (m1.sm m2)
/-- news stay news -/
theorem nwT.sm {P : Pm} {g : Gh} {e : Nat} {D D' : Nat → Nat → Int32} {K K' : Int64} {k : Nat} (hgg : 0 < P.gg) (hk : k < 5243392) (h : LO P g e D K) (h' : LO P g e D' K') (hs : smT D K D' K') : nwT D K (nI k) ↔ nwT D' K' (nI k) := by
  rcases hs.2 with ⟨a1, a2, a3, a4, a5⟩ | ⟨a1, a2⟩
  · unfold nwT
    rw [a2, a4, a5]
  · have one : ∀ (D : Nat → Nat → Int32) (K : Int64), LO P g e D K → ¬ knA K (D 10 9) = 0 → (nwT D K (nI k) ↔ nwO (D 16 960) (nI k)) := fun D K h hk1 => by
      refine ⟨fun z => ?_, fun z => Or.inl z⟩
      rcases z with z | ⟨a, q1, q2, q3, q4⟩
      · exact z
      · exfalso
        obtain ⟨_, _, htr, _⟩ := h.tab
        rcases h.find hgg hk with ⟨z1, _⟩ | ⟨a', b1, b2, b3, _⟩
        · rw [z1] at q3; exact absurd q3.symm (nIneg (by omega))
        · have : a' = a := nI_inj (by omega) (by omega) (b2.symm.trans q3)
          subst this
          rcases b3 with ⟨_, z⟩ | ⟨p1, fx, f1, f2, f3⟩
          · omega
          · have : a' / 20 = fx := by
              have hp : k / 512 % 20 < 20 := Nat.mod_lt _ (by decide)
              omega
            rw [this] at q4
            have := (htr.known.mp hk1) fx f1 (by rw [f2]; exact nIneg (by omega))
            rw [this] at q4; cases q4
    rw [one D K h a1, one D' K' h' a2, hs.1]

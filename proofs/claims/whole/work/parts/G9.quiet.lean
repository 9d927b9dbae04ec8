/-! no newer ROOTS are put anywhere -/
theorem LO.plcu {P : Pm} {g : Gh} {e : Nat} {D : Nat → Nat → Int32} {K : Int64} {k a a' : Nat} (h : LO P g e D K) (h1 : plc (D 11) k a) (h2 : plc (D 11) k a') : a = a' := by
  obtain ⟨_, _, htr, _⟩ := h.tab
  rcases h1 with ⟨c, e1⟩ | ⟨c, f, f1, f2, f3⟩
  · rcases h2 with ⟨_, e2⟩ | ⟨c2, _⟩
    · omega
    · omega
  · rcases h2 with ⟨c2, _⟩ | ⟨_, f', f1', f2', f3'⟩
    · omega
    · have := htr.inj f1 f1' c f2 f2'
      omega
/-- where an ITEM of the table is found -/
theorem LO.tgf {P : Pm} {g : Gh} {e : Nat} {D : Nat → Nat → Int32} {K : Int64} {a : Nat} (hG : GO g) (hgg : 0 < P.gg) (h : LO P g e D K) (ha : a < 961) (hv : ¬ D 16 a < 0) : ∃ k, k < 5243392 ∧ tgA (D 11) (D 16) a = nI k ∧ fndI (D 15) (D 16) (nI k) = nI a ∧ plc (D 11) k a ∧ D 16 a = nI (k % 512) ∧ D 8 (grp (D 11) P.gg a) = msk P g e k := by
  obtain ⟨k, k1, k2, k3, k4, k5⟩ := h.tagp hG hgg ha hv
  rcases h.find hgg k1 with ⟨_, z⟩ | ⟨a', a1, a2, a3, _⟩
  · exact absurd k4 (z a k3)
  · have := h.plcu k3 a3
    subst this
    exact ⟨k, k1, k2, a2, k3, k4, k5⟩
theorem fnd_nw {P : Pm} {g : Gh} {e k : Nat} {D : Nat → Nat → Int32} {K : Int64} (hgg : 0 < P.gg) (h : LO P g e D K) (hk : k < 5243392) (hf : ¬ fndI (D 15) (D 16) (nI k) = -1) : ¬ nwO (D 16 960) (nI k) := fun z => hf ((h.fdO hgg hk).2 z)
theorem msO_f {gg o j : Nat} {D : Nat → Nat → Int32} (h : bt (msO gg D o) j = true) : ¬ seB (D 21 (o * 128)) = 0 ∧ ¬ fndI (D 15) (D 16) (D 21 (o * 128 + 1)) = -1 := by
  unfold msO at h
  by_cases c : seB (D 21 (o * 128)) = 0
  · rw [if_pos c, b_0] at h; cases h
  · rw [if_neg c] at h
    by_cases d : fndI (D 15) (D 16) (D 21 (o * 128 + 1)) = -1
    · rw [if_pos d, b_0] at h; cases h
    · exact ⟨c, d⟩
theorem Nn_anti {g : Gh} {x y : Int32} (h5 : g.sn ≤ 512) (hx : x = -1 ∨ ∃ w, w < 512 ∧ x = nI w) (hy : y = -1 ∨ ∃ w, w < 512 ∧ y = nI w) (h : y ≤ x) : Nn g x ≤ Nn g y := by
  rcases hy with hy | ⟨v, hv, hy⟩
  · have : Nn g y = 13 := by unfold Nn; rw [hy, if_pos (by decide)]
    rw [this]; exact Nn_13 g x
  · rcases hx with hx | ⟨w, hw, hx⟩
    · exfalso
      rw [hx, hy] at h
      exact nI_pos (show v < 2 ^ 31 by omega) (Int32.lt_of_le_of_lt h (by decide))
    · rw [hx, hy] at h
      have hvw := (nI_leI (by omega) (by omega)).mp h
      by_cases c : nI v < efv g.ops g.sn
      · have : Nn g y = 13 := by unfold Nn; rw [hy, if_neg (nI_pos (by omega)), if_pos c]
        rw [this]; exact Nn_13 g x
      · have c2 : ¬ nI w < efv g.ops g.sn := fun z => c (Int32.lt_of_le_of_lt h z)
        unfold Nn
        rw [hx, hy, if_neg (nI_pos (by omega)), if_neg (nI_pos (by omega)), if_neg c, if_neg c2, nI_clamp (by omega), nI_clamp (by omega)]
        by_cases d : v < g.sn
        · rw [if_pos d]
          split <;> omega
        · rw [if_neg d, if_neg (by omega)]
          omega
theorem LO.rt5 {P : Pm} {g : Gh} {e : Nat} {D : Nat → Nat → Int32} {K : Int64} (hG : GO g) (h : LO P g e D K) : D 16 960 = -1 ∨ ∃ w, w < 512 ∧ D 16 960 = nI w := by
  have h5 := hG.1
  obtain ⟨_, _, _, z⟩ := h.tab
  rcases z with z | ⟨v, v1, v2⟩
  · exact Or.inl z
  · exact Or.inr ⟨v, by omega, v2⟩
/-- the leader's ROOT only grows -/
theorem root_le {P : Pm} {g g' : Gh} {e e' : Nat} {D D' : Nat → Nat → Int32} {K K' : Int64} (hG : GO g) (hG' : GO g') (h5 : g.sn ≤ 512) (h : LO P g e D K) (h' : LO P g' e' D' K') (lm : smT D K D' K' ∨ pgT g D K D' K') : D 16 960 ≤ D' 16 960 := by
  rcases lm with lm | lm | lm
  · rw [lm.1]; exact Int32.le_refl _
  · by_cases c : D' 16 960 ≤ D 16 960
    · have := Nn_anti (g := g) h5 (h.rt5 hG) (h'.rt5 hG') c
      omega
    · exact Int32.le_of_lt (Int32.not_le.mp c)
  · rw [lm.1]; exact Int32.le_refl _
theorem nwO_le {x y t : Int32} (h : x ≤ y) (hn : ¬ nwO x t) : ¬ nwO y t := fun z => hn ⟨z.1, fun q => z.2 (Int32.le_trans q h)⟩
/-- what is not FLUSHED in a hand-over -/
theorem St1.pd {P : Pm} {g : Gh} {l n : Nat} {x : Mg} {Z : List Mg} {S S' : SS} {t : Int32} (hP : PmO P) (hl : l < P.nn) (hst : St1 P g l x Z S S') (ht : ¬ t < 0) (hp : pnd (dN S' n) t) : pnd (dN S n) t ∨ (x.1 0 = 10 ∧ x.1 2 = nI n ∧ x.1 5 = t) := by
  have same : dN S' n 5 = dN S n 5 → dN S' n 6 = dN S n 6 → pnd (dN S n) t := fun e5 e6 => by
    obtain ⟨s, s1, s2, s3⟩ := hp
    exact ⟨s, s1, by rw [← e6]; exact s2, by rw [← e5]; exact s3⟩
  rcases hst.cs hP.nn hl with ⟨_, e, _⟩ | ⟨j, j1, j2, j3, _, _, e1, _, _, _, hr, _⟩ | ⟨_, _, _, _, e1, e⟩ | ⟨_, _, _, _, _, e, _⟩
  · exact Or.inl (same (by show S'.2.2.2.1 n 5 = _; rw [e]) (by show S'.2.2.2.1 n 6 = _; rw [e]))
  · by_cases c : n = j
    · subst c
      rcases hr with ⟨_, e, _⟩ | ⟨_, e, _⟩ | ⟨_, e, _⟩ | ⟨_, e, _⟩ | ⟨c10, _, q, _⟩ | ⟨_, _, q, _⟩
      · rw [e] at hp; exact Or.inl hp
      · rw [e] at hp; exact Or.inl hp
      · rw [e] at hp; exact Or.inl hp
      · rw [e] at hp; exact Or.inl hp
      · rcases q.2.2.2 t ht hp with w | w
        · exact Or.inl w
        · exact Or.inr ⟨c10, j2, w.symm⟩
      · rcases q.2.2.2 t ht hp with w | w
        · exact Or.inl w
        · rw [w] at ht; exact absurd (by decide) ht
    · rw [e1 n c] at hp; exact Or.inl hp
  · by_cases c : n = l
    · subst c
      obtain ⟨_, _, _, _, _, _, _, _, _, _, _, _, _, q, _⟩ := e
      exact Or.inl (same (q 5 (by decide)) (q 6 (by decide)))
    · rw [(e1 n c).1] at hp; exact Or.inl hp
  · exact Or.inl (same (by show S'.2.2.2.1 n 5 = _; rw [e]) (by show S'.2.2.2.1 n 6 = _; rw [e]))
theorem goon_p {P : Pm} {g : Gh} {e : Nat} {me : Int32} {u b : Nat → Int32} {D D' : Nat → Nat → Int32} {K A K' A' : Int64} {Y Y' : List Mg} (hG : GO g) (hgg : 0 < P.gg) (hnn : P.nn ≤ 6) (h : LO P g e D K) (hF : F_91 P.nn P.gg P.C me P.f u b D K A Y = (D', K', A', Y')) : ∃ Zt Zp, Y' = psl (psl Y Zt) Zp ∧ (∀ z ∈ Zt, z.1 0 = 3) ∧ ((D' 18 3 = D 18 3 ∧ Zp = []) ∨ (¬ D' 18 3 = D 18 3 ∧ PZ P.nn P.gg me D' Zp)) := by
  have hH : GIh P g e me u b A Y (fun _ _ Zt => ∀ z ∈ Zt, z.1 0 = 3) := ⟨fun _ _ _ _ _ _ _ _ _ _ hI => hI, fun _ _ _ _ _ _ _ _ _ _ hI => hI, fun _ _ _ _ _ _ _ _ _ hI => hI, fun _ _ _ _ _ _ hI => hI, fun D1 K1 tl _ _ _ z hz => by
    rw [List.mem_singleton.mp hz]
    show va_up (va_up (va_up (mg 3 me (nI P.nn) (D1 7 7) (D1 7 8)) 5 (D1 18 4)) 6 (D1 18 5)) 7 (nI tl) 0 = 3
    rw [va_up_n _ _ (by decide), va_up_n _ _ (by decide), va_up_n _ _ (by decide)]; rfl⟩
  obtain ⟨D2, K2, Zt, Zp, r1, r2, _, r4⟩ := goon_I (me := me) (u := u) (b := b) (A := A) (Y := Y) hG hgg hH hnn h (fun z hz => by cases hz)
  rw [r1, Prod.mk.injEq, Prod.mk.injEq, Prod.mk.injEq] at hF
  obtain ⟨e1, _, _, e4⟩ := hF
  subst e1
  exact ⟨Zt, Zp, e4.symm, r2, r4⟩
/-- a PUT that the leader posts -/
theorem LDr.pu {P : Pm} {g : Gh} {l : Nat} {u b : Nat → Int32} {D D' : Nat → Nat → Int32} {K A K' A' : Int64} {Y Z : List Mg} {z : Mg} (hG : GO g) (hgg : 0 < P.gg) (hnn : P.nn ≤ 6) (h : LDr P g l u b D K A D' K' A' Y Z) (hz : z ∈ psl Y Z) (hk : z.1 0 = 10) :
    z ∈ Y ∨ ∃ o j, ((o < 8 ∧ D' 18 3 = 3) ∨ (o = 8 ∧ D' 18 3 = 4)) ∧ j < P.nn ∧ bt (msO P.gg D' o) j = true ∧ z = mPU (nI l) D' o j := by
  obtain ⟨D1, K1, Z1, Z2, e1, _, e3, e4, _, e6, _⟩ := h
  obtain ⟨Zt, Zp, w1, w2, w3⟩ := goon_p hG hgg hnn e4 e6
  rw [e1, psl_app, w1] at hz
  rcases psl_in Zp hz with q | q
  · rcases psl_in Zt q with q | q
    · rcases psl_in Z1 q with q | q
      · exact Or.inl q
      · rcases (e3.2.2.2.1 z q).kd with y | y | y <;> rw [hk] at y <;> exact absurd y (by decide)
    · have := w2 z q
      rw [hk] at this; exact absurd this (by decide)
  · right
    rcases w3 with ⟨_, w⟩ | ⟨_, w⟩
    · rw [w] at q; cases q
    · rcases w with ⟨_, _, m, _⟩ | ⟨s, _, m, _⟩ | ⟨s, _, m, _⟩ | ⟨_, _, _, s⟩
      · obtain ⟨j, _, _, y⟩ := m z q
        rw [y, mGE_0] at hk; exact absurd hk (by decide)
      · obtain ⟨o, j, o1, j1, b1, y⟩ := m z q
        exact ⟨o, j, Or.inl ⟨o1, s⟩, j1, b1, y⟩
      · obtain ⟨j, j1, b1, y⟩ := m z q
        exact ⟨8, j, Or.inr ⟨rfl, s⟩, j1, b1, y⟩
      · rw [s] at q; cases q
/-- what is put or sent is no newer ROOT -/
def PNs (l : Nat) (S : SS) : Prop := ∀ x k, x ∈ S.2.2.1 → (x.1 0 = 10 ∨ x.1 0 = 9) → k < 5243392 → x.1 5 = nI k → ¬ nwO (dN S l 16 960) (nI k)
/-- what is not FLUSHED is none -/
def PDs (P : Pm) (l : Nat) (S : SS) : Prop := ∀ n k, n < P.nn → k < 5243392 → pnd (dN S n) (nI k) → ¬ nwO (dN S l 16 960) (nI k)
theorem St1.rl {P : Pm} {g g' : Gh} {l : Nat} {x : Mg} {Z : List Mg} {S S' : SS} (hP : PmO P) (hl : l < P.nn) (h : RG P g l S) (hst : St1 P g l x Z S S') (h' : RG P g' l S') : dN S l 16 960 ≤ dN S' l 16 960 := by
  have hG := h.1.1.go
  obtain ⟨he, ha⟩ := h.1.1.as
  have := hG.1
  have := ha.se
  have := ha.h1
  exact root_le hG h'.1.1.go (by omega) (h.lo hl) (h'.lo hl) (hst.lm hP hl h)
theorem PNs.st {P : Pm} {g g' : Gh} {l : Nat} {x : Mg} {Z : List Mg} {S S' : SS} (hP : PmO P) (hl : l < P.nn) (h : RG P g l S) (hi : PNs l S ∧ PDs P l S) (hst : St1 P g l x Z S S') (h' : RG P g' l S') : PNs l S' ∧ PDs P l S' := by
  have hr := hst.rl hP hl h h'
  obtain ⟨i1, i2⟩ := hi
  refine ⟨fun y k hy hkd hk h5 => ?_, fun n k hn hk hp => ?_⟩
  · rcases hst.src hP hl hy with ⟨y0, q1, q2⟩ | ⟨_, q⟩ | ⟨j, z, j1, j2, j3, hq, z1, z2⟩ | ⟨_, _, e, z, z0, z1, z2⟩
    · exact nwO_le hr (i1 y0 k q1 (by rw [← q2.1]; exact hkd) hk (by rw [← q2.1]; exact h5))
    · rw [q] at hkd
      rcases hkd with c | c <;> exact absurd c (by decide)
    · rw [z2.1] at hkd h5
      rcases hq.k z1 with ⟨_, c⟩ | ⟨_, _, c, _⟩ | ⟨_, c | c⟩ | ⟨c9, c | c⟩ | ⟨_, c⟩
      · rw [c] at hkd; rcases hkd with w | w <;> exact absurd w (by decide)
      · rw [c, (mLS_v (to := x.1 1) (h.nu j1)).1] at hkd; rcases hkd with w | w <;> exact absurd w (by decide)
      · rw [c] at hkd; rcases hkd with w | w <;> exact absurd w (by decide)
      · rw [c] at hkd; rcases hkd with w | w <;> exact absurd w (by decide)
      · have ht : z.1 5 = x.1 5 := by
          rcases hq with ⟨d, _⟩ | ⟨d, _⟩ | ⟨d, _⟩ | ⟨_, _, z', e', _, _, _, q5, _⟩ | ⟨d, _⟩ | ⟨d, _⟩
          · rw [c9] at d; exact absurd d (by decide)
          · rw [c9] at d; exact absurd d (by decide)
          · rw [c9] at d; exact absurd d (by decide)
          · rw [e'] at z1
            rw [List.mem_singleton.mp z1]; exact q5
          · rw [c9] at d; exact absurd d (by decide)
          · rw [c9] at d; exact absurd d (by decide)
        exact nwO_le hr (i1 x k hst.head (Or.inr c9) hk (by rw [← ht]; exact h5))
      · rw [c] at hkd; rcases hkd with w | w <;> exact absurd w (by decide)
      · rw [c] at hkd; rcases hkd with w | w <;> exact absurd w (by decide)
    · rw [z2.1] at hkd h5
      have c10 : z.1 0 = 10 := by
        rcases hkd with w | w
        · exact w
        · rcases e.kd z1 with c | c | c | c | c <;> rw [w] at c <;> exact absurd c (by decide)
      rcases e.pu h.1.1.go hP.gg hP.nn z0 c10 with q | ⟨o, j, _, _, q3, q4⟩
      · exact nwO_le hr (i1 z k ((tkl_perm hst.1).mem_iff.mp (List.mem_cons_of_mem _ q)) hkd hk h5)
      · rw [q4, (mPU_5 _ _ _ _).1] at h5
        have := (msO_f q3).2
        rw [h5] at this
        exact fnd_nw hP.gg (h'.lo hl) hk this
  · rcases hst.pd hP hl (nI_pos (by omega)) hp with q | ⟨q1, _, q3⟩
    · exact nwO_le hr (i2 n k hn hk q)
    · exact nwO_le hr (i1 x k hst.head (Or.inl q1) hk q3)
/-- behind a TICK -/
theorem T1.pn {P : Pm} {g : Gh} {l : Nat} {S T : SS} {Zs : Nat → List Mg} (hP : PmO P) (hl : l < P.nn) (h : RG P g l S) (ht : T1 P g l S T Zs) : PNs l T ∧ PDs P l T := by
  have hL := h.lo hl
  have hG := h.1.1.go
  refine ⟨fun y k hy hkd hk h5 => ?_, fun n k hn hk hp => absurd hp (ht.st hn).2.2⟩
  rw [show dN T l 16 960 = dN S l 16 960 by rw [(ht.ld hl).1 16 (by decide) (by decide)]]
  obtain ⟨D1, D2, Zw, f2, wz, _, _, wk⟩ := ht.wz hl
  rcases wk y hy with q | q | q | ⟨z, z1, z2⟩
  · rw [q] at hkd; rcases hkd with w | w <;> exact absurd w (by decide)
  · rw [q] at hkd; rcases hkd with w | w <;> exact absurd w (by decide)
  · rw [q] at hkd; rcases hkd with w | w <;> exact absurd w (by decide)
  · rw [z2.1] at hkd h5
    rcases wz.kd z1 with ⟨j, _, _, _, e⟩ | ⟨e, _⟩ | ⟨o, j, _, _, b1, e⟩ | ⟨a, n, a1, _, a3, _, _, _, e5, _⟩
    · rw [e] at hkd
      rcases hkd with w | w
      · exact absurd w (show ¬ (4 : Int32) = 10 by decide)
      · exact absurd w (show ¬ (4 : Int32) = 9 by decide)
    · rw [e] at hkd; rcases hkd with w | w <;> exact absurd w (by decide)
    · rw [e, (mPU_5 _ _ _ _).1] at h5
      have := (msO_f b1).2
      rw [h5, f2 15 (by decide) (by decide) (by decide), f2 16 (by decide) (by decide) (by decide)] at this
      exact fnd_nw hP.gg hL hk this
    · rw [e5, f2 11 (by decide) (by decide) (by decide), f2 16 (by decide) (by decide) (by decide)] at h5
      have a3 := a3.1
      rw [f2 16 (by decide) (by decide) (by decide)] at a3
      obtain ⟨k', k1, k2, k3, _⟩ := hL.tgf hG hP.gg a1 a3
      have : k' = k := nI_inj (by omega) (by omega) (k2.symm.trans h5)
      subst this
      exact fnd_nw hP.gg hL hk (by rw [k3]; exact nIneg (by omega))

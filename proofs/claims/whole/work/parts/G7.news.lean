/-! news come to the leader -/
theorem smM.sy {x y : Mg} (h : smM x y) : smM y x := ⟨h.1.symm, fun i hi => (h.2 i (by rw [h.1]; exact hi)).symm⟩
theorem hvT_sy {y y' : Mg} {t : Int32} (h : smM y y') (hk : y.1 0 = 5 ∨ y.1 0 = 11 ∨ y.1 0 = 12) (ht : hvT y' t) : hvT y t := by
  obtain ⟨i, i1, i2⟩ := ht
  have hr : rlv y.1 = (y.1 7).toNatClampNeg := by
    unfold rlv
    rw [if_neg (by rcases hk with z | z | z <;> rw [z] <;> decide), if_neg (by rcases hk with z | z | z <;> rw [z] <;> decide), if_pos hk]
  rw [← h.1] at i1
  exact ⟨i, i1, by rw [h.2 i (by rw [hr]; exact i1)]; exact i2⟩
theorem RG.nu {P : Pm} {g : Gh} {l n : Nat} {S : SS} (h : RG P g l S) (hn : n < P.nn) : NU P g n g.ep (dN S n) (kN S n) := by
  have := h.1.nu hn
  rw [h.2.2.2.1 n hn] at this
  exact this
theorem RG.lo {P : Pm} {g : Gh} {l : Nat} {S : SS} (hl : l < P.nn) (h : RG P g l S) : LO P g g.ep (dN S l) (kN S l) := by
  have hN := h.nu hl
  exact hN.ld (by rw [hN.ep.2.2.1]; exact h.2.2.1)
theorem LO.gs {P : Pm} {g g' : Gh} {D : Nat → Nat → Int32} {K : Int64} (hG : GO g) (hg : Gs g g') (h : LO P g g.ep D K) : LO P g' g'.ep D K := by
  rw [hg.ep]; exact h.mono hg.le hG.1
theorem pgT.gs {g g' : Gh} {D D' : Nat → Nat → Int32} {K K' : Int64} (hg : Gs g g') (h : pgT g D K D' K') : pgT g' D K D' K' := by
  unfold pgT; rw [Nn_gs hg]; exact h
theorem pgT.tr {g : Gh} {D D1 D' : Nat → Nat → Int32} {K K1 K' : Int64} (h : pgT g D K D1 K1) (h2 : pgT g D1 K1 D' K') : pgT g D K D' K' := by
  rcases h with h | ⟨a1, a2, a3⟩
  · rcases h2 with h2 | ⟨b1, _⟩
    · exact Or.inl (Nat.lt_trans h2 h)
    · exact Or.inl (by rw [b1]; exact h)
  · rcases h2 with h2 | ⟨b1, b2, b3⟩
    · exact Or.inl (by rw [← a1]; exact h2)
    · refine Or.inr ⟨by rw [b1, a1], a2, ?_⟩
      rcases b3 with b3 | b3
      · exact Or.inl b3
      · rcases a3 with a3 | a3
        · exact absurd b2 a3
        · exact Or.inr (Nat.lt_trans b3 a3)
theorem smT.pg {g : Gh} {D D1 D' : Nat → Nat → Int32} {K K1 K' : Int64} (h : smT D K D1 K1) (h2 : pgT g D1 K1 D' K') : pgT g D K D' K' := by
  rcases h2 with h2 | ⟨b1, b2, b3⟩
  · exact Or.inl (by rw [← h.1]; exact h2)
  · rcases h.2 with ⟨a1, a2, _⟩ | ⟨_, a2⟩
    · exact Or.inr ⟨by rw [b1, h.1], a1, by rw [← a2]; exact b3⟩
    · exact absurd b2 a2
theorem smT.no {g : Gh} {D D' : Nat → Nat → Int32} {K K' : Int64} (h : smT D K D' K') (h2 : pgT g D K D' K') : False := by
  rcases h2 with h2 | ⟨_, b2, b3⟩
  · rw [h.1] at h2; exact Nat.lt_irrefl _ h2
  · rcases h.2 with ⟨a1, a2, a3, _⟩ | ⟨a1, _⟩
    · rw [a2, a3] at b3
      rcases b3 with b3 | b3
      · exact b3 a1
      · exact Nat.lt_irrefl _ b3
    · exact a1 b2
/-- the leader's table in a hand-over -/
theorem St1.lm {P : Pm} {g : Gh} {l : Nat} {x : Mg} {Z : List Mg} {S S' : SS} (hP : PmO P) (hl : l < P.nn) (h : RG P g l S) (hst : St1 P g l x Z S S') : smT (dN S l) (kN S l) (dN S' l) (kN S' l) ∨ pgT g (dN S l) (kN S l) (dN S' l) (kN S' l) := by
  have hS := h.1
  have hm := hst.2.2.1
  have hs := hst.2.2.2.1
  rcases hst.cs hP.nn hl with ⟨_, e, _⟩ | ⟨j, _, _, _, _, _, _, e2, _, e3, _⟩ | ⟨_, _, _, _, _, e⟩ | ⟨_, _, _, _, _, e, _⟩
  · exact Or.inl (smT.of (by show S'.2.2.2.1 l 16 = _; rw [e]) (by show S'.2.2.2.1 l 10 = _; rw [e]) (by show S'.2.2.2.1 l 15 = _; rw [e]) (by show S'.2.2.2.2.1 l = _; rw [e]))
  · exact Or.inl (smT.of (e3 l 16 (by omega)) (e3 l 10 (by omega)) (e3 l 15 (by omega)) (e2 l))
  · exact (e.m hS.1.go (SU.b12 hS.1) hP.gg hP.nn (h.lo hl) hm hs).1
  · exact Or.inl (smT.of (by show S'.2.2.2.1 l 16 = _; rw [e]) (by show S'.2.2.2.1 l 10 = _; rw [e]) (by show S'.2.2.2.1 l 15 = _; rw [e]) (by show S'.2.2.2.2.1 l = _; rw [e]))
/-- what stays on DISKS in a hand-over -/
theorem St1.dk {P : Pm} {g : Gh} {l n : Nat} {x : Mg} {Z : List Mg} {S S' : SS} (hP : PmO P) (hl : l < P.nn) (h : RG P g l S) (hst : St1 P g l x Z S S') (hn : n < P.nn) : DKF (fun t => x.1 0 = 12 ∧ x.1 2 = nI n ∧ hvT x t) (dN S n) (dN S' n) := by
  have hS := h.1
  have hm := hst.2.2.1
  rcases hst.cs hP.nn hl with ⟨_, e, _⟩ | ⟨j, j1, j2, j3, _, _, e1, e2, e4, e3, hr, hF⟩ | ⟨_, _, _, _, e1, e⟩ | ⟨_, _, _, _, _, e, _⟩
  · show DKF _ (S.2.2.2.1 n) (S'.2.2.2.1 n)
    rw [e]; exact DKF.rf _ _
  · by_cases c : n = j
    · subst c
      have := nk_f (l := l) (h.nu hn) hm (Or.inl ⟨j3, e2 n, e4 n, fun q hq => e3 n q hq, hr⟩) hF
      refine ⟨fun t ht hs => ?_, fun t ht hs => ?_⟩
      · rcases this.1 t ht hs with q | ⟨q1, m, q2, q3⟩
        · exact Or.inl q
        · exact Or.inr ⟨q1, j2, m, q2, q3⟩
      · rcases this.2 t ht hs with q | ⟨q1, m, q2, q3⟩
        · exact Or.inl q
        · exact Or.inr ⟨q1, j2, m, q2, q3⟩
    · rw [e1 n c]; exact DKF.rf _ _
  · by_cases c : n = l
    · subst c
      obtain ⟨_, _, _, _, _, _, _, _, _, _, _, _, _, q, _⟩ := e
      exact ⟨fun t _ ⟨s, s1, s2, s3⟩ => Or.inl ⟨s, s1, by rw [q 6 (by decide)]; exact s2, by rw [q 5 (by decide)]; exact s3⟩, fun t _ ⟨s, s1, s2⟩ => Or.inl ⟨s, s1, by rw [q 6 (by decide)]; exact s2⟩⟩
    · rw [(e1 n c).1]; exact DKF.rf _ _
  · show DKF _ (S.2.2.2.1 n) (S'.2.2.2.1 n)
    rw [e]; exact DKF.rf _ _
/-- where a MESSAGE comes from -/
theorem St1.src {P : Pm} {g : Gh} {l : Nat} {x y : Mg} {Z : List Mg} {S S' : SS} (hP : PmO P) (hl : l < P.nn) (hst : St1 P g l x Z S S') (hy : y ∈ S'.2.2.1) :
    (∃ y0, y0 ∈ S.2.2.1 ∧ smM y y0) ∨ (x.1 2 = nI P.nn ∧ y.1 0 = 2) ∨ (∃ j z, j < P.nn ∧ x.1 2 = nI j ∧ isN (x.1 0) ∧ NRl P j x.1 x.2 (dN S j) (dN S' j) Z ∧ z ∈ Z ∧ smM y z) ∨
    (x.1 2 = nI l ∧ ¬ isN (x.1 0) ∧ LDr P g l x.1 x.2 (dN S l) (kN S l) (aN S l) (dN S' l) (kN S' l) (aN S' l) (tkl S.2.2.1 0) Z ∧ ∃ z, z ∈ psl (tkl S.2.2.1 0) Z ∧ z ∈ Z ∧ smM y z) := by
  have hsub : ∀ w, w ∈ tkl S.2.2.1 0 → w ∈ S.2.2.1 := fun w hw => (tkl_perm hst.1).mem_iff.mp (List.mem_cons_of_mem _ hw)
  rcases hst.cs hP.nn hl with ⟨a0, _, e⟩ | ⟨j, j1, j2, j3, _, _, e1, e2, e4, e3, hr, hF⟩ | ⟨a0, a1, _, _, e1, e⟩ | ⟨_, _, _, _, _, e, eZ⟩
  · rcases e with ⟨_, e⟩ | ⟨_, _, e⟩ | ⟨_, _, ms', e, er⟩
    · rw [e] at hy
      exact Or.inl ⟨y, hsub y hy, smM.rf⟩
    · rw [e] at hy
      exact Or.inl ⟨y, hsub y hy, smM.rf⟩
    · obtain ⟨Z', z1, _, z3, _⟩ := ask_z er
      rw [e] at hy
      have hy : y ∈ ms' := hy
      rw [z1] at hy
      rcases psl_in Z' hy with q | q
      · exact Or.inl ⟨y, hsub y q, smM.rf⟩
      · exact Or.inr (Or.inl ⟨a0, (z3 y q).1⟩)
  · rcases hst.in hy with q | ⟨z, _, q2, q3⟩
    · exact Or.inl q
    · exact Or.inr (Or.inr (Or.inl ⟨j, z, j1, j2, j3, hr, q2, q3⟩))
  · rcases hst.in hy with q | ⟨z, q1, q2, q3⟩
    · exact Or.inl q
    · exact Or.inr (Or.inr (Or.inr ⟨a0, a1, e, z, q1, q2, q3⟩))
  · rcases hst.in hy with q | ⟨z, _, q2, _⟩
    · exact Or.inl q
    · rw [eZ] at q2; cases q2
theorem zHr.kd {nn : Nat} {me : Int32} {D : Nat → Nat → Int32} {z : Mg} (h : zHr nn me D z) : z.1 0 = 4 ∨ z.1 0 = 6 ∨ z.1 0 = 12 := by
  rcases h with ⟨j, _, e⟩ | ⟨t, k, e⟩ | ⟨to, c, bf, _, e⟩
  · rw [e]; exact Or.inl rfl
  · rw [e, mGT_0]; exact Or.inr (Or.inl rfl)
  · refine Or.inr (Or.inr ?_)
    rw [e]
    show va_up (mg 12 me to (D 7 7) (D 7 8)) 7 (nI c) 0 = 12
    rw [va_up_n _ _ (by decide)]; rfl
theorem LDr.kd {P : Pm} {g : Gh} {l : Nat} {u b : Nat → Int32} {D D' : Nat → Nat → Int32} {K A K' A' : Int64} {Y Z : List Mg} {z : Mg} (h : LDr P g l u b D K A D' K' A' Y Z) (hz : z ∈ Z) : z.1 0 = 4 ∨ z.1 0 = 6 ∨ z.1 0 = 12 ∨ z.1 0 = 3 ∨ z.1 0 = 10 := by
  obtain ⟨D1, K1, Z1, Z2, e1, _, e3, _, _, _, _, e8, _⟩ := h
  rw [e1] at hz
  rcases List.mem_append.mp hz with q | q
  · rcases (e3.2.2.2.1 z q).kd with w | w | w
    · exact Or.inl w
    · exact Or.inr (Or.inl w)
    · exact Or.inr (Or.inr (Or.inl w))
  · rcases (e8.2.2.2.2.1 z q).2.2 with w | w | w
    · exact Or.inr (Or.inr (Or.inr (Or.inl w)))
    · exact Or.inr (Or.inl w)
    · exact Or.inr (Or.inr (Or.inr (Or.inr w)))
/-- a DROP that the leader posts -/
theorem LDr.dr {P : Pm} {g : Gh} {l : Nat} {u b : Nat → Int32} {D D' : Nat → Nat → Int32} {K A K' A' : Int64} {Y Z : List Mg} {z : Mg} (hG : GO g) (hb12 : g.bg ≤ g.sn + 12) (hgg : 0 < P.gg) (hnn : P.nn ≤ 6) (hL : LO P g g.ep D K) (hm : MO P g g.ep (u, b)) (hs : MS P g (u, b)) (h : LDr P g l u b D K A D' K' A' Y Z) (hz : z ∈ psl Y Z) (hk : z.1 0 = 12) :
    z ∈ Y ∨ ∃ n, n < P.nn ∧ u 0 = 5 ∧ u 1 = nI n ∧ z.1 2 = nI n ∧ D 18 3 ≤ 1 ∧ ¬ knA K (D 10 9) = 0 ∧ ¬ sfB (D 8) (D 11) (D 16) (D 17) P.gg 960 = 0 ∧ ∀ t, hvT z t → hvT (u, b) t ∧ jS P.gg D K n t := by
  obtain ⟨_, D1, K1, Z1, Z2, Z0, e1, e2, e3, _, _, _, e8, _⟩ := h.m hG hb12 hgg hnn hL hm hs
  rw [e1, psl_app] at hz
  rcases psl_in Z2 hz with q | q
  · rw [e2 Y] at q
    rcases psl_in Z0 q with w | w
    · exact Or.inl w
    · rcases e3 with ⟨_, _, _, a4, _⟩ | ⟨c5, a1, n, cnt, s2, s3, a2, a3, a4, a5, a6, a7, a8, Z6, a9, a10⟩ | ⟨_, n, k, _, _, _, _, a5⟩ | ⟨_, _, _, a4, _⟩ | ⟨_, _, _, a4, _⟩ | ⟨_, _, _, _, _, _, _, a4, _⟩
      · rw [a4] at w; cases w
      · rw [a9 Y] at q
        rcases psl_in Z6 q with v | v
        · exact Or.inl v
        · right
          obtain ⟨_, ⟨Zg, Zd, d', bf, g1, g2, g3, g4, g5, g6, g7, g8⟩, _⟩ := a10
          rw [g1] at v
          rcases List.mem_append.mp v with v | v
          · obtain ⟨j, _, _, j3, _⟩ := g2 z v
            rw [j3, mGT_0] at hk; exact absurd hk (by decide)
          · rcases g5 with ⟨_, y⟩ | ⟨y1, y2⟩
            · rw [y] at v; cases v
            · rw [y2] at v
              have v := List.mem_singleton.mp v
              have h7 : z.1 7 = nI d' := by
                rw [v]
                show va_up (mg 12 (nI l) (u 1) (hrd u D 7 7) (hrd u D 7 8)) 7 (nI d') 7 = _
                exact va_up_s _ _ _
              have h2 : z.1 2 = nI n := by
                rw [v]
                show va_up (mg 12 (nI l) (u 1) (hrd u D 7 7) (hrd u D 7 8)) 7 (nI d') 2 = _
                rw [va_up_n _ _ (by decide)]; exact a3
              obtain ⟨s3n, _⟩ := g7 0 (Nat.zero_le _) y1
              have hn0 : ¬ s2 = 0 ∧ ¬ sfB (D 8) (D 11) (D 16) (D 17) P.gg 960 = 0 := ⟨fun y => s3n (a7.mpr (Or.inl y)), fun y => s3n (a7.mpr (Or.inr y))⟩
              have hst : D 18 3 ≤ 1 ∧ ¬ knA K (D 10 9) = 0 := by
                by_cases c : D 18 3 ≤ 1 ∧ ¬ knA K (D 10 9) = 0
                · exact c
                · exact absurd (a6.mpr c) hn0.1
              refine ⟨n, a2, c5, a3, h2, hst.1, hst.2, hn0.2, fun t ⟨i, i1, i2⟩ => ?_⟩
              rw [h7, nI_clamp (by omega)] at i1
              obtain ⟨_, j, _, j2, j3, j4⟩ := g7 i (Nat.zero_le _) i1
              have e5 : z.2 i = bf i := by rw [v]; rfl
              rw [← i2, e5, j3]
              refine ⟨⟨j, ?_, rfl⟩, ?_⟩
              · show j < (u 7).toNatClampNeg
                rw [a4, nI_clamp (by omega)]; omega
              · unfold jS at j4 ⊢
                rw [hrd_n (by decide), hrd_n (by decide), hrd_n (by decide), hrd_n (by decide), hrd_n (by decide), hrd_n (by decide)] at j4
                exact j4
      · exfalso
        rcases a5 with ⟨_, _, _, _, _, y, _⟩ | ⟨_, ⟨_, _, _, y, _⟩ | ⟨fx, _, _, _, _, _, _, _, _, _, y⟩ | ⟨a, _, _, _, _, _, y, _⟩⟩
        · have := y z w
          rw [hk] at this; exact absurd this (by decide)
        · rw [y] at w; cases w
        · rcases y with ⟨_, y⟩ | ⟨_, y, _⟩
          · rw [y] at w; cases w
          · obtain ⟨j, _, y⟩ := y z w
            rw [y] at hk; exact absurd hk (show ¬ (4 : Int32) = 12 by decide)
        · rw [y] at w; cases w
      · rw [a4] at w; cases w
      · rw [a4] at w; cases w
      · rw [a4] at w; cases w
  · exfalso
    rcases (e8.2.2.2.2.1 z q).2.2 with w | w | w <;> rw [hk] at w <;> exact absurd w (by decide)
/-- news that were not asked for yet -/
def nwA (D : Nat → Nat → Int32) (K A : Int64) (k : Nat) : Prop := nwO (D 16 960) (nI k) ∨ ∃ a, a < 960 ∧ a % 20 = 19 ∧ fndI (D 15) (D 16) (nI k) = nI a ∧ bq K (a / 20) = false ∧ bq A (a / 20) = false
theorem nwA.t {D : Nat → Nat → Int32} {K A : Int64} {k : Nat} (h : nwA D K A k) : nwT D K (nI k) := by
  rcases h with h | ⟨a, a1, a2, a3, a4, _⟩
  · exact Or.inl h
  · exact Or.inr ⟨a, a1, a2, a3, a4⟩
/-- an unknown RECORD -/
theorem LO.unk {P : Pm} {g : Gh} {e : Nat} {D : Nat → Nat → Int32} {K : Int64} {k a : Nat} (hgg : 0 < P.gg) (hk : k < 5243392) (h : LO P g e D K) (ha : a < 960) (hf : fndI (D 15) (D 16) (nI k) = nI a) (hb : bq K (a / 20) = false) : knA K (D 10 9) = 0 := by
  by_cases hk1 : knA K (D 10 9) = 0
  · exact hk1
  · exfalso
    obtain ⟨_, _, htr, _⟩ := h.tab
    rcases h.find hgg hk with ⟨z1, _⟩ | ⟨a', b1, b2, b3, _⟩
    · rw [z1] at hf; exact absurd hf.symm (nIneg (by omega))
    · have : a' = a := nI_inj (by omega) (by omega) (b2.symm.trans hf)
      subst this
      rcases b3 with ⟨_, z⟩ | ⟨p1, fx, f1, f2, f3⟩
      · omega
      · have : a' / 20 = fx := by
          have hp : k / 512 % 20 < 20 := Nat.mod_lt _ (by decide)
          omega
        rw [this] at hb
        have := (htr.known.mp hk1) fx f1 (by rw [f2]; exact nIneg (by omega))
        rw [this] at hb; cases hb
theorem nwA.sm {P : Pm} {g : Gh} {e : Nat} {D D' : Nat → Nat → Int32} {K K' A : Int64} {k : Nat} (hgg : 0 < P.gg) (hk : k < 5243392) (h : LO P g e D K) (hs : smT D K D' K') (hn : nwA D K A k) : nwA D' K' A k := by
  rcases hn with hn | ⟨a, a1, a2, a3, a4, a5⟩
  · exact Or.inl (by rw [hs.1]; exact hn)
  · have := h.unk hgg hk a1 a3 a4
    rcases hs.2 with ⟨_, b2, _, b4, b5⟩ | ⟨b1, _⟩
    · exact Or.inr ⟨a, a1, a2, by rw [b4, b5]; exact a3, by rw [b2]; exact a4, a5⟩
    · exact absurd this b1
/-- what may go is no news -/
theorem jS.nn {P : Pm} {g : Gh} {e n k : Nat} {D : Nat → Nat → Int32} {K : Int64} (hgg : 0 < P.gg) (hk : k < 5243392) (h : LO P g e D K) (hkn : ¬ knA K (D 10 9) = 0) (hj : jS P.gg D K n (nI k)) : ¬ nwT D K (nI k) := fun z => by
  rcases z with z | ⟨a, q1, q2, q3, q4⟩
  · rcases hj with ⟨_, _, j3⟩ | ⟨a, a1, a2, _⟩
    · apply z.2
      exact Int32.not_lt.mp j3
    · have := (h.fdO hgg hk).2 z
      rw [this] at a2; exact absurd a2.symm (nIneg (by omega))
  · exact hkn (h.unk hgg hk q1 q3 q4)
/-- LISTED says of news only what stands -/
def NLs (P : Pm) (l : Nat) (S : SS) : Prop := ∀ n x k, n < P.nn → x ∈ S.2.2.1 → x.1 0 = 5 → x.1 1 = nI n → k < 5243392 → hvT x (nI k) → nwT (dN S l) (kN S l) (nI k) → stb (dN S n) (nI k)
/-- no news are dropped -/
def DRs (l : Nat) (S : SS) : Prop := ∀ x k, x ∈ S.2.2.1 → x.1 0 = 12 → k < 5243392 → hvT x (nI k) → ¬ nwT (dN S l) (kN S l) (nI k)
/-- news are under way -/
def NOb (P : Pm) (l : Nat) (S : SS) : Prop := ∃ k, k < 5243392 ∧ nwT (dN S l) (kN S l) (nI k) ∧
  ((∃ n x, n < P.nn ∧ x ∈ S.2.2.1 ∧ x.1 0 = 6 ∧ x.1 1 = nI l ∧ x.1 2 = nI n ∧ x.1 5 = nI k ∧ stb (dN S n) (nI k)) ∨
   (∃ x, x ∈ S.2.2.1 ∧ x.1 0 = 7 ∧ x.1 2 = nI l ∧ x.1 5 = nI k) ∨
   (nwA (dN S l) (kN S l) (aN S l) k ∧ ((∃ n x, n < P.nn ∧ x ∈ S.2.2.1 ∧ x.1 0 = 4 ∧ x.1 1 = nI l ∧ x.1 2 = nI n ∧ stb (dN S n) (nI k)) ∨ ∃ n x, n < P.nn ∧ x ∈ S.2.2.1 ∧ x.1 0 = 5 ∧ x.1 1 = nI n ∧ x.1 2 = nI l ∧ hvT x (nI k))))
def NWI (P : Pm) (l : Nat) (S0 : SS) (g : Gh) (S : SS) : Prop := pgT g (dN S0 l) (kN S0 l) (dN S l) (kN S l) ∨ (smT (dN S0 l) (kN S0 l) (dN S l) (kN S l) ∧ NLs P l S ∧ DRs l S ∧ NOb P l S)
theorem isHV.k11 {nn : Nat} {me : Int32} {f : Nat → Int32} {D : Nat → Nat → Int32} {z : Mg} (h : isHV nn me f D z) : z.1 0 = 11 := h.v.1
/-- what a NODE posts -/
theorem NRl.k {P : Pm} {n : Nat} {u b : Nat → Int32} {D D' : Nat → Nat → Int32} {Z : List Mg} {z : Mg} (h : NRl P n u b D D' Z) (hz : z ∈ Z) : (u 0 = 0 ∧ z.1 0 = 1) ∨ (u 0 = 4 ∧ D' = D ∧ z = mLS n D (u 1) ∧ Z = [mLS n D (u 1)]) ∨ (u 0 = 6 ∧ (z.1 0 = 7 ∨ z.1 0 = 8)) ∨ (u 0 = 9 ∧ (z.1 0 = 10 ∨ z.1 0 = 8)) ∨ ((u 0 = 10 ∨ u 0 = 12) ∧ z.1 0 = 11) := by
  rcases h with ⟨a, _, e⟩ | ⟨a, d, e⟩ | ⟨a, _, z0, e, _, _, _, _, _, q⟩ | ⟨a, _, z0, e, _, _, _, _, q⟩ | ⟨a, _, q, _⟩ | ⟨a, _, q, _⟩
  · rw [e] at hz
    exact Or.inl ⟨a, by rw [List.mem_singleton.mp hz]; rfl⟩
  · rw [e] at hz
    exact Or.inr (Or.inl ⟨a, d, List.mem_singleton.mp hz, e⟩)
  · rw [e] at hz
    rw [List.mem_singleton.mp hz]
    refine Or.inr (Or.inr (Or.inl ⟨a, ?_⟩))
    rcases q with ⟨_, q⟩ | ⟨_, q⟩
    · exact Or.inl q
    · exact Or.inr q
  · rw [e] at hz
    rw [List.mem_singleton.mp hz]
    refine Or.inr (Or.inr (Or.inr (Or.inl ⟨a, ?_⟩)))
    rcases q with ⟨_, q, _⟩ | ⟨_, q, _⟩
    · exact Or.inl q
    · exact Or.inr q
  · exact Or.inr (Or.inr (Or.inr (Or.inr ⟨Or.inl a, (q.2.1 z hz).k11⟩)))
  · exact Or.inr (Or.inr (Or.inr (Or.inr ⟨Or.inr a, (q.2.1 z hz).k11⟩)))
theorem IX.pg {nn : Nat} {g : Gh} {me : Int32} {k : Nat} {D D1 : Nat → Nat → Int32} {K A K1 A1 : Int64} {Z : List Mg} (h : IX nn g me k D K A D1 K1 A1 Z) (hn : nwT D K (nI k)) : pgT g D K D1 K1 := by
  rcases h with ⟨_, _, b3, _⟩ | ⟨b0, ⟨_, _, _, _, b5, _⟩ | ⟨fx, b1, b2, b3, b4, b5, b6, b7, b8, _⟩ | ⟨a, b1, b2, b3, _⟩⟩
  · exact Or.inl b3
  · exact absurd hn b5
  · refine Or.inr ⟨b8, b4, Or.inr ?_⟩
    rw [b5]
    have := zA_set b1 b3
    omega
  · rcases hn with hn | ⟨a', q1, q2, q3, _⟩
    · exact absurd hn b0
    · have : a' = a := nI_inj (by omega) (by omega) (q3.symm.trans b3)
      rw [this] at q2; exact absurd q2 b2
theorem nwT.hr {u : Nat → Int32} {D : Nat → Nat → Int32} {K : Int64} {t : Int32} : nwT (hrd u D) K t ↔ nwT D K t := by
  unfold nwT
  rw [hrd_n (by decide), hrd_n (by decide)]
theorem pgT.hr {g : Gh} {u : Nat → Int32} {D D1 : Nat → Nat → Int32} {K K1 : Int64} (h : pgT g (hrd u D) K D1 K1) : pgT g D K D1 K1 := by
  unfold pgT at h ⊢
  rw [hrd_n (by decide), hrd_n (by decide)] at h
  exact h
theorem NWI.st {P : Pm} {g g' : Gh} {l : Nat} {x : Mg} {Z : List Mg} {S0 S S' : SS} (hP : PmO P) (hl : l < P.nn) (h : RG P g l S) (hi : NWI P l S0 g S) (hst : St1 P g l x Z S S') (hgs : Gs g g') (h' : RG P g' l S') : NWI P l S0 g' S' := by
  have hS := h.1
  have hG := hS.1.go
  have hb12 := SU.b12 hS.1
  have hnn := hP.nn
  have hL := h.lo hl
  have hLm : LO P g' g'.ep (dN S l) (kN S l) := hL.gs hG hgs
  have hm := hst.2.2.1
  have hs := hst.2.2.2.1
  have lm := hst.lm hP hl h
  rcases hi with hi | ⟨i1, i2, i3, i4⟩
  · left
    apply pgT.gs hgs
    rcases lm with lm | lm
    · exact hi.sm (Or.inl lm)
    · exact hi.tr lm
  rcases lm with lm | lm
  case inr => exact Or.inl ((i1.pg lm).gs hgs)
  right
  have hN : ∀ k, k < 5243392 → (nwT (dN S l) (kN S l) (nI k) ↔ nwT (dN S' l) (kN S' l) (nI k)) := fun k hk => nwT.sm hP.gg hk hLm (h'.lo hl) lm
  have keep : ∀ n k, n < P.nn → k < 5243392 → nwT (dN S l) (kN S l) (nI k) → stb (dN S n) (nI k) → stb (dN S' n) (nI k) := fun n k hn hk hw hsb => by
    rcases (hst.dk hP hl h hn).1 (nI k) (nI_pos (by omega)) hsb with q | ⟨q1, _, q3⟩
    · exact q
    · exact absurd hw (i3 x k hst.head q1 hk q3)
  have hlt := hst.lt h.2.1
  have first : ∀ z Z', Z = z :: Z' → ∃ y ∈ S'.2.2.1, smM y z := fun z Z' e => hst.new (by rw [e]; exact psl_new hlt)
  -- a GET of news behind a LISTED
  have mkG : ∀ (n cnt j : Nat) (Zx Z' : List Mg), n < P.nn → x.1 0 = 5 → x.1 1 = nI n → x.1 7 = nI cnt → cnt ≤ 280 → j < cnt → (∀ z, z ∈ psl (tkl S.2.2.1 0) Zx → z ∈ psl (tkl S.2.2.1 0) Z) → Zx = mGT (nI l) (hrd x.1 (dN S l)) (x.2 j) (x.1 1) :: Z' → nwT (hrd x.1 (dN S l)) (kN S l) (x.2 j) → NOb P l S' := fun n cnt j Zx Z' hn c5 c1 c7 hc hj hz e hw => by
    obtain ⟨cnt', k1, k2, k3, k4⟩ := hs.1 c5
    have : cnt' = cnt := nI_inj (by omega) (by omega) (k2.symm.trans c7)
    subst this
    obtain ⟨k, a1, a2, _⟩ := k4 j hj
    have hv : hvT x (nI k) := ⟨j, by rw [c7, nI_clamp (by omega)]; exact hj, a2⟩
    rw [nwT.hr, a2] at hw
    obtain ⟨y, y1, y2⟩ := hst.new (hz _ (by rw [e]; exact psl_new hlt))
    have w : ∀ q, q ≠ 5 → y.1 q = mg 6 (nI l) (x.1 1) (hrd x.1 (dN S l) 7 7) (hrd x.1 (dN S l) 7 8) q := fun q hq => by
      rw [y2.1]
      show va_up (mg 6 (nI l) (x.1 1) (hrd x.1 (dN S l) 7 7) (hrd x.1 (dN S l) 7 8)) 5 (x.2 j) q = _
      rw [va_up_n _ _ hq]
    refine ⟨k, a1, (hN k a1).mp hw, Or.inl ⟨n, y, hn, y1, w 0 (by decide), w 1 (by decide), (w 2 (by decide)).trans c1, ?_, keep n k hn a1 hw (i2 n x k hn hst.head c5 c1 a1 hv hw)⟩⟩
    rw [y2.1]
    show va_up (mg 6 (nI l) (x.1 1) (hrd x.1 (dN S l) 7 7) (hrd x.1 (dN S l) 7 8)) 5 (x.2 j) 5 = _
    rw [va_up_s, a2]
  refine ⟨i1.tr lm, fun n y k hn hy h5 h1 hk hv hw => ?_, fun y k hy h12 hk hv hw => ?_, ?_⟩
  · rcases hst.src hP hl hy with ⟨y0, q1, q2⟩ | ⟨_, q⟩ | ⟨j, z, j1, j2, j3, hr, z1, z2⟩ | ⟨_, _, e, z, _, z1, z2⟩
    · exact keep n k hn hk ((hN k hk).mpr hw) (i2 n y0 k hn q1 (by rw [← q2.1]; exact h5) (by rw [← q2.1]; exact h1) hk (hvT_sy q2.sy (by rw [← q2.1]; exact Or.inl h5) hv) ((hN k hk).mpr hw))
    · rw [h5] at q; exact absurd q (by decide)
    · have hz5 : z.1 0 = 5 := by rw [← z2.1]; exact h5
      rcases hr.k z1 with ⟨_, c⟩ | ⟨_, c2, c3, _⟩ | ⟨_, c | c⟩ | ⟨_, c | c⟩ | ⟨_, c⟩
      · rw [hz5] at c; exact absurd c (by decide)
      · obtain ⟨v0, v1, v2, v3, v6, c, v7, v8, v9, v10, v11⟩ := mLS_v (to := x.1 1) (h.nu j1)
        have : j = n := nI_inj (by omega) (by omega) (by rw [← v1, ← c3, ← z2.1]; exact h1)
        subst this
        rw [c2]
        obtain ⟨i, i1', i2'⟩ := hvT_sy z2.sy (by rw [hz5]; exact Or.inl rfl) hv
        rw [c3, v8, nI_clamp (by omega)] at i1'
        have := (v10 i i1').2
        rw [← c3, i2'] at this
        exact this
      · rw [hz5] at c; exact absurd c (by decide)
      · rw [hz5] at c; exact absurd c (by decide)
      · rw [hz5] at c; exact absurd c (by decide)
      · rw [hz5] at c; exact absurd c (by decide)
      · rw [hz5] at c; exact absurd c (by decide)
    · have hz5 : z.1 0 = 5 := by rw [← z2.1]; exact h5
      rcases e.kd z1 with c | c | c | c | c <;> rw [hz5] at c <;> exact absurd c (by decide)
  · rcases hst.src hP hl hy with ⟨y0, q1, q2⟩ | ⟨_, q⟩ | ⟨j, z, j1, j2, j3, hr, z1, z2⟩ | ⟨_, _, e, z, z0, z1, z2⟩
    · exact i3 y0 k q1 (by rw [← q2.1]; exact h12) hk (hvT_sy q2.sy (by rw [← q2.1]; exact Or.inr (Or.inr h12)) hv) ((hN k hk).mpr hw)
    · rw [h12] at q; exact absurd q (by decide)
    · have hz5 : z.1 0 = 12 := by rw [← z2.1]; exact h12
      rcases hr.k z1 with ⟨_, c⟩ | ⟨_, c2, c3, _⟩ | ⟨_, c | c⟩ | ⟨_, c | c⟩ | ⟨_, c⟩
      · rw [hz5] at c; exact absurd c (by decide)
      · rw [c3, (mLS_v (to := x.1 1) (h.nu j1)).1] at hz5; exact absurd hz5 (by decide)
      · rw [hz5] at c; exact absurd c (by decide)
      · rw [hz5] at c; exact absurd c (by decide)
      · rw [hz5] at c; exact absurd c (by decide)
      · rw [hz5] at c; exact absurd c (by decide)
      · rw [hz5] at c; exact absurd c (by decide)
    · have hz5 : z.1 0 = 12 := by rw [← z2.1]; exact h12
      have hv' := hvT_sy z2.sy (by rw [hz5]; exact Or.inr (Or.inr rfl)) hv
      rcases e.dr hG hb12 hP.gg hnn hL hm hs z0 hz5 with q | ⟨n, _, _, _, _, _, q6, _, q8⟩
      · exact i3 z k ((tkl_perm hst.1).mem_iff.mp (List.mem_cons_of_mem _ q)) hz5 hk hv' ((hN k hk).mpr hw)
      · exact jS.nn hP.gg hk hL q6 (q8 _ hv').2 ((hN k hk).mpr hw)
  · -- what the leader has asked for
    have hA : aN S' l = aN S l ∨ NOb P l S' := by
      rcases hst.cs hnn hl with ⟨_, e, _⟩ | ⟨j, _, _, _, _, _, _, _, e4, _⟩ | ⟨_, _, _, _, _, e⟩ | ⟨_, _, _, _, _, e, _⟩
      · left; show S'.2.2.2.2.2 l = _; rw [e]
      · exact Or.inl (e4 l)
      · obtain ⟨_, D1, K1, Z1, Z2, Z0, e1, e2, e3, _, _, _, _, _, _, m2, _⟩ := e.m hG hb12 hP.gg hnn hL hm hs
        rcases e3 with ⟨_, _, a3, _⟩ | ⟨c5, _, n, cnt, s2, s3, a2, a3, a4, a5, _, _, _, Z6, a9, a10⟩ | ⟨_, n, k, _, _, _, _, a5⟩ | ⟨_, _, a3, _⟩ | ⟨_, _, a3, _⟩ | ⟨_, _, _, _, _, _, a3, _⟩
        · exact Or.inl a3
        · rcases a10.1 with q | ⟨j, Z', q1, _, q3, q4⟩
          · exact Or.inl q
          · right
            refine mkG n cnt j Z6 Z' a2 c5 a3 a4 a5 (by omega) (fun z hz => ?_) q1 q4
            rw [e1, psl_app]
            refine psl_old Z2 ?_
            rw [e2, a9]; exact hz
        · rcases a5 with ⟨_, _, b3, _⟩ | ⟨_, ⟨_, _, b3, _⟩ | ⟨fx, _, _, _, _, _, b6, _⟩ | ⟨a, _, _, _, _, b5, _⟩⟩
          · exfalso
            rw [hrd_n (by decide)] at b3
            exact lm.no ((show pgT g (dN S l) (kN S l) D1 K1 from Or.inl b3).sm m2)
          · exact Or.inl b3
          · exact Or.inl b6
          · exact Or.inl b5
        · exact Or.inl a3
        · exact Or.inl a3
        · exact Or.inl a3
      · left; show S'.2.2.2.2.2 l = _; rw [e]
    obtain ⟨k, hk, hw, ho⟩ := i4
    have hw' := (hN k hk).mp hw
    rcases ho with ⟨n, y, hn, hy, y0, y1, y2, y5, hsb⟩ | ⟨y, hy, y0, y2, y5⟩ | ⟨hwa, ho⟩
    · rcases hst.old hy with e | ⟨y', a, b⟩
      · subst e
        rcases hst.cs hnn hl with ⟨c, _, _⟩ | ⟨j, j1, j2, j3, _, _, _, _, _, _, hr, _⟩ | ⟨_, c, _⟩ | ⟨_, _, c, _⟩
        · have := nI_inj (by omega) (by omega) (c.symm.trans y2)
          omega
        · have : j = n := nI_inj (by omega) (by omega) (j2.symm.trans y2)
          subst this
          rcases hr with ⟨c, _⟩ | ⟨c, _⟩ | ⟨_, _, z, e, q1, _, _, q4, q5, q6⟩ | ⟨c, _⟩ | ⟨c, _⟩ | ⟨c, _⟩
          · rw [y0] at c; exact absurd c (by decide)
          · rw [y0] at c; exact absurd c (by decide)
          · obtain ⟨w, w1, w2⟩ := first z [] e
            refine ⟨k, hk, hw', Or.inr (Or.inl ⟨w, w1, ?_, by rw [w2.1, q5]; exact y1, by rw [w2.1, q4]; exact y5⟩)⟩
            rw [y5] at q6
            rcases q6 with ⟨_, q⟩ | ⟨q, _⟩
            · rw [w2.1]; exact q
            · exact absurd hsb q
          · rw [y0] at c; exact absurd c (by decide)
          · rw [y0] at c; exact absurd c (by decide)
          · rw [y0] at c; exact absurd c (by decide)
        · exact absurd (Or.inr (Or.inr (Or.inl y0))) c
        · exact absurd (Or.inr (Or.inr (Or.inl y0))) (c n hn y2)
      · exact ⟨k, hk, hw', Or.inl ⟨n, y', hn, a, by rw [b.1]; exact y0, by rw [b.1]; exact y1, by rw [b.1]; exact y2, by rw [b.1]; exact y5, keep n k hn hk hw hsb⟩⟩
    · rcases hst.old hy with e | ⟨y', a, b⟩
      · subst e
        exfalso
        have h7n : ¬ isN (y.1 0) := fun z => by
          rw [y0] at z
          rcases z with z | z | z | z | z | z <;> exact absurd z (by decide)
        rcases hst.cs hnn hl with ⟨c, _, _⟩ | ⟨j, _, _, j3, _⟩ | ⟨_, _, _, _, _, e⟩ | ⟨_, c, _⟩
        · have := nI_inj (by omega) (by omega) (c.symm.trans y2)
          omega
        · exact h7n j3
        · obtain ⟨_, D1, K1, Z1, Z2, Z0, e1, e2, e3, _, _, _, _, _, _, m2, _⟩ := e.m hG hb12 hP.gg hnn hL hm hs
          rcases e3 with ⟨c, _⟩ | ⟨c, _⟩ | ⟨_, n, k', _, _, k1, k2, a5⟩ | ⟨c, _⟩ | ⟨c, _⟩ | ⟨_, _, c, _⟩
          · rw [y0] at c; exact absurd c (by decide)
          · rw [y0] at c; exact absurd c (by decide)
          · have : k' = k := nI_inj (by omega) (by omega) (k2.symm.trans y5)
            subst this
            exact lm.no ((a5.pg (nwT.hr.mpr hw)).hr.sm m2)
          · rw [y0] at c; exact absurd c (by decide)
          · rw [y0] at c; exact absurd c (by decide)
          · exact c y0
        · exact c y2
      · exact ⟨k, hk, hw', Or.inr (Or.inl ⟨y', a, by rw [b.1]; exact y0, by rw [b.1]; exact y2, by rw [b.1]; exact y5⟩)⟩
    · rcases hA with hA | hA
      case inr => exact hA
      have hwa' : nwA (dN S' l) (kN S' l) (aN S' l) k := by rw [hA]; exact nwA.sm hP.gg hk hL lm hwa
      rcases ho with ⟨n, y, hn, hy, y0, y1, y2, hsb⟩ | ⟨n, y, hn, hy, y0, y1, y2, hv⟩
      · rcases hst.old hy with e | ⟨y', a, b⟩
        · subst e
          rcases hst.cs hnn hl with ⟨c, _, _⟩ | ⟨j, j1, j2, j3, _, _, _, _, _, _, hr, _⟩ | ⟨_, c, _⟩ | ⟨_, _, c, _⟩
          · have := nI_inj (by omega) (by omega) (c.symm.trans y2)
            omega
          · have : j = n := nI_inj (by omega) (by omega) (j2.symm.trans y2)
            subst this
            rcases hr with ⟨c, _⟩ | ⟨_, _, e⟩ | ⟨c, _⟩ | ⟨c, _⟩ | ⟨c, _⟩ | ⟨c, _⟩
            · rw [y0] at c; exact absurd c (by decide)
            · obtain ⟨w, w1, w2⟩ := first _ [] e
              obtain ⟨v0, v1, v2, v3, v6, c, v7, v8, v9, v10, v11⟩ := mLS_v (to := y.1 1) (h.nu j1)
              obtain ⟨i, i1', i2'⟩ := v11 (nI k) (nI_pos (by omega)) hsb
              have hw5 : w.1 0 = 5 := by rw [w2.1]; exact v0
              refine ⟨k, hk, hw', Or.inr (Or.inr ⟨hwa', Or.inr ⟨j, w, j1, w1, hw5, by rw [w2.1]; exact v1, by rw [w2.1, v2]; exact y1, ?_⟩⟩)⟩
              exact hvT_sy w2 (Or.inl hw5) ⟨i, by rw [v8, nI_clamp (by omega)]; exact i1', i2'⟩
            · rw [y0] at c; exact absurd c (by decide)
            · rw [y0] at c; exact absurd c (by decide)
            · rw [y0] at c; exact absurd c (by decide)
            · rw [y0] at c; exact absurd c (by decide)
          · exact absurd (Or.inr (Or.inl y0)) c
          · exact absurd (Or.inr (Or.inl y0)) (c n hn y2)
        · exact ⟨k, hk, hw', Or.inr (Or.inr ⟨hwa', Or.inl ⟨n, y', hn, a, by rw [b.1]; exact y0, by rw [b.1]; exact y1, by rw [b.1]; exact y2, keep n k hn hk hw hsb⟩⟩)⟩
      · rcases hst.old hy with e | ⟨y', a, b⟩
        · subst e
          have h5n : ¬ isN (y.1 0) := fun z => by
            rw [y0] at z
            rcases z with z | z | z | z | z | z <;> exact absurd z (by decide)
          rcases hst.cs hnn hl with ⟨c, _, _⟩ | ⟨j, _, _, j3, _⟩ | ⟨_, _, _, _, _, e⟩ | ⟨_, c, _⟩
          · have := nI_inj (by omega) (by omega) (c.symm.trans y2)
            omega
          · exact absurd j3 h5n
          · obtain ⟨_, D1, K1, Z1, Z2, Z0, e1, e2, e3, _, _, _, _, _, _, m2, _⟩ := e.m hG hb12 hP.gg hnn hL hm hs
            rcases e3 with ⟨c, _⟩ | ⟨c5, _, n', cnt, s2, s3, a2, a3, a4, a5, a6, _, a8, _⟩ | ⟨c, _⟩ | ⟨c, _⟩ | ⟨c, _⟩ | ⟨_, c, _⟩
            · rw [y0] at c; exact absurd c (by decide)
            · obtain ⟨_, _, _, _, _, _, _, _, l9⟩ := a8
              obtain ⟨i, i1', i2'⟩ := hv
              rw [a4, nI_clamp (by omega)] at i1'
              obtain ⟨j, Z', q1, _, q3, q4⟩ := l9 ⟨i, Nat.zero_le _, by omega, by
                rw [i2']
                unfold nwI
                rw [hrd_n (by decide), hrd_n (by decide)]
                rcases hwa with q | ⟨a, b1, b2, b3, b4, b5⟩
                · exact Or.inl q
                · refine Or.inr ⟨a6.mpr (fun z => z.2 (hL.unk hP.gg hk b1 b3 b4)), a, b1, b2, b3, b4, b5⟩⟩
              refine mkG n' cnt j Z0 Z' a2 c5 a3 a4 a5 (by omega) (fun z hz => ?_) q1 q4
              rw [e1, psl_app]
              refine psl_old Z2 ?_
              rw [e2]; exact hz
            · rw [y0] at c; exact absurd c (by decide)
            · rw [y0] at c; exact absurd c (by decide)
            · rw [y0] at c; exact absurd c (by decide)
            · exact absurd y0 c
          · exact absurd y2 c
        · refine ⟨k, hk, hw', Or.inr (Or.inr ⟨hwa', Or.inr ⟨n, y', hn, a, by rw [b.1]; exact y0, by rw [b.1]; exact y1, by rw [b.1]; exact y2, ?_⟩⟩)⟩
          exact hvT_sy b (by rw [b.1]; exact Or.inl y0) hv
/-- a round with news -/
theorem news_rd {P : Pm} {g : Gh} {l : Nat} {T S' : SS} (hP : PmO P) (hl : l < P.nn) (h : RG P g l T) (hNL : NLs P l T) (hDR : DRs l T) (hOb : NOb P l T) (hr : drR P.nn P.gg P.C P.f T S') : S'.2.2.1 = [] ∧ ∃ g', Gs g g' ∧ RG P g' l S' ∧ pgT g' (dN T l) (kN T l) (dN S' l) (kN S' l) := by
  obtain ⟨h0, g', a1, a2, a3⟩ := RG.dr (I := NWI P l T) hP hl (fun g g' S S' x Z h hi hst hgs h' => hi.st hP hl h hst hgs h') h (Or.inr ⟨smT.rf _ _, hNL, hDR, hOb⟩) hr
  refine ⟨h0, g', a1, a2, ?_⟩
  rcases a3 with a3 | ⟨_, _, _, k, _, _, a⟩
  · exact a3
  · exfalso
    rw [h0] at a
    rcases a with ⟨_, _, _, a, _⟩ | ⟨_, a, _⟩ | ⟨_, ⟨_, _, _, a, _⟩ | ⟨_, _, _, a, _⟩⟩ <;> cases a

/-! all is safe: what is not wanted goes -/
theorem jS_hr {gg n : Nat} {u : Nat → Int32} {D : Nat → Nat → Int32} {K : Int64} {t : Int32} : jS gg (hrd u D) K n t ↔ jS gg D K n t := by
  unfold jS
  rw [hrd_n (by decide), hrd_n (by decide), hrd_n (by decide), hrd_n (by decide), hrd_n (by decide), hrd_n (by decide)]
theorem KPd_hr {gg n : Nat} {u : Nat → Int32} {D : Nat → Nat → Int32} {t : Int32} : KPd gg (hrd u D) n t ↔ KPd gg D n t := by
  unfold KPd
  rw [hrd_n (by decide), hrd_n (by decide), hrd_n (by decide), hrd_n (by decide)]
theorem mDR_v (me : Int32) (u : Nat → Int32) (D : Nat → Nat → Int32) (d : Nat) (bf : Nat → Int32) : (mDR me u D d bf).1 0 = 12 ∧ (mDR me u D d bf).1 2 = u 1 ∧ (mDR me u D d bf).1 7 = nI d := by
  unfold mDR
  refine ⟨?_, ?_, ?_⟩
  · show va_up (mg 12 me (u 1) (D 7 7) (D 7 8)) 7 (nI d) 0 = 12
    rw [va_up_n _ _ (by decide)]; rfl
  · show va_up (mg 12 me (u 1) (D 7 7) (D 7 8)) 7 (nI d) 2 = u 1
    rw [va_up_n _ _ (by decide)]; rfl
  · show va_up (mg 12 me (u 1) (D 7 7) (D 7 8)) 7 (nI d) 7 = nI d
    rw [va_up_s]
/-- the leader of step 0 hears -/
theorem LDr.d0 {P : Pm} {g : Gh} {l : Nat} {u b : Nat → Int32} {D D' : Nat → Nat → Int32} {K A K' A' : Int64} {Y Z : List Mg} (hG : GO g) (hb12 : g.bg ≤ g.sn + 12) (hgg : 0 < P.gg) (hnn : P.nn ≤ 6) (hL : LO P g g.ep D K) (hm : MO P g g.ep (u, b)) (hs : MS P g (u, b)) (hkn : ¬ knA K (D 10 9) = 0) (h5 : u 0 = 5 → ∀ k, k < 5243392 → hvT (u, b) (nI k) → ¬ nwO (D 16 960) (nI k)) (hs0 : D 18 3 = 0) (hn2 : ¬ u 0 = 2) (hn7 : ¬ u 0 = 7) (h : LDr P g l u b D K A D' K' A' Y Z) :
    K' = K ∧ (∃ Z0, HX P g (nI l) u b D K A D' K A' Z0) ∧ ∃ Z6, psl Y Z = psl Y Z6 ∧
      (Z6 = [] ∨ (u 0 = 5 ∧ ∃ n d bf, n < P.nn ∧ u 1 = nI n ∧ 0 < d ∧ Z6 = [mDR (nI l) u (hrd u D) d bf] ∧ ∀ m, m < d → ∃ t, bf m = t ∧ hvT (u, b) t ∧ jS P.gg D K n t)) ∧
      (u 0 = 5 → ¬ sfB (D 8) (D 11) (D 16) (D 17) P.gg 960 = 0 → ∀ n t, n < P.nn → u 1 = nI n → hvT (u, b) t → jS P.gg D K n t → ∃ z, Z6 = [z] ∧ z.1 0 = 12 ∧ z.1 2 = u 1 ∧ hvT z t) ∧
      (u 0 = 5 → u 6 = 0 → (∀ n t, n < P.nn → u 1 = nI n → hvT (u, b) t → KPd P.gg D n t) → D' 7 10 = scB (hrd u D 7 10) (u 1) 1) := by
  obtain ⟨_, D1, K1, Z1, Z2, Z0, e1, e2, e3, e4, e5, e6, e7, _, _, e9, _, e11⟩ := h.m hG hb12 hgg hnn hL hm hs
  obtain ⟨a1, a2, a3, _, a6⟩ := e3.g hgg hL hkn hs (fun z => absurd z hn7) h5
  subst a1
  have hs1 : D1 18 3 = 0 := by rw [a6 hn2 hn7 18 (by decide)]; exact hs0
  obtain ⟨D4, f1, _, _, _, _, f6⟩ := goon_gd (P := P) (me := nI l) (u := u) (b := b) (K := K1) (A := A') (GD.st hs1 (by decide) (by decide) (by decide) (by decide)) e4.no5
  have hD4 := f6 (by rw [hs1]; decide)
  subst hD4
  rw [f1] at e5
  rw [Prod.mk.injEq, Prod.mk.injEq, Prod.mk.injEq] at e5
  obtain ⟨g1, g2, _, g4⟩ := e5
  subst g1
  have hY : psl Y Z = psl Y Z0 := by rw [e1, psl_app, ← g4]; exact e2 Y
  refine ⟨g2.symm, ⟨Z0, e3⟩, ?_⟩
  rcases e3 with ⟨c, _⟩ | ⟨c, _, n, cnt, s2, s3, n1, n2, n3, n4, s2e, s3e, a8, Z6, a9, a10⟩ | ⟨c, _⟩ | ⟨c, _, _, a3, _⟩ | ⟨c, _, _, a3, _⟩ | ⟨_, c5, _, _, _, _, _, a3, _⟩
  · exact absurd c hn2
  · have hs2 : ¬ s2 = 0 := fun z => s2e.mp z ⟨by rw [hs0]; decide, hkn⟩
    have hcl : (u 7).toNatClampNeg = cnt := by rw [n3, nI_clamp (by omega)]
    obtain ⟨_, ⟨Zg, Zd, d', bf, g1, g2, g3, g4', g5, g6, g7, g8⟩, g9⟩ := a10
    have hZg : Zg = [] := by
      cases Zg with
      | nil => rfl
      | cons z Zg' =>
        exfalso
        obtain ⟨j, _, j2, _, j4⟩ := g2 z List.mem_cons_self
        obtain ⟨cnt', k1, k2, k3, k4⟩ := hs.1 c
        have k2 : u 7 = nI cnt' := k2
        have : cnt' = cnt := nI_inj (by omega) (by omega) (k2.symm.trans n3)
        subst this
        obtain ⟨k, b1, b2, _⟩ := k4 j (by omega)
        have b2 : b j = nI k := b2
        rw [b2, nwT.hr] at j4
        refine h5 c k b1 ⟨j, ?_, b2⟩ (nwT_kn hgg b1 hL hkn j4)
        show j < (u 7).toNatClampNeg
        rw [n3, nI_clamp (by omega)]; omega
    have hZ6 : Z6 = Zd := by rw [g1, hZg]; rfl
    refine ⟨Z6, by rw [hY]; exact a9 Y, ?_, fun _ hsf n' t hn' hu' ⟨j, j1, j2⟩ hj => ?_, fun _ hu6 hk => ?_⟩
    · rcases g5 with ⟨_, y⟩ | ⟨y1, y2⟩
      · exact Or.inl (by rw [hZ6, y])
      · refine Or.inr ⟨c, n, d', bf, n1, n2, y1, by rw [hZ6, y2], fun m hm' => ?_⟩
        obtain ⟨_, j, _, j2, j3, j4⟩ := g7 m (Nat.zero_le _) hm'
        exact ⟨b j, j3, ⟨j, by show j < (u 7).toNatClampNeg; rw [hcl]; omega, rfl⟩, jS_hr.mp j4⟩
    · have hne : n' = n := nI_inj (by omega) (by omega) (hu'.symm.trans n2)
      subst hne
      have hs3 : ¬ s3 = 0 := fun z => by
        rcases s3e.mp z with q | q
        · exact hs2 q
        · exact hsf q
      have j1 : j < (u 7).toNatClampNeg := j1
      have j2 : b j = t := j2
      rw [hcl] at j1
      obtain ⟨m, _, m2, m3⟩ := g8 hs3 j (Nat.zero_le _) (by omega) (jS_hr.mpr (by rw [j2]; exact hj))
      rcases g5 with ⟨y, _⟩ | ⟨y1, y2⟩
      · omega
      · obtain ⟨v0, v2, v7⟩ := mDR_v (nI l) u (hrd u D) d' bf
        refine ⟨_, by rw [hZ6, y2], v0, v2, m, ?_, by rw [← j2, ← m3]; rfl⟩
        rw [v7, nI_clamp (by omega)]; exact m2
    · refine g9 (fun j _ hj => ?_) hu6 hs2 (by rw [n3, Nat.zero_add])
      exact KPd_hr.mpr (hk n (b j) n1 n2 ⟨j, by show j < (u 7).toNatClampNeg; rw [hcl]; omega, rfl⟩)
  · exact absurd c hn7
  · exact ⟨[], by rw [hY, a3], Or.inl rfl, fun z => (by rw [c] at z; exact absurd z (by decide)), fun z => (by rw [c] at z; exact absurd z (by decide))⟩
  · exact ⟨[], by rw [hY, a3], Or.inl rfl, fun z => (by rw [c] at z; exact absurd z (by decide)), fun z => (by rw [c] at z; exact absurd z (by decide))⟩
  · exact ⟨[], by rw [hY, a3], Or.inl rfl, fun z => absurd z c5, fun z => absurd z c5⟩

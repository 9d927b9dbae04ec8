/-! a TICK of settle, on an empty net -/
theorem tm_z {nn : Nat} {mh ep st : Int32} : ∀ (k i : Nat) {ms ms' : List Mg}, i + k ≤ 32 → tmR nn mh ep st k i ms ms' → ∃ Z, ms' = psl ms Z ∧ Z.length ≤ k ∧ (∀ z ∈ Z, z.1 0 = 0 ∧ z.1 3 = ep) ∧ ∀ j, i ≤ j → j < i + k → bt mh j = false → ∃ z, z ∈ Z ∧ z.1 0 = 0 ∧ z.1 2 = nI j ∧ z.1 3 = ep
  | 0, i, ms, ms', _, hr => by
    have hr : ms' = ms := hr
    exact ⟨[], hr, Nat.le_refl _, fun z hz => (by cases hz), fun j h1 h2 => by omega⟩
  | k + 1, i, ms, ms', hi, hr => by
    rcases hr with ⟨c, bm, q⟩ | ⟨c, q⟩
    · obtain ⟨Z, z1, z2, z3, z4⟩ := tm_z k (i + 1) (by omega) q
      refine ⟨(mg 0 (nI nn) (nI i) ep st, bm) :: Z, z1, by show Z.length + 1 ≤ k + 1; omega, fun z hz => ?_, fun j h1 h2 h3 => ?_⟩
      · rcases List.mem_cons.mp hz with e | e
        · rw [e]; exact ⟨rfl, rfl⟩
        · exact z3 z e
      · rcases Nat.lt_or_ge i j with y | y
        · obtain ⟨z, a1, a2⟩ := z4 j (by omega) (by omega) h3
          exact ⟨z, List.mem_cons_of_mem _ a1, a2⟩
        · have : j = i := by omega
          rw [this]
          exact ⟨_, List.mem_cons_self, rfl, rfl, rfl⟩
    · obtain ⟨Z, z1, z2, z3, z4⟩ := tm_z k (i + 1) (by omega) q
      refine ⟨Z, z1, by omega, z3, fun j h1 h2 h3 => ?_⟩
      rcases Nat.lt_or_ge i j with y | y
      · exact z4 j (by omega) (by omega) h3
      · have : j = i := by omega
        rw [this] at h3
        exact absurd ((bitz mh (by omega)).mpr h3) c
theorem ask_z {nn : Nat} {f : Nat → Int32} {E : Nat → Nat → Int32} {Q : Nat → Mg} {ms ms' : List Mg} (hr : askR nn f E Q ms ms') : ∃ Z, ms' = psl ms Z ∧ Z.length ≤ 1 ∧ (∀ z ∈ Z, z.1 0 = 2 ∧ z.1 3 = E 4 13) ∧ (¬ E 4 9 = E 4 8 → ¬ nof f 0 (E 4 14) nn 0 0 < 0 → ∃ z bm, Z = [z] ∧ z = askM nn (nof f 0 (E 4 14) nn 0 0) (E 4 9) (E 4 12) (E 4 13) (E 4 14) (Q ((E 4 9).toNatClampNeg % 24)) bm) := by
  rcases hr with ⟨c, q⟩ | ⟨_, _, bm, q⟩
  · refine ⟨[], q, Nat.zero_le _, fun z hz => (by cases hz), fun h1 h2 => ?_⟩
    rcases c with c | c
    · exact absurd c h1
    · exact absurd c h2
  · exact ⟨[_], q, Nat.le_refl _, fun z hz => by rw [List.mem_singleton.mp hz]; exact ⟨askM_0 _ _ _ _ _ _ _ _, askM_3 _ _ _ _ _ _ _ _⟩, fun _ _ => ⟨_, bm, rfl, rfl⟩⟩
theorem tk_C {P : Pm} {g : Gh} {l : Nat} {S S' : SS} (hP : PmO P) (hl : l < P.nn) (h : SU P g S) (hld : lds P g l g.ep) (hms : S.2.2.1 = []) (h2 : CL2 P g l S) (h3 : CL3 P g l S) (hr : tkR P.nn P.gg P.C P.f S S') :
    ∃ g', Gs g g' ∧ SU P g' S' ∧ S'.2.2.1.length ≤ 128 ∧ S'.1 = S.1 ∧ S'.2.1 = S.2.1 ∧ CL1 P g' S' ∧ CL2 P g' l S' ∧ ∀ j, j < P.nn → obE g' j S' := by
  obtain ⟨u, b, ms1, ms2, r1, r2, r3⟩ := hr
  have hnn := hP.nn
  obtain ⟨he, ha⟩ := h.1.as
  obtain ⟨Z1, a1, a2, a3, a4⟩ := tm_z P.nn 0 (by omega) r1
  obtain ⟨Z2, b1, b2, b3, _⟩ := ask_z r2
  have r1' := r1
  rw [ha.ep.1, ha.ep.2] at r1'
  have mo1 := tm_ok (Nat.le_refl _) rfl P.nn 0 _ _ h.1.ms r1'
  have mo2 := ask_ok h.1.go ha mo1 r2
  rw [hms] at a1
  have e2 : ms2 = Z1 ++ Z2 := by
    rw [b1, a1, ← psl_app, psl_fit (Z1 ++ Z2) (by rw [List.length_append]; show 0 + _ ≤ 128; omega)]
    rfl
  have hlen2 : ms2.length ≤ 7 := by rw [e2, List.length_append]; omega
  have hk : ∀ z ∈ ms2, z.1 0 = 0 ∨ z.1 0 = 2 := fun z hz => by
    rw [e2] at hz
    rcases List.mem_append.mp hz with q | q
    · exact Or.inl (a3 z q).1
    · exact Or.inr (b3 z q).1
  have hSU : SU P g (S.1, S.2.1, ms2, S.2.2.2) := ⟨⟨h.1.go, h.1.ep, h.1.as, mo2, h.1.nd⟩, h.2.1, fun x hx => by
    have := hk x hx
    exact MS.no (by rcases this with y | y <;> rw [y] <;> decide) (by rcases this with y | y <;> rw [y] <;> decide) (by rcases this with y | y <;> rw [y] <;> decide) (by rcases this with y | y <;> rw [y] <;> decide)⟩
  obtain ⟨g', g1, g2, g3, g4, c1, c2, c3, c4, c5, c6, c7⟩ := nw_C hP hl P.nn 0 (by omega) hSU hld (show ms2.length ≤ 128 by omega) r3
  have hE : ∀ n, n < P.nn → eN S' n = eN S n := fun n hn => c1 n hn
  have hno5 : ∀ y, y ∈ S'.2.2.1 → ¬ y.1 0 = 5 := fun y hy h5 => by
    obtain ⟨y', q1, q2⟩ := c4 y hy h5
    have := hk y' q1
    rw [← q2.1] at this
    rcases this with q | q <;> rw [q] at h5 <;> exact absurd h5 (by decide)
  refine ⟨g', g1, g2, c5, g3, g4, CL1.gs g1 (fun i x n hx hn hs => absurd hs.1 (hno5 x (List.mem_of_getElem? hx))), CL2.gs g1 (fun hel hst n hn hc => ?_), fun j hj => obE.gs g1 ?_⟩
  · rw [hE l hl] at hel
    obtain ⟨d1, d2, d3⟩ := c7 (Nat.zero_le _) (by omega) hel hst n (by omega) hc
    have d1 : S.2.2.2.1 l 18 3 ≤ 2 := d1
    have d2 : bt (S.2.2.2.1 l 7 10) n = true := d2
    have d3 : ∀ k', KPb P.gg (S.2.2.2.1 l) n (nI k') → KPb P.gg (S'.2.2.2.1 l) n (nI k') := d3
    obtain ⟨p1, p2, p3⟩ := h2 hel d1 n hn d2
    have hlow : ∀ j, j < n → eN S j = g.ep := fun j hj => by
      rcases h3 n hn (Or.inr (Or.inr ⟨hel, d1, d2⟩)) j hj with q | ⟨x, q, _⟩
      · exact q
      · rw [hms] at q; cases q
    obtain ⟨f1, f2⟩ := c6 n (Nat.zero_le _) (by omega)
    refine ⟨by rw [hE n hn]; exact p1, fun k hk hs => ?_, fun k hk hp => absurd hp (f1 _ (nI_pos (by omega)))⟩
    rcases f2 k hk hs with y | ⟨y1, y2⟩
    · rcases p2 k hk y with q | ⟨_, x, q, _⟩
      · exact Or.inl (d3 k q)
      · rw [hms] at q; cases q
    · refine Or.inr ⟨p3 k hk y1, y2 p1 (fun j _ hj => hlow j hj) ?_⟩
      have : (if 0 ≤ l ∧ l < n then 97 else 0) ≤ 97 := by split <;> omega
      show ms2.length + (n - 0) + _ < 128
      omega
  · -- MAP, or it was heard of
    cases hb : bt (S.1 4 15) j with
    | true =>
      left
      rw [hE j hj]
      have := (ha.mh j (by omega) hb).2
      have hN := h.nu hj
      have q := (hN.rk g.ep 5243392 this).2.1
      have := hN.ep.2.1
      omega
    | false =>
      right
      obtain ⟨z, q1, q2, q3, q4⟩ := a4 j (Nat.zero_le _) (by omega) hb
      obtain ⟨y, y1, y2⟩ := c3 z (by show z ∈ ms2; rw [e2]; exact List.mem_append.mpr (Or.inl q1))
      exact ⟨y, y1, by rw [y2.1]; exact q3, by rw [y2.1, q4]; exact ha.ep.1⟩

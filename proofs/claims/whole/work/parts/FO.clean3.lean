/-! one hand-over: HFx -/
theorem KP_of {P : Pm} {g : Gh} {e k n : Nat} {D : Nat → Nat → Int32} {K : Int64} (hgg : 0 < P.gg) (h : LO P g e D K) (hk : k < 5243392) (hf : ∃ a, a < 961 ∧ fndI (D 15) (D 16) (nI k) = nI a ∧ bt (D 17 a) n = true) (hb : bt (msk P g e k) n = true) : KPb P.gg D n (nI k) := by
  obtain ⟨a0, q1, q2, q3⟩ := hf
  rcases h.find hgg hk with ⟨z, _⟩ | ⟨a, a1, a2, _, _, _, a6⟩
  · rw [z] at q2; exact absurd q2.symm (nIneg (by omega))
  · have : a = a0 := nI_inj (by omega) (by omega) (a2.symm.trans q2)
    exact ⟨a, a1, a2, by rw [a6]; exact hb, by rw [this]; exact q3⟩
theorem msk_gs {P : Pm} {g g' : Gh} (h : Gs g g') (e k : Nat) : msk P g' e k = msk P g e k := by unfold msk; rw [h.mp]
/-- nothing is done to NODES -/
theorem HFx.rf {P : Pm} {g : Gh} {l : Nat} {x0 : Mg} {S S' : SS} (hD : S'.2.2.2 = S.2.2.2) (hms : ∃ Z, S'.2.2.1 = psl S.2.2.1 Z ∧ ∀ z ∈ Z, ¬ z.1 0 = 5 ∧ ¬ z.1 0 = 4) (h1 : ∀ n, n < P.nn → ¬ x0.1 2 = nI n) (hl : l < P.nn) : HFx P g l x0 S.2.2.1 S S' := by
  have e1 : ∀ n, eN S' n = eN S n := fun n => by unfold eN; rw [hD]
  have e2 : S'.2.2.2.1 = S.2.2.2.1 := by rw [hD]
  obtain ⟨Z, z1, z2⟩ := hms
  obtain ⟨W, w1, w2⟩ := psl_pre Z S.2.2.1
  refine ⟨fun n _ h => by rw [e1]; exact h, fun n _ _ k _ hs => Or.inl (by rw [← e2]; exact hs), fun n _ _ k _ hs => Or.inl (by rw [← e2]; exact hs), fun he hs n hn hc => Or.inl ⟨by rw [← e1]; exact he, by rw [← e2]; exact hs, by rw [← e2]; exact hc, fun k _ hp => by rw [e2]; exact hp, fun k _ hw => absurd hw.2.2.1 (h1 l hl)⟩, fun i y n hy hn hs => Or.inl ⟨y, ?_, smM.rf⟩, fun y n hy hn hs => Or.inl ⟨y, ?_, smM.rf⟩, fun y' hy' => ⟨y', by rw [z1]; exact psl_old Z hy', smM.rf⟩, fun n hn hs _ => absurd hs (h1 n hn)⟩
  · rw [z1, w1] at hy
    rcases Nat.lt_or_ge i S.2.2.1.length with q | q
    · rw [List.getElem?_append_left q] at hy; exact hy
    · rw [List.getElem?_append_right q] at hy
      exact absurd hs.1 (z2 y (w2 y (List.mem_of_getElem? hy))).1
  · rw [z1] at hy
    rcases psl_in Z hy with q | q
    · exact q
    · exact absurd hs.1 (z2 y q).2
theorem hand_xn {P : Pm} {g g' : Gh} {l j e2 : Nat} {x0 : Mg} {S S' : SS} (hP : PmO P) (h : GI P g S) (hup : ¬ S.2.2.2.1 j 0 6 = 0) (hm : MO P g e2 x0) (hs : MS P g x0) (hlen : S.2.2.1.length < 128) (hl : l < P.nn) (hld : lds P g l g.ep) (hj : j < P.nn) (hto : x0.1 2 = nI j) (hgs : Gs g g') (hLO : eN S' l = g.ep → ∃ K', LO P g' g.ep (S'.2.2.2.1 l) K') (hr : nodR (F_55 P.nn P.gg P.C (nI j) P.f x0.1 x0.2 (S.2.2.2.1 j) (S.2.2.2.2.1 j) (S.2.2.2.2.2 j) S.2.2.1) j S S') : HFx P g l x0 S.2.2.1 S S' := by
  have hep := h.ep.1
  have hnn := hP.nn
  rcases h.nd j hj with ⟨y, _⟩ | ⟨_, e, hN⟩
  · exact absurd y hup
  obtain ⟨D', K', A', Z, r1, r2, r3⟩ := hear_y (A := S.2.2.2.2.2 j) (Y := S.2.2.1) h.go (SU.b12 h) (by omega) hP.gg hP.nn hP.f hj hN hm hs
  obtain ⟨e', _, w1, w2, w3, _⟩ := r3.v (ip := fun _ => True) hN hm.ep.2.1 trivial
  obtain ⟨ms', m1, m2⟩ := hr
  rw [r1] at m1 m2
  have hee : e ≤ g.ep := hN.ep.2.1
  have he2 : e2 ≤ g.ep := hm.ep.2.1
  have hej : eN S j = e := by unfold eN; rw [hN.ep.1, nI_clamp (by omega)]
  have hDj : S'.2.2.2.1 j = D' := by rw [m2]; exact va_up_s _ _ _
  have hDi : ∀ i, i ≠ j → S'.2.2.2.1 i = S.2.2.2.1 i := fun i hi => by rw [m2]; exact va_up_n _ _ hi
  have hej' : eN S' j = e' := by unfold eN; rw [hDj, w1, nI_clamp (by omega)]
  have hei : ∀ i, i ≠ j → eN S' i = eN S i := fun i hi => by unfold eN; rw [hDi i hi]
  have hms : S'.2.2.1 = ms' := by rw [m2]
  have hx3 : x0.1 3 = nI e2 := hm.ep.1
  have hmask : ∀ k, k < 5243392 → x0.1 0 = 10 → nI k = x0.1 5 → e2 = g.ep → bt (msk P g g.ep k) j = true := fun k hk z0 z5 ze => by
    obtain ⟨e9, n9, k9, a1, a2, a3, a4, a5, a6, a7⟩ := hs.2.1 z0
    have q1 : e9 = e2 := nI_inj (by omega) (by omega) (a1.symm.trans hx3)
    have q2 : n9 = j := nI_inj (by omega) (by omega) (a3.symm.trans hto)
    have q3 : k9 = k := nI_inj (by omega) (by omega) (a5.symm.trans z5.symm)
    rw [q1, q2, q3, ze] at a7
    exact a7
  have hlam : ∀ i, i < P.nn → lds P g i g.ep → i = l := fun i hi hz => by rw [← lds_lam (show i < 2 ^ 31 by omega) hz, lds_lam (show l < 2 ^ 31 by omega) hld]
  have hHV : ∀ {D1 : Nat → Nat → Int32} {z : Mg} {t : Int32}, D1 0 7 = nI g.ep → D1 0 8 = g.mp g.ep → isHV P.nn (nI j) P.f D1 z → hvT z t → isHW g.ep l j t z := fun {D1 z t} a1 a2 hv ht => by
    obtain ⟨v0, v1, v2, v3, _⟩ := hv.v
    refine ⟨v0, v1, ?_, by rw [v3]; exact a1, ht⟩
    rw [v2, a2]
    unfold lds ldB at hld
    by_cases c : nof P.f 0 (g.mp g.ep) P.nn 0 0 = nI l
    · exact c
    · rw [if_neg c] at hld; exact absurd rfl hld
  have hmem : ∀ y', y' ∈ psl S.2.2.1 Z → ∃ y, y ∈ S'.2.2.1 ∧ smM y y' := fun y' hy' => by rw [hms]; exact smL_mem2 m1 hy'
  -- the NODE was at ep before
  have hsame : e = g.ep → (D' = S.2.2.2.1 j ∧ Z = [] ∧ e2 < g.ep) ∨ (e2 = g.ep ∧ NKz P g j g.ep x0.1 x0.2 (S.2.2.2.1 j) (S.2.2.2.2.1 j) (S.2.2.2.2.2 j) D' K' A' Z) := fun he => by
    rcases r3 with ⟨q0, q1, _, _, q4⟩ | ⟨q0, q1⟩ | ⟨q0, _⟩
    · exact Or.inl ⟨q1, q4, by omega⟩
    · exact Or.inr ⟨by omega, by rw [← he]; exact q1⟩
    · omega
  refine ⟨fun n hn he => ?_, fun n hn he k hk hst => ?_, fun n hn he k hk hp => ?_, fun he hst n hn hc => ?_, fun i y n hy hn hy5 => ?_, fun y n hy hn hy4 => ?_, fun y' hy' => hmem y' (psl_old Z hy'), fun n hn hi2 hi3 => ?_⟩
  · by_cases c : n = j
    · subst c
      rw [hej']; rw [hej] at he; omega
    · rw [hei n c]; exact he
  · by_cases c : n = j
    · subst c
      rw [hej] at he
      rw [hDj] at hst
      rcases hsame he with ⟨q, _⟩ | ⟨q0, q⟩
      · rw [q] at hst; exact Or.inl hst
      · rw [← he] at q
        obtain ⟨_, d1, _⟩ := q.dk hN
        rcases d1 (nI k) (nI_pos (by omega)) hst with y | ⟨y1, z, Z', y2, y3, y4⟩
        · exact Or.inl y
        · obtain ⟨y, b1, b2⟩ := hmem z (by rw [y2]; exact psl_new hlen)
          exact Or.inr ⟨y1, y, b1, (hHV (by rw [hN.ep.1, he]) (by rw [hN.ep.2.2.1, he]) y3 y4).sm b2⟩
    · rw [hDi n c] at hst; exact Or.inl hst
  · by_cases c : n = j
    · subst c
      rw [hej] at he
      rw [hDj] at hp
      rcases hsame he with ⟨q, _⟩ | ⟨q0, q⟩
      · rw [q] at hp; exact Or.inl hp
      · rw [← he] at q
        obtain ⟨_, _, d2, _⟩ := q.dk hN
        rcases d2 (nI k) (nI_pos (by omega)) hp with y | ⟨y1, y2⟩
        · exact Or.inl y
        · exact Or.inr (hmask k hk y1 y2 q0)
    · rw [hDi n c] at hp; exact Or.inl hp
  · by_cases c : l = j
    · subst c
      rw [hej'] at he
      obtain ⟨KL, hLO⟩ := hLO (by rw [hej']; exact he)
      rw [hDj] at hst hc hLO
      rw [hDj]
      -- by CLh from a state D1 on
      have hCL : ∀ (D1 : Nat → Nat → Int32) (K1 A1 : Int64) (Z2 : List Mg), e2 = g.ep → D1 0 8 = g.mp g.ep → NKz P g l g.ep x0.1 x0.2 D1 K1 A1 D' K' A' Z2 → (D1 18 3 ≤ 2 ∧ bt (D1 7 10) n = true ∧ (∀ k, k < 5243392 → KPb P.gg D1 n (nI k) → KPb P.gg D' n (nI k)) ∧ ∀ k, k < 5243392 → isHW g.ep l n (nI k) x0 → bt (msk P g g.ep k) n = true → KPb P.gg D' n (nI k)) ∨ (isLS g.ep n x0 ∧ x0.1 6 = 0 ∧ ∀ k, k < 5243392 → hvT x0 (nI k) → KPb P.gg D' n (nI k)) := fun D1 K1 A1 Z2 ze h8 q => by
        rcases q with ⟨q0, _, _, q3, _⟩ | ⟨_, _, _, _, q3, _⟩ | ⟨_, q0, q1, _⟩
        · refine Or.inl ⟨by rw [← q3 18 (by omega)]; exact hst, by rw [← q3 7 (by omega)]; exact hc, fun k _ hp => hp.c (q3 8 (by omega)) (q3 11 (by omega)) (q3 15 (by omega)) (q3 16 (by omega)) (q3 17 (by omega)), fun k _ hw => ?_⟩
          exfalso
          have := hw.1
          rcases q0 with y | y | y | y | y | y <;> rw [y] at this <;> exact absurd this (by decide)
        · rcases q3 n (by omega) hst hc with ⟨a1, a2, a3, a4⟩ | ⟨a1, a2, a3, a4⟩
          · refine Or.inl ⟨a1, a2, a3, fun k hk hw hb => ?_⟩
            obtain ⟨i, i1, i2⟩ := hw.2.2.2.2
            have := a4 hw.1 hw.2.1 i i1
            rw [i2] at this
            exact KP_of hP.gg hLO hk this (by rw [msk_gs hgs]; exact hb)
          · refine Or.inr ⟨⟨a1, a2, by rw [hx3, ze]⟩, a3, fun k hk ⟨i, i1, i2⟩ => ?_⟩
            have := a4 i i1
            rw [i2] at this
            exact this
        · exfalso
          rw [h8] at q0
          exact hld q0
      rcases r3 with ⟨q0, q1, _, _, _⟩ | ⟨q0, q1⟩ | ⟨q0, D1, K1, A1, Z1, Z2, q1, q2, q3, q4⟩
      · have he' : e' = e := by
          have : nI e' = nI e := by rw [← w1, q1]; exact hN.ep.1
          exact nI_inj (by omega) (by omega) this
        refine Or.inl ⟨by rw [hej]; omega, by rw [← q1]; exact hst, by rw [← q1]; exact hc, fun k _ hp => by rw [q1]; exact hp, fun k _ hw => ?_⟩
        exfalso
        have := nI_inj (by omega) (by omega) (hw.2.2.2.1.symm.trans hx3)
        omega
      · have h07 := (q1.dk hN).1
        have he' : e' = e := by
          have : nI e' = nI e := by rw [← w1, h07]; exact hN.ep.1
          exact nI_inj (by omega) (by omega) this
        have ze : e2 = g.ep := by omega
        have ee : e = g.ep := by omega
        rw [ee] at q1
        rcases hCL _ _ _ _ ze (by rw [hN.ep.2.2.1, ee]) q1 with ⟨a1, a2, a3, a4⟩ | a
        · exact Or.inl ⟨by rw [hej]; exact ee, a1, a2, a3, a4⟩
        · exact Or.inr a
      · have h07 := (q4.dk q3).1
        have he' : e' = e2 := by
          have : nI e' = nI e2 := by rw [← w1, h07]; exact q3.ep.1
          exact nI_inj (by omega) (by omega) this
        have ze : e2 = g.ep := by omega
        have h8 : D1 0 8 = g.mp g.ep := by rw [q3.ep.2.2.1, ze]
        rw [ze] at q2 q4
        rcases hCL _ _ _ _ ze h8 q4 with ⟨_, a2, _⟩ | a
        · exfalso
          rcases q2.2.2 with ⟨b, _⟩ | ⟨_, _, _, b, _⟩
          · exact hld b
          · rw [b, b_0] at a2; cases a2
        · exact Or.inr a
    · rw [hei l c] at he
      rw [hDi l c] at hst hc ⊢
      refine Or.inl ⟨he, hst, hc, fun k _ hp => hp, fun k _ hw => ?_⟩
      exact absurd (nI_inj (by omega) (by omega) (hw.2.2.1.symm.trans hto)) c
  · rw [hms] at hy
    obtain ⟨y', b1, b2⟩ := smL_get m1 hy
    have hy5' := hy5.sm2 b2
    rcases Nat.lt_or_ge i S.2.2.1.length with q | q
    · obtain ⟨W, u1, _⟩ := psl_pre Z S.2.2.1
      have b1 : (psl S.2.2.1 Z)[i]? = some y' := b1
      rw [u1, List.getElem?_append_left q] at b1
      exact Or.inl ⟨y', b1, b2⟩
    · right
      have b1 : (psl S.2.2.1 Z)[i]? = some y' := b1
      have hyZ : y' ∈ Z := List.mem_of_getElem? (psl_pos (by omega) q b1).1
      have hlens : S'.2.2.1.length = (psl S.2.2.1 Z).length := by rw [hms]; exact smL.len m1
      -- from a state D1 on
      have key : ∀ (D1 : Nat → Nat → Int32) (K1 A1 : Int64) (Z1 Z2 : List Mg), Z = Z1 ++ Z2 → (∀ z ∈ Z1, ¬ z.1 0 = 5) → NU P g j e2 D1 K1 → NKz P g j e2 x0.1 x0.2 D1 K1 A1 D' K' A' Z2 → isLI g.ep n x0 ∧ eN S' n = g.ep ∧ i + 1 = S'.2.2.1.length ∧ y.1 6 = S'.2.2.2.1 n 1 4 ∧ ∀ k, k < 5243392 → stb (S'.2.2.2.1 n) (nI k) → hvT y (nI k) := fun D1 K1 A1 Z1 Z2 c1 c2 c3 c4 => by
        obtain ⟨_, _, _, d3, _⟩ := c4.dk c3
        have hy2 : y' ∈ Z2 := by
          rw [c1] at hyZ
          rcases List.mem_append.mp hyZ with z | z
          · exact absurd hy5'.1 (c2 y' z)
          · exact z
        obtain ⟨f0, f1, f2, f3⟩ := d3 y' hy2 hy5'.1
        rw [c1, f2] at b1 hlens
        obtain ⟨g1, g2⟩ := psl_last c2 hy5'.1 b1 q
        obtain ⟨v0, v1, v2, v3, v6, cn, v7, v8, v9, v10, v11⟩ := mLS_v (to := x0.1 1) c3
        have hnj : n = j := by
          have := hy5'.2.1
          rw [f3, v1] at this
          exact (nI_inj (by omega) (by omega) this).symm
        have hee2 : e2 = g.ep := by
          have := hy5'.2.2
          rw [f3, v3] at this
          exact nI_inj (by omega) (by omega) this
        subst hnj
        have hD1 : S'.2.2.2.1 n = D1 := by rw [hDj]; exact f1
        have he'2 : eN S' n = g.ep := by unfold eN; rw [hD1, c3.ep.1, nI_clamp (by omega)]; exact hee2
        refine ⟨⟨f0, hto, by rw [hx3, hee2]⟩, he'2, by rw [hlens]; exact g2, by rw [b2.1, f3, v6, hD1], fun k hk hst => ?_⟩
        rw [hD1] at hst
        obtain ⟨i', i1, i2⟩ := v11 (nI k) (nI_pos (by omega)) hst
        refine hvT_sm b2 (Or.inl hy5.1) ⟨i', ?_, by rw [f3]; exact i2⟩
        rw [f3, v8, nI_clamp (by omega)]; exact i1
      rcases r3 with ⟨_, _, _, _, q4⟩ | ⟨q0, q1⟩ | ⟨q0, D1, K1, A1, Z1, Z2, q1, q2, q3, q4⟩
      · rw [q4] at hyZ; cases hyZ
      · subst q0
        exact key _ _ _ [] Z rfl (fun z hz => by cases hz) hN q1
      · refine key D1 K1 A1 Z1 Z2 q1 (fun z hz => ?_) q3 q4
        rcases q2.2.2 with ⟨_, b⟩ | ⟨_, _, _, _, _, b, _⟩
        · rw [b] at hz; cases hz
        · obtain ⟨j', _, b2', _⟩ := b z hz
          rw [b2']; exact (show ¬ (4 : Int32) = 5 by decide)
  · rw [hms] at hy
    obtain ⟨y', b1, b2⟩ := smL_mem m1 hy
    have hy4' := hy4.sm2 b2
    obtain ⟨i, hi⟩ := List.getElem?_of_mem b1
    have hi : (psl S.2.2.1 Z)[i]? = some y' := hi
    rcases Nat.lt_or_ge i S.2.2.1.length with q | q
    · obtain ⟨W, u1, _⟩ := psl_pre Z S.2.2.1
      rw [u1, List.getElem?_append_left q] at hi
      exact Or.inl ⟨y', List.mem_of_getElem? hi, b2⟩
    · right
      obtain ⟨hp, hp2⟩ := psl_pos (by omega) q hi
      have hyZ : y' ∈ Z := List.mem_of_getElem? hp
      have hee2 : e2 = g.ep := by
        have := (r2 y' hyZ).2
        rw [hy4'.2.2] at this
        exact (nI_inj (by omega) (by omega) this).symm
      intro j' hj'
      have fin : ∀ D1 : Nat → Nat → Int32, D1 7 7 = nI g.ep → ∀ p', p' < i - S.2.2.1.length → Z[p']? = some (mLI (nI j) D1 j') → ∃ x, x ∈ S'.2.2.1 ∧ isLI g.ep j' x := fun D1 a7 p' a1 a2 => by
        obtain ⟨x, x1, x2⟩ := hmem _ (psl_bef (by omega) hp2 a1 a2)
        exact ⟨x, x1, isLI.sm x2 ⟨rfl, rfl, a7⟩⟩
      rcases r3 with ⟨_, _, _, _, q4⟩ | ⟨q0, q1⟩ | ⟨q0, D1, K1, A1, Z1, Z2, q1, q2, q3, q4⟩
      · rw [q4] at hyZ; cases hyZ
      · subst q0
        obtain ⟨_, _, _, _, d4, d5⟩ := q1.dk hN
        obtain ⟨l1, n', l2, l3⟩ := d4 y' hyZ hy4'.1
        have hl1 : lds P g j e2 := by unfold lds; rw [← hN.ep.2.2.1]; exact l1
        have hjl : j = l := hlam j hj (by rw [← hee2]; exact hl1)
        have hLOj := hN.ld l1
        have hn' : n' = n := by
          have := hy4'.2.1
          rw [l3] at this
          exact nI_inj (by omega) (by omega) this
        subst hn'
        rcases d5 (i - S.2.2.1.length) n' l2 (by rw [hp, l3]) j' hj' with ⟨s1, s2⟩ | ⟨p', s1, s2⟩
        · left
          rw [← hjl]
          exact ⟨by rw [hej]; exact hee2, s2, s1⟩
        · exact Or.inr (fin _ (by rw [hLOj.l1.1, hee2]) p' s1 s2)
      · rcases Nat.lt_or_ge (i - S.2.2.1.length) Z1.length with qz | qz
        · rw [q1, List.getElem?_append_left qz] at hp
          rcases q2.2.2 with ⟨_, b⟩ | ⟨bl, _, _, b0, _, b, _, bo⟩
          · rw [b] at hp; cases hp
          · obtain ⟨n', l2, l3, l4⟩ := b y' (List.mem_of_getElem? hp)
            have hn' : n' = n := by
              have := hy4'.2.1
              rw [l3] at this
              exact nI_inj (by omega) (by omega) this
            subst hn'
            have hLOj := q3.ld (by rw [q3.ep.2.2.1]; exact bl)
            rcases bo (i - S.2.2.1.length) n' l2 (by rw [hp, l3]) j' hj' with ⟨s1, _⟩ | ⟨p', s1, s2⟩
            · rw [b0, b_0] at s1; cases s1
            · refine Or.inr (fin D1 (by rw [hLOj.l1.1, hee2]) p' s1 ?_)
              rw [q1, List.getElem?_append_left (by omega)]; exact s2
        · rw [q1, List.getElem?_append_right qz] at hp
          obtain ⟨_, _, _, _, d4, d5⟩ := q4.dk q3
          obtain ⟨l1, n', l2, l3⟩ := d4 y' (List.mem_of_getElem? hp) hy4'.1
          have hn' : n' = n := by
            have := hy4'.2.1
            rw [l3] at this
            exact nI_inj (by omega) (by omega) this
          subst hn'
          have hLOj := q3.ld l1
          rcases d5 _ n' l2 (by rw [hp, l3]) j' hj' with ⟨s1, _⟩ | ⟨p', s1, s2⟩
          · rcases q2.2.2 with ⟨b, _⟩ | ⟨_, _, _, b0, _⟩
            · rw [q3.ep.2.2.1] at l1; exact absurd b l1
            · rw [b0, b_0] at s1; cases s1
          · refine Or.inr (fin D1 (by rw [hLOj.l1.1, hee2]) (Z1.length + p') (by omega) ?_)
            rw [q1, List.getElem?_append_right (by omega), show Z1.length + p' - Z1.length = p' by omega]; exact s2
  · have hnj : n = j := nI_inj (by omega) (by omega) (hi2.symm.trans hto)
    subst hnj
    have ze : e2 = g.ep := nI_inj (by omega) (by omega) (hx3.symm.trans hi3)
    rw [hej']
    rcases r3 with ⟨q0, _⟩ | ⟨q0, _⟩ | ⟨q0, D1, K1, A1, Z1, Z2, q1, q2, q3, q4⟩
    · omega
    · omega
    · have h07 := (q4.dk q3).1
      have : nI e' = nI e2 := by rw [← w1, h07]; exact q3.ep.1
      have := nI_inj (by omega) (by omega) this
      omega

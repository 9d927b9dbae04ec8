/-! a TICK: the NODES one behind the other -/
def TKR (P : Pm) (g : Gh) (l i k : Nat) (S S' : SS) : Prop :=
  (∀ n, n < P.nn → eN S' n = eN S n) ∧ (∀ n, n < i ∨ i + k ≤ n → S'.2.2.2.1 n = S.2.2.2.1 n) ∧
  (∀ y, y ∈ S.2.2.1 → ∃ y', y' ∈ S'.2.2.1 ∧ smM y' y) ∧ (∀ y, y ∈ S'.2.2.1 → y.1 0 = 5 → ∃ y', y' ∈ S.2.2.1 ∧ smM y y') ∧ S'.2.2.1.length ≤ 128 ∧
  (∀ n, i ≤ n → n < i + k → (∀ t, ¬ t < 0 → ¬ pnd (S'.2.2.2.1 n) t) ∧ ∀ k', k' < 5243392 → stb (S'.2.2.2.1 n) (nI k') → stb (S.2.2.2.1 n) (nI k') ∨ (pnd (S.2.2.2.1 n) (nI k') ∧ (eN S n = g.ep → (∀ j, i ≤ j → j < n → eN S j = g.ep) → S.2.2.1.length + (n - i) + (if i ≤ l ∧ l < n then 97 else 0) < 128 → ∃ x, x ∈ S'.2.2.1 ∧ isHW g.ep l n (nI k') x))) ∧
  (i ≤ l → l < i + k → eN S l = g.ep → S'.2.2.2.1 l 18 3 ≤ 2 → ∀ n, n < 32 → bt (S'.2.2.2.1 l 7 10) n = true → S.2.2.2.1 l 18 3 ≤ 2 ∧ bt (S.2.2.2.1 l 7 10) n = true ∧ ∀ k', KPb P.gg (S.2.2.2.1 l) n (nI k') → KPb P.gg (S'.2.2.2.1 l) n (nI k'))
theorem MS.sm {P : Pm} {g : Gh} {y y' : Mg} (hh : MS P g y') (hsm : smM y y') : MS P g y := by
  have e := hsm.1
  refine ⟨fun z => ?_, fun z => ?_, fun z => ?_, fun z => ?_⟩
  · obtain ⟨c, c1, c2, c3, c4⟩ := hh.1 (by rw [← e]; exact z)
    have hr : rlv y.1 = c := by
      unfold rlv
      rw [e, c2, if_neg (by rw [← e, z]; decide), if_neg (by rw [← e, z]; decide), if_pos (Or.inl (by rw [← e]; exact z)), nI_clamp (by omega)]
    have hw : ∀ i, i < c → y.2 i = y'.2 i := fun i hi => hsm.2 i (by rw [hr]; exact hi)
    exact ⟨c, c1, by rw [e]; exact c2, fun i k hi hk ek => c3 i k hi hk (by rw [← hw i hi, ← hw k hk]; exact ek), fun i hi => by rw [hw i hi]; exact c4 i hi⟩
  · rw [e]; exact hh.2.1 (by rw [← e]; exact z)
  · rw [e]; exact hh.2.2.1 (by rw [← e]; exact z)
  · rw [e]; exact hh.2.2.2 (by rw [← e]; exact z)
theorem smM.tr {x y z : Mg} (h : smM x y) (h2 : smM y z) : smM x z := ⟨h.1.trans h2.1, fun i hi => by rw [h.2 i hi]; exact h2.2 i (by rw [← h.1]; exact hi)⟩
theorem nw_C {P : Pm} {l : Nat} {u b : Nat → Int32} (hP : PmO P) (hl : l < P.nn) : ∀ (k i : Nat) {g : Gh} {S S' : SS}, i + k ≤ P.nn → SU P g S → lds P g l g.ep → S.2.2.1.length ≤ 128 → nwR P.nn P.gg P.C P.f u b k i S S' → ∃ g', Gs g g' ∧ SU P g' S' ∧ S'.1 = S.1 ∧ S'.2.1 = S.2.1 ∧ TKR P g l i k S S'
  | 0, i, g, S, S', _, h, _, hlen, hr => by
    have hr : S' = S := hr
    rw [hr]
    exact ⟨g, Gs.rf g, h, rfl, rfl, fun _ _ => rfl, fun _ _ => rfl, fun y hy => ⟨y, hy, smM.rf⟩, fun y hy _ => ⟨y, hy, smM.rf⟩, hlen, fun n h1 h2 => by omega, fun h1 h2 => by omega⟩
  | k + 1, i, g, S, S', hik, h, hld, hlen, hr => by
    have hnn := hP.nn
    rcases hr with ⟨q, _⟩ | ⟨_, S1, r1, r2⟩
    · exact absurd q (h.2.1 i (by omega))
    · have hup := h.2.1 i (by omega)
      have hNi := h.nu (show i < P.nn by omega)
      obtain ⟨g1, g11, g12⟩ := h.1.node (by omega) (nwork h.1.go hP.gg hP.nn (by omega) hNi h.1.ms) hup r1
      obtain ⟨D', K', A', Z, t1, t2, t3, t4, t5, t6⟩ := tick_n (u := u) (b := b) (A := S.2.2.2.2.2 i) (Y := S.2.2.1) h.1.go hP.gg hP.nn hP.f (show i < P.nn by omega) hNi
      obtain ⟨ms1, m1, m2⟩ := r1
      rw [t1] at m1 m2
      have hDi : S1.2.2.2.1 i = D' := by rw [m2]; exact va_up_s _ _ _
      have hDn : ∀ n, n ≠ i → S1.2.2.2.1 n = S.2.2.2.1 n := fun n hn => by rw [m2]; exact va_up_n _ _ hn
      have hms : S1.2.2.1 = ms1 := by rw [m2]
      have he1 : ∀ n, eN S1 n = eN S n := fun n => by
        unfold eN
        by_cases c : n = i
        · rw [c, hDi, t6]
        · rw [hDn n c]
      have hlen1 : S1.2.2.1.length ≤ 128 := by rw [hms, smL.len m1]; exact psl_le Z hlen
      have hlen2 : S1.2.2.1.length ≤ S.2.2.1.length + Z.length := by
        rw [hms, smL.len m1]
        show (psl S.2.2.1 Z).length ≤ _
        rw [psl_take Z hlen, List.length_append, List.length_take]
        omega
      have hMS : ∀ y y' : Mg, MS P g y' → smM y y' → MS P g y := fun y y' hh hsm => MS.sm hh hsm
      have hSU1 : SU P g1 S1 := by
        refine ⟨g12, fun j hj => ?_, fun y hy => ?_⟩
        · by_cases c : j = i
          · subst c; rw [hDi, t6]; exact hup
          · rw [hDn j c]; exact h.2.1 j hj
        · rw [hms] at hy
          obtain ⟨y', y1, y2⟩ := smL_mem m1 hy
          refine MS.mono g11.le ?_
          rcases psl_in Z y1 with q | q
          · exact hMS y y' (h.2.2 y' q) y2
          · exact hMS y y' (t2 y' q).1 y2
      have hgs := g11.gs
      obtain ⟨g2, b1, b2, b3, b4, c1, c2, c3, c4, c5, c6, c7⟩ := nw_C (l := l) hP hl k (i + 1) (by omega) hSU1 (by rw [lds_gs hgs, hgs.ep]; exact hld) hlen1 r2
      have hS1E : S1.1 = S.1 := by rw [m2]
      have hS1Q : S1.2.1 = S.2.1 := by rw [m2]
      have hDi' : S'.2.2.2.1 i = D' := by rw [c2 i (Or.inl (by omega)), hDi]
      refine ⟨g2, hgs.tr b1, b2, by rw [b3, hS1E], by rw [b4, hS1Q], fun n hn => by rw [c1 n hn, he1], fun n hn => ?_, fun y hy => ?_, fun y hy h5 => ?_, c5, fun n h1 h2 => ?_, fun h1 h2 he hst n hn hc => ?_⟩
      · rw [c2 n (by omega), hDn n (by omega)]
      · obtain ⟨y1, q1, q2⟩ := smL_mem2 m1 (psl_old Z hy)
        obtain ⟨y2, q3, q4⟩ := c3 y1 (by rw [hms]; exact q1)
        exact ⟨y2, q3, q4.tr q2⟩
      · obtain ⟨y1, q1, q2⟩ := c4 y hy h5
        rw [hms] at q1
        obtain ⟨y2, q3, q4⟩ := smL_mem m1 q1
        have q3 : y2 ∈ psl S.2.2.1 Z := q3
        rcases psl_in Z q3 with q | q
        · exact ⟨y2, q, q2.tr q4⟩
        · exfalso
          refine (t2 y2 q).2.2 ?_
          rw [← q4.1, ← q2.1]; exact h5
      · by_cases c : n = i
        · subst c
          -- its own FLUSH
          obtain ⟨D1, Zf, ⟨f1, f2, f3, f4⟩, _, f6⟩ := t3
          have hq : ∀ q, q < 7 → D' q = D1 q := by
            rcases f6 with ⟨_, q, _⟩ | ⟨_, D2, Zw, Zg, _, _, _, _, _, q, _⟩
            · intro x _; rw [q]
            · exact q
          have hZ : ∃ W, Z = Zf ++ W := by
            rcases f6 with ⟨_, _, _, q⟩ | ⟨_, D2, Zw, Zg, _, _, _, _, _, _, _, q⟩
            · exact ⟨[], by rw [q, List.append_nil]⟩
            · exact ⟨_, q⟩
          rw [hDi']
          refine ⟨fun t _ ⟨s, s1, _, s3⟩ => s3 (by rw [hq 5 (by decide)]; exact f3 s s1), fun k' hk' ⟨s, s1, s2, s3⟩ => ?_⟩
          rw [hq 6 (by decide), f2 6 (by decide) (by decide) (by decide)] at s2
          by_cases c5' : S.2.2.2.1 n 5 s = -1
          · exact Or.inl ⟨s, s1, s2, c5'⟩
          · refine Or.inr ⟨⟨s, s1, s2, c5'⟩, fun hen _ hl' => ?_⟩
            rcases f4 with ⟨q0, _, _⟩ | ⟨_, z, q1, q2, q3, q4⟩
            · exact absurd ⟨s, s1, s2, c5'⟩ (h.np n (by omega) q0 (nI k'))
            · have hht := q4 s s1 (by rw [s2]; exact nI_pos (by omega)) c5'
              rw [s2] at hht
              obtain ⟨W, hW⟩ := hZ
              have hz : z ∈ psl S.2.2.1 Z := by
                rw [hW, q1]
                exact psl_new (Z := W) (by omega)
              obtain ⟨y1, p1, p2⟩ := smL_mem2 m1 hz
              obtain ⟨y2, p3, p4⟩ := c3 y1 (by rw [hms]; exact p1)
              refine ⟨y2, p3, isHW.sm (p4.tr p2) ?_⟩
              obtain ⟨v0, v1, v2, v3, _⟩ := q2.v
              refine ⟨v0, v1, ?_, by rw [v3, hNi.ep.1, hen], hht⟩
              rw [v2, hNi.ep.2.2.1, hen]
              unfold lds ldB at hld
              by_cases cc : nof P.f 0 (g.mp g.ep) P.nn 0 0 = nI l
              · exact cc
              · rw [if_neg cc] at hld; exact absurd rfl hld
        · obtain ⟨d1, d2⟩ := c6 n (by omega) (by omega)
          refine ⟨d1, fun k' hk' hs => ?_⟩
          rcases d2 k' hk' hs with y | ⟨y1, y2⟩
          · rw [hDn n c] at y; exact Or.inl y
          · rw [hDn n c] at y1
            refine Or.inr ⟨y1, fun hen hall hl' => ?_⟩
            rw [hgs.ep] at y2
            refine y2 (by rw [he1]; exact hen) (fun j j1 j2 => by rw [he1]; exact hall j (by omega) j2) ?_
            -- what NODE i posts
            have hZl : Z.length ≤ (if i = l then 97 else 1) := by
              by_cases ci : i = l
              · rw [if_pos ci]; exact t4
              · rw [if_neg ci]
                refine t5 ?_
                by_cases cb : ldB P.f P.nn (nI i) (S.2.2.2.1 i 0 8) = 0
                · exact cb
                · exfalso
                  have hei := hall i (Nat.le_refl _) (by omega)
                  rw [hNi.ep.2.2.1, hei] at cb
                  have := lds_lam (P := P) (g := g) (show i < 2 ^ 31 by omega) cb
                  rw [lds_lam (P := P) (g := g) (show l < 2 ^ 31 by omega) hld] at this
                  exact ci this.symm
            by_cases ci : i = l
            · rw [if_pos ci] at hZl
              rw [if_neg (by omega)]
              rw [if_pos (by omega)] at hl'
              omega
            · rw [if_neg ci] at hZl
              by_cases cl : i ≤ l ∧ l < n
              · rw [if_pos cl] at hl'
                rw [if_pos (by omega)]
                omega
              · rw [if_neg cl] at hl'
                rw [if_neg (by omega)]
                omega
      · by_cases c : l = i
        · subst c
          rw [hDi'] at hst hc ⊢
          obtain ⟨D1, Zf, ⟨f1, f2, f3, f4⟩, _, f6⟩ := t3
          rcases f6 with ⟨q, _⟩ | ⟨_, D2, Zw, Zg, w1, w2, w3, _, _, _, ⟨_, _, _, g4, _⟩, _⟩
          · exfalso
            rw [hNi.ep.2.2.1, he] at q
            exact hld q
          · obtain ⟨a1, a2, a3, a4, a5, a6, a7⟩ := g4 hst n hn hc
            have e18 : D2 18 3 = S.2.2.2.1 l 18 3 := by rw [w2 18 (by decide), f2 18 (by decide) (by decide) (by decide)]
            have hst0 : S.2.2.2.1 l 18 3 ≤ 2 := by
              rw [e18] at a2
              rcases a2 with a2 | a2
              · exact a2
              · exact absurd (e18.trans a2) w1.no5
            refine ⟨hst0, by rw [w3 10 (by decide) (by decide) (by decide), f2 7 (by decide) (by decide) (by decide)] at a1; exact a1, fun k' hp => hp.c ?_ ?_ ?_ ?_ ?_⟩
            · rw [a3, w2 8 (by decide), f2 8 (by decide) (by decide) (by decide)]
            · rw [a4, w2 11 (by decide), f2 11 (by decide) (by decide) (by decide)]
            · rw [a5, w2 15 (by decide), f2 15 (by decide) (by decide) (by decide)]
            · rw [a6, w2 16 (by decide), f2 16 (by decide) (by decide) (by decide)]
            · rw [a7, w2 17 (by decide), f2 17 (by decide) (by decide) (by decide)]
        · obtain ⟨a1, a2, a3⟩ := c7 (by omega) (by omega) (by rw [he1, hgs.ep]; exact he) hst n hn hc
          rw [hDn l c] at a1 a2 a3
          exact ⟨a1, a2, a3⟩

/-! mending in a drain: one hand-over -/
/-- what is FLUSHED newly is told of -/
theorem St1.sb {P : Pm} {g : Gh} {l n : Nat} {x : Mg} {Z : List Mg} {S S' : SS} {t : Int32} (hP : PmO P) (hl : l < P.nn) (h : RG P g l S) (hst : St1 P g l x Z S S') (hn : n < P.nn) (ht : ¬ t < 0) (hs : stb (dN S' n) t) : stb (dN S n) t ∨ (pnd (dN S n) t ∧ ∃ y ∈ S'.2.2.1, isHW g.ep l n t y) := by
  have hN := h.nu hn
  have same : dN S' n 5 = dN S n 5 → dN S' n 6 = dN S n 6 → stb (dN S n) t := fun e5 e6 => (stb_cg e5 e6).mp hs
  rcases hst.cs hP.nn hl with ⟨_, e, _⟩ | ⟨j, j1, j2, j3, _, _, e1, _, _, _, hr, hF⟩ | ⟨_, _, _, _, e1, e⟩ | ⟨_, _, _, _, _, e, _⟩
  · exact Or.inl (same (by show S'.2.2.2.1 n 5 = _; rw [e]) (by show S'.2.2.2.1 n 6 = _; rw [e]))
  · by_cases c : n = j
    · subst c
      have fin : ∀ t0, DKR P.nn (nI n) P.f (dN S n) (dN S' n) Z t0 → stb (dN S n) t ∨ (pnd (dN S n) t ∧ ∃ y ∈ S'.2.2.1, isHW g.ep l n t y) := fun t0 q => by
        rcases q.2.2.1 t ht hs with w | ⟨w, z, Z', z1, z2⟩
        · exact Or.inl w
        · right
          refine ⟨w, ?_⟩
          obtain ⟨y, y1, y2⟩ := hst.new (z := z) (by rw [z1]; exact psl_new (hst.lt h.2.1))
          obtain ⟨v0, v1, v2, v3, _⟩ := (q.2.1 z (by rw [z1]; exact List.mem_cons_self)).v
          refine ⟨y, y1, isHW.sm y2 ⟨v0, v1, ?_, by rw [v3]; exact hN.ep.1, z2⟩⟩
          rw [v2]
          have : dN S n 0 8 = g.mp g.ep := hN.ep.2.2.1
          rw [this]
          exact lds_nof h.2.2.1
      rcases hr with ⟨_, e, _⟩ | ⟨_, e, _⟩ | ⟨_, e, _⟩ | ⟨_, e, _⟩ | ⟨_, _, q, _⟩ | ⟨_, _, q, _⟩
      · rw [e] at hs; exact Or.inl hs
      · rw [e] at hs; exact Or.inl hs
      · rw [e] at hs; exact Or.inl hs
      · rw [e] at hs; exact Or.inl hs
      · exact fin _ q
      · exact fin _ q
    · rw [e1 n c] at hs; exact Or.inl hs
  · by_cases c : n = l
    · subst c
      obtain ⟨_, _, _, _, _, _, _, _, _, _, _, _, _, q, _⟩ := e
      exact Or.inl (same (q 5 (by decide)) (q 6 (by decide)))
    · rw [(e1 n c).1] at hs; exact Or.inl hs
  · exact Or.inl (same (by show S'.2.2.2.1 n 5 = _; rw [e]) (by show S'.2.2.2.1 n 6 = _; rw [e]))
theorem QNs.st {P : Pm} {g g' : Gh} {l : Nat} {x : Mg} {Z : List Mg} {S S' : SS} (hP : PmO P) (hl : l < P.nn) (h : RG P g l S) (hst : St1 P g l x Z S S') (h' : RG P g' l S') (hp : PNs l S) (hq : QNs P l S) : QNs P l S' := fun n k hn hk hm => by
  have hr := hst.rl hP hl h h'
  rcases hst.mm hP hl (nI_pos (by omega)) hm with w | ⟨w1, _, w3⟩
  · exact nwO_le hr (hq n k hn hk w)
  · exact nwO_le hr (hp x k hst.head (Or.inl w1) hk w3)
theorem CDv.se {P : Pm} {g : Gh} {l n k a : Nat} {x : Mg} {Z : List Mg} {T S S' : SS} (hP : PmO P) (hl : l < P.nn) (hA : AV P g) (hsT : dN T l 18 3 = 0) (h : RG P g l S) (hst : St1 P g l x Z S S') (hq : GQ P l S) (hqn : QNs P l S) (hn : n < P.nn) (hk : k < 5243392) (ha : a < 961) (hf : fndI (dN T l 15) (dN T l 16) (nI k) = nI a) (hv : CDv P l g.ep T S) (hs : SEo P l a k n T S) : SEo P l a k n T S' := by
  have hnn := hP.nn
  obtain ⟨⟨d1, d1k⟩, d2, d3, d4, d5, d6, d7, d8, d9, d10, d11⟩ := hv
  have e15 : dN S l 15 = dN T l 15 := d1 15 (by decide)
  have e16 : dN S l 16 = dN T l 16 := d1 16 (by decide)
  have emk : ∀ a, mkA P.gg (dN S l) a = mkA P.gg (dN T l) a := fun a => by unfold mkA; rw [d1 8 (by decide), d1 11 (by decide)]
  have hsS : dN S l 18 3 ≤ 2 := by rw [d1 18 (by decide), hsT]; decide
  have keep : ∀ m, m < P.nn → bt (mkA P.gg (dN T l) a) m = true → stb (dN S m) (nI k) → stb (dN S' m) (nI k) := fun m hm hmk hsb => by
    rcases (hst.dk hP hl h hm).1 (nI k) (nI_pos (by omega)) hsb with r | ⟨t1, t2, t3⟩
    · exact r
    · have := (d5 x hst.head t1 m k a hm t2 hk t3 ha hf).1
      rw [hmk] at this; cases this
  rcases hs with r | r
  · rcases (hst.dk hP hl h hn).1 (nI k) (nI_pos (by omega)) r with t | ⟨t1, t2, t3⟩
    · exact Or.inl t
    · obtain ⟨_, u2⟩ := d5 x hst.head t1 n k a hn t2 hk t3 ha hf
      exact Or.inr (fun m hm hmk => keep m hm hmk (bit_st hP hl hA h hqn hq.1 hsS ha hk (by rw [e15, e16]; exact hf) hm (by rw [emk]; exact hmk) (u2 m (by omega) hmk)))
  · exact Or.inr (fun m hm hmk => keep m hm hmk (r m hm hmk))
theorem CDv.st {P : Pm} {g g' : Gh} {l : Nat} {x : Mg} {Z : List Mg} {T S S' : SS} (hP : PmO P) (hl : l < P.nn) (hA : AV P g) (hsT : dN T l 18 3 = 0) (h : RG P g l S) (hst : St1 P g l x Z S S') (hgs : Gs g g') (h' : RG P g' l S') (hq : GQ P l S) (hqn : QNs P l S) (hv : CDv P l g.ep T S) : CDv P l g'.ep T S' := by
  have hnn := hP.nn
  obtain ⟨l1, l2, l3, l4, l5⟩ := hv.ld hP hl hA hqn hsT h hst h' hq
  have hv0 := hv
  obtain ⟨⟨d1, d1k⟩, d2, d3, d4, d5, d6, d7, d8, d9, d10, d11⟩ := hv
  have hL := h.lo hl
  have hx := d2 x hst.head
  have hep : g'.ep = g.ep := hgs.ep
  rw [hep]
  have e15 : dN S l 15 = dN T l 15 := d1 15 (by decide)
  have e16 : dN S l 16 = dN T l 16 := d1 16 (by decide)
  have emk : ∀ a, mkA P.gg (dN S l) a = mkA P.gg (dN T l) a := fun a => by unfold mkA; rw [d1 8 (by decide), d1 11 (by decide)]
  have hmk : ∀ a k, a < 961 → k < 5243392 → fndI (dN T l 15) (dN T l 16) (nI k) = nI a → mkA P.gg (dN T l) a = msk P g g.ep k := fun a k ha hk hf => by
    rw [← emk]
    exact mkA_ms hP.gg hL ha hk (by rw [e15, e16]; exact hf)
  have hsS : dN S l 18 3 ≤ 2 := by rw [d1 18 (by decide), hsT]; decide
  have hbs : ∀ a k n, a < 961 → k < 5243392 → fndI (dN T l 15) (dN T l 16) (nI k) = nI a → n < P.nn → bt (mkA P.gg (dN T l) a) n = true → bt (dN S l 17 a) n = true → stb (dN S n) (nI k) := fun a k n ha hk hf hn hm hb => bit_st hP hl hA h hqn hq.1 hsS ha hk (by rw [e15, e16]; exact hf) hn (by rw [emk]; exact hm) hb
  have hlt128 := hst.lt h.2.1
  have first : ∀ z Z', Z = z :: Z' → ∃ y ∈ S'.2.2.1, smM y z := fun z Z' e => hst.new (by rw [e]; exact psl_new hlt128)
  -- a PUT that is handed over is wanted there
  have hput : x.1 0 = 10 → ∀ n k, n < P.nn → x.1 2 = nI n → x.1 5 = nI k → k < 5243392 → ∃ a, a < 961 ∧ fndI (dN T l 15) (dN T l 16) (nI k) = nI a ∧ bt (mkA P.gg (dN T l) a) n = true := fun c10 n k hn h2 h5 hk => by
    obtain ⟨k', a, k1, a1, k2, a2⟩ := d3 x hst.head (Or.inr c10)
    have : k' = k := nI_inj (by omega) (by omega) (k2.symm.trans h5)
    subst this
    obtain ⟨e, n', k'', m1, m2, m3, m4, m5, m6, m7⟩ := hst.2.2.2.1.2.1 c10
    have hne : n' = n := nI_inj (by omega) (by omega) (m3.symm.trans h2)
    have hke : k'' = k' := nI_inj (by omega) (by omega) (m5.symm.trans h5)
    have hee : e = g.ep := by
      have := h.1.1.ep.1
      exact nI_inj (by omega) (by omega) (m1.symm.trans hst.2.2.1.ep.1)
    subst hne hke hee
    exact ⟨a, a1, a2, by rw [hmk a k'' a1 k1 a2]; exact m7⟩
  have hdrop : x.1 0 = 12 → ∀ n k a, n < P.nn → x.1 2 = nI n → k < 5243392 → hvT x (nI k) → a < 961 → fndI (dN T l 15) (dN T l 16) (nI k) = nI a → bt (mkA P.gg (dN T l) a) n = false ∧ ∀ m, m < 32 → bt (mkA P.gg (dN T l) a) m = true → bt (dN S l 17 a) m = true := fun c12 n k a => d5 x hst.head c12 n k a
  -- where MESSAGES come from
  have src : ∀ y ∈ S'.2.2.1, (∃ y0 ∈ S.2.2.1, smM y y0) ∨ (∃ j z, j < P.nn ∧ x.1 2 = nI j ∧ NRl P j x.1 x.2 (dN S j) (dN S' j) Z ∧ z ∈ Z ∧ smM y z) ∨ (∃ z, z.1 0 = 12 ∧ smM y z ∧ ∀ n k a, n < P.nn → z.1 2 = nI n → k < 5243392 → hvT z (nI k) → a < 961 → fndI (dN T l 15) (dN T l 16) (nI k) = nI a → bt (mkA P.gg (dN T l) a) n = false ∧ ∀ m, m < 32 → bt (mkA P.gg (dN T l) a) m = true → bt (dN S' l 17 a) m = true) := fun y hy => by
    rcases hst.src hP hl hy with q | ⟨c, q⟩ | ⟨j, z, j1, j2, _, hr, z1, z2⟩ | ⟨c, cN, _, z, z0, _, z2⟩
    · exact Or.inl q
    · left
      rcases hst.cs hnn hl with ⟨_, _, e⟩ | ⟨j, j1, j2, _⟩ | ⟨c2, _⟩ | ⟨c2, _⟩
      · have hsub : ∀ w, w ∈ tkl S.2.2.1 0 → w ∈ S.2.2.1 := fun w hw => (tkl_perm hst.1).mem_iff.mp (List.mem_cons_of_mem _ hw)
        rcases e with ⟨_, e⟩ | ⟨_, _, e⟩ | ⟨_, e, _⟩
        · rw [e] at hy; exact ⟨y, hsub y hy, smM.rf⟩
        · rw [e] at hy; exact ⟨y, hsub y hy, smM.rf⟩
        · exfalso
          rcases hx with q | q | q | q | q | q | q | q | q <;> rw [e.1] at q <;> exact absurd q (by decide)
      · have := nI_inj (by omega) (by omega) (j2.symm.trans c)
        omega
      · have := nI_inj (by omega) (by omega) (c2.symm.trans c)
        omega
      · exact absurd c c2
    · exact Or.inr (Or.inl ⟨j, z, j1, j2, hr, z1, z2⟩)
    · rcases l5 c cN z z0 with r | ⟨r1, r2⟩
      · exact Or.inl ⟨z, r, z2⟩
      · exact Or.inr (Or.inr ⟨z, r1, z2, r2⟩)
  -- what a NODE posts
  have nposts : ∀ j z, j < P.nn → NRl P j x.1 x.2 (dN S j) (dN S' j) Z → z ∈ Z → (z.1 0 = 1) ∨ (x.1 0 = 4 ∧ z = mLS j (dN S j) (x.1 1)) ∨ (x.1 0 = 9 ∧ z.1 5 = x.1 5 ∧ z.1 0 = 10 ∧ stb (dN S j) (x.1 5)) ∨ (x.1 0 = 9 ∧ z.1 5 = x.1 5 ∧ z.1 0 = 8 ∧ z.1 1 = nI j ∧ ¬ stb (dN S j) (x.1 5)) ∨ z.1 0 = 11 := fun j z hj hr hz => by
    rcases hr with ⟨_, _, q⟩ | ⟨q4, _, q⟩ | ⟨q, _⟩ | ⟨q9, _, z', q, q1, _, _, q5, q7⟩ | ⟨_, _, q, _⟩ | ⟨_, _, q, _⟩
    · rw [q] at hz; rw [List.mem_singleton.mp hz]; exact Or.inl rfl
    · rw [q] at hz; exact Or.inr (Or.inl ⟨q4, List.mem_singleton.mp hz⟩)
    · exfalso; rcases hx with w | w | w | w | w | w | w | w | w <;> rw [q] at w <;> exact absurd w (by decide)
    · rw [q] at hz
      have hz := List.mem_singleton.mp hz
      subst hz
      rcases q7 with ⟨q6, q7, _⟩ | ⟨q6, q7, _⟩
      · exact Or.inr (Or.inr (Or.inl ⟨q9, q5, q7, q6⟩))
      · exact Or.inr (Or.inr (Or.inr (Or.inl ⟨q9, q5, q7, q1, q6⟩)))
    · exact Or.inr (Or.inr (Or.inr (Or.inr (q.2.1 z hz).k11)))
    · exact Or.inr (Or.inr (Or.inr (Or.inr (q.2.1 z hz).k11)))
  have hNP : ∀ k, k < 5243392 → NP P k S → NP P k S' := fun k hk ⟨p1, p2⟩ => by
    refine ⟨fun y hy h10 h5 => ?_, fun y hy h9 h5 n hn h2 hm => ?_⟩
    · rcases src y hy with ⟨y0, q1, q2⟩ | ⟨j, z, j1, j2, hr, z1, z2⟩ | ⟨z, z1, z2, _⟩
      · exact p1 y0 q1 (by rw [← q2.1]; exact h10) (by rw [← q2.1]; exact h5)
      · rw [z2.1] at h10 h5
        rcases nposts j z j1 hr z1 with q | ⟨_, q⟩ | ⟨c9, q5, q, q6⟩ | ⟨_, _, q, _⟩ | q
        · rw [q] at h10; exact absurd h10 (by decide)
        · rw [q, (mLS_v (to := x.1 1) (h.nu j1)).1] at h10; exact absurd h10 (by decide)
        · rw [← q5, h5] at q6
          obtain ⟨s, s1, s2, _⟩ := q6
          exact p2 x hst.head c9 (by rw [← q5]; exact h5) j j1 j2 ⟨s, s1, s2⟩
        · rw [q] at h10; exact absurd h10 (by decide)
        · rw [q] at h10; exact absurd h10 (by decide)
      · rw [z2.1, z1] at h10; exact absurd h10 (by decide)
    · rcases src y hy with ⟨y0, q1, q2⟩ | ⟨j, z, j1, j2, hr, z1, z2⟩ | ⟨z, z1, z2, _⟩
      · rcases hst.mm hP hl (nI_pos (by omega)) hm with w | ⟨w1, _, w3⟩
        · exact p2 y0 q1 (by rw [← q2.1]; exact h9) (by rw [← q2.1]; exact h5) n hn (by rw [← q2.1]; exact h2) w
        · exact p1 x hst.head w1 w3
      · rw [z2.1] at h9
        rcases nposts j z j1 hr z1 with q | ⟨_, q⟩ | ⟨_, _, q, _⟩ | ⟨_, _, q, _⟩ | q
        · rw [q] at h9; exact absurd h9 (by decide)
        · rw [q, (mLS_v (to := x.1 1) (h.nu j1)).1] at h9; exact absurd h9 (by decide)
        · rw [q] at h9; exact absurd h9 (by decide)
        · rw [q] at h9; exact absurd h9 (by decide)
        · rw [q] at h9; exact absurd h9 (by decide)
      · rw [z2.1, z1] at h9; exact absurd h9 (by decide)
  have hSE := fun n k a (hn : n < P.nn) (hk : k < 5243392) (ha : a < 961) (hf : fndI (dN T l 15) (dN T l 16) (nI k) = nI a) => hv0.se hP hl hA hsT h hst hq hqn hn hk ha hf
  refine ⟨l1, fun y hy => ?_, fun y hy hk => ?_, fun n k hn hk hp => ?_, fun y hy h12 n k a hn h2 hk hv' ha hf => ?_, fun y hy h9 => ?_, fun y hy h8 => ?_, fun a m ha hm hmk hb => l2 a m ha hm hmk (d8 a m ha hm hmk hb), fun n k a hn hk ha hf hsb => ?_, fun n k a hn hk ha hf hmn => ?_, fun n hn => ?_⟩
  · rcases src y hy with ⟨y0, q1, q2⟩ | ⟨j, z, j1, _, hr, z1, z2⟩ | ⟨z, z1, z2, _⟩
    · rw [q2.1]; exact d2 y0 q1
    · rw [z2.1]
      rcases nposts j z j1 hr z1 with q | ⟨_, q⟩ | ⟨_, _, q, _⟩ | ⟨_, _, q, _⟩ | q
      · exact Or.inr (Or.inl q)
      · have : (mLS j (dN S j) (x.1 1)).1 0 = 5 := (mLS_v (to := x.1 1) (h.nu j1)).1
        rw [q]; exact Or.inr (Or.inr (Or.inr (Or.inl this)))
      · exact Or.inr (Or.inr (Or.inr (Or.inr (Or.inr (Or.inr (Or.inl q))))))
      · exact Or.inr (Or.inr (Or.inr (Or.inr (Or.inl q))))
      · exact Or.inr (Or.inr (Or.inr (Or.inr (Or.inr (Or.inr (Or.inr (Or.inl q)))))))
    · rw [z2.1]; exact Or.inr (Or.inr (Or.inr (Or.inr (Or.inr (Or.inr (Or.inr (Or.inr z1)))))))
  · rcases src y hy with ⟨y0, q1, q2⟩ | ⟨j, z, j1, _, hr, z1, z2⟩ | ⟨z, z1, z2, _⟩
    · obtain ⟨k, a, w1, w2, w3, w4⟩ := d3 y0 q1 (by rw [← q2.1]; exact hk)
      exact ⟨k, a, w1, w2, by rw [q2.1]; exact w3, w4⟩
    · rw [z2.1] at hk
      rcases nposts j z j1 hr z1 with q | ⟨_, q⟩ | ⟨c9, q5, q, _⟩ | ⟨_, _, q, _⟩ | q
      · rw [q] at hk; rcases hk with w | w <;> exact absurd w (by decide)
      · rw [q, (mLS_v (to := x.1 1) (h.nu j1)).1] at hk; rcases hk with w | w <;> exact absurd w (by decide)
      · obtain ⟨k, a, w1, w2, w3, w4⟩ := d3 x hst.head (Or.inl c9)
        exact ⟨k, a, w1, w2, by rw [z2.1, q5]; exact w3, w4⟩
      · rw [q] at hk; rcases hk with w | w <;> exact absurd w (by decide)
      · rw [q] at hk; rcases hk with w | w <;> exact absurd w (by decide)
    · rw [z2.1, z1] at hk; rcases hk with w | w <;> exact absurd w (by decide)
  · rcases hst.pd hP hl (nI_pos (by omega)) hp with q | ⟨q1, q2, q3⟩
    · exact d4 n k hn hk q
    · exact hput q1 n k hn q2 q3 hk
  · rcases src y hy with ⟨y0, q1, q2⟩ | ⟨j, z, j1, _, hr, z1, z2⟩ | ⟨z, z1, z2, z3⟩
    · obtain ⟨w1, w2⟩ := d5 y0 q1 (by rw [← q2.1]; exact h12) n k a hn (by rw [← q2.1]; exact h2) hk (hvT_sy q2.sy (by rw [← q2.1]; exact Or.inr (Or.inr h12)) hv') ha hf
      exact ⟨w1, fun m hm hmk => l2 a m ha hm hmk (w2 m hm hmk)⟩
    · exfalso
      rw [z2.1] at h12
      rcases nposts j z j1 hr z1 with q | ⟨_, q⟩ | ⟨_, _, q, _⟩ | ⟨_, _, q, _⟩ | q
      · rw [q] at h12; exact absurd h12 (by decide)
      · rw [q, (mLS_v (to := x.1 1) (h.nu j1)).1] at h12; exact absurd h12 (by decide)
      · rw [q] at h12; exact absurd h12 (by decide)
      · rw [q] at h12; exact absurd h12 (by decide)
      · rw [q] at h12; exact absurd h12 (by decide)
    · exact z3 n k a hn (by rw [← z2.1]; exact h2) hk (hvT_sy z2.sy (by rw [z1]; exact Or.inr (Or.inr rfl)) hv') ha hf
  · rcases src y hy with ⟨y0, q1, q2⟩ | ⟨j, z, j1, _, hr, z1, z2⟩ | ⟨z, z1, z2, _⟩
    · obtain ⟨n, w1, w2, w3⟩ := d6 y0 q1 (by rw [← q2.1]; exact h9)
      refine ⟨n, w1, by rw [q2.1]; exact w2, fun k a hk ha h5 hf => ?_⟩
      rcases w3 k a hk ha (by rw [← q2.1]; exact h5) hf with r | r
      · exact Or.inl (hSE n k a w1 hk ha hf r)
      · exact Or.inr (hNP k hk r)
    · exfalso
      rw [z2.1] at h9
      rcases nposts j z j1 hr z1 with q | ⟨_, q⟩ | ⟨_, _, q, _⟩ | ⟨_, _, q, _⟩ | q
      · rw [q] at h9; exact absurd h9 (by decide)
      · rw [q, (mLS_v (to := x.1 1) (h.nu j1)).1] at h9; exact absurd h9 (by decide)
      · rw [q] at h9; exact absurd h9 (by decide)
      · rw [q] at h9; exact absurd h9 (by decide)
      · rw [q] at h9; exact absurd h9 (by decide)
    · rw [z2.1, z1] at h9; exact absurd h9 (by decide)
  · rcases src y hy with ⟨y0, q1, q2⟩ | ⟨j, z, j1, j2, hr, z1, z2⟩ | ⟨z, z1, z2, _⟩
    · obtain ⟨k, w1, w2, w3⟩ := d7 y0 q1 (by rw [← q2.1]; exact h8)
      refine ⟨k, w1, by rw [q2.1]; exact w2, fun n a hn h1 ha hf => ?_⟩
      obtain ⟨u2, u1⟩ := w3 n a hn (by rw [← q2.1]; exact h1) ha hf
      refine ⟨fun hm => ?_, ?_⟩
      · rcases hst.mm hP hl (nI_pos (by omega)) hm with r | ⟨r1, r2, r3⟩
        · exact u2 r
        · rcases u1 with u1 | u1
          · obtain ⟨a', a1, a2, a3⟩ := hput r1 n k hn r2 r3 w1
            have : a' = a := nI_inj (by omega) (by omega) (a2.symm.trans hf)
            rw [this, u1] at a3; cases a3
          · exact u1.1 x hst.head r1 r3
      · rcases u1 with u1 | u1
        · exact Or.inl u1
        · exact Or.inr (hNP k w1 u1)
    · rw [z2.1] at h8
      rcases nposts j z j1 hr z1 with q | ⟨_, q⟩ | ⟨_, _, q, _⟩ | ⟨c9, q5, _, q1, q6⟩ | q
      · rw [q] at h8; exact absurd h8 (by decide)
      · rw [q, (mLS_v (to := x.1 1) (h.nu j1)).1] at h8; exact absurd h8 (by decide)
      · rw [q] at h8; exact absurd h8 (by decide)
      · obtain ⟨k, _, k1, _, k2, _⟩ := d3 x hst.head (Or.inl c9)
        refine ⟨k, k1, by rw [z2.1, q5]; exact k2, fun n a hn h1 ha hf => ?_⟩
        have : j = n := nI_inj (by omega) (by omega) (by rw [← q1, ← z2.1]; exact h1)
        subst this
        rw [k2] at q6
        obtain ⟨n', w1, w2, w3⟩ := d6 x hst.head c9
        have : n' = j := nI_inj (by omega) (by omega) (w2.symm.trans j2)
        subst this
        have hnm : bt (mkA P.gg (dN T l) a) n' = false ∨ NP P k S := by
          rcases w3 k a k1 ha k2 hf with (r | r) | r
          · exact absurd r q6
          · left
            cases rr : bt (mkA P.gg (dN T l) a) n' with
            | false => rfl
            | true => exact absurd (r n' hn rr) q6
          · exact Or.inr r
        have hmem : ¬ mem (dN S n') (nI k) := fun ⟨s, s1, s2⟩ => by
          by_cases c5 : dN S n' 5 s = -1
          · exact q6 ⟨s, s1, s2, c5⟩
          · obtain ⟨a', a1, a2, a3⟩ := d4 n' k hn k1 ⟨s, s1, s2, c5⟩
            have : a' = a := nI_inj (by omega) (by omega) (a2.symm.trans hf)
            rw [this] at a3
            rcases hnm with hnm | hnm
            · rw [hnm] at a3; cases a3
            · exact hnm.2 x hst.head c9 k2 n' hn j2 ⟨s, s1, s2⟩
        have e9 : dN S' n' = dN S n' := by
          rcases hr with ⟨_, e, _⟩ | ⟨_, e, _⟩ | ⟨_, e, _⟩ | ⟨_, e, _⟩ | ⟨c, _⟩ | ⟨c, _⟩
          · exact e
          · exact e
          · exact e
          · exact e
          · rw [c9] at c; exact absurd c (by decide)
          · rw [c9] at c; exact absurd c (by decide)
        refine ⟨by rw [e9]; exact hmem, ?_⟩
        rcases hnm with hnm | hnm
        · exact Or.inl hnm
        · exact Or.inr (hNP k k1 hnm)
      · rw [q] at h8; exact absurd h8 (by decide)
    · rw [z2.1, z1] at h8; exact absurd h8 (by decide)
  · rcases hst.sb hP hl h hn (nI_pos (by omega)) hsb with r | ⟨_, y, y1, y2⟩
    · rcases d9 n k a hn hk ha hf r with q | ⟨y, y1, y2, y3, y4⟩ | ⟨y, y1, y2, y3, y4, y5⟩ | ⟨y, y1, y2⟩
      · exact Or.inl (l3 a n k ha hn hk hf r q)
      · rcases hst.old y1 with e | ⟨y', c1, c2⟩
        · subst e
          right; right; left
          rcases hst.cs hnn hl with ⟨c, _⟩ | ⟨j, j1, j2, _, _, _, _, _, _, _, hr, _⟩ | ⟨_, c, _⟩ | ⟨_, _, c, _⟩
          · have := nI_inj (by omega) (by omega) (c.symm.trans y4)
            omega
          · have : j = n := nI_inj (by omega) (by omega) (j2.symm.trans y4)
            subst this
            rcases hr with ⟨c, _⟩ | ⟨_, _, e⟩ | ⟨c, _⟩ | ⟨c, _⟩ | ⟨c, _⟩ | ⟨c, _⟩
            · rw [y2] at c; exact absurd c (by decide)
            · obtain ⟨w, w1, w2⟩ := first _ [] e
              obtain ⟨u0, u1, u2, u3, u6, c', u7, u8, u9, u10, u11⟩ := mLS_v (to := y.1 1) (h.nu hn)
              obtain ⟨i, i1', i2'⟩ := u11 (nI k) (nI_pos (by omega)) r
              have hw5 : w.1 0 = 5 := by rw [w2.1]; exact u0
              exact ⟨w, w1, hw5, by rw [w2.1]; exact u1, by rw [w2.1, u2]; exact y3, hvT_sy w2 (Or.inl hw5) ⟨i, by rw [u8, nI_clamp (by omega)]; exact i1', i2'⟩⟩
            · rw [y2] at c; exact absurd c (by decide)
            · rw [y2] at c; exact absurd c (by decide)
            · rw [y2] at c; exact absurd c (by decide)
            · rw [y2] at c; exact absurd c (by decide)
          · exact absurd (Or.inr (Or.inl y2)) c
          · exact absurd (Or.inr (Or.inl y2)) (c n hn y4)
        · exact Or.inr (Or.inl ⟨y', c1, by rw [c2.1]; exact y2, by rw [c2.1]; exact y3, by rw [c2.1]; exact y4⟩)
      · rcases hst.old y1 with e | ⟨y', c1, c2⟩
        · subst e
          exact Or.inl (l4 n k a hn hk ha hf (Or.inl ⟨y2, y3, y4, y5⟩))
        · exact Or.inr (Or.inr (Or.inl ⟨y', c1, by rw [c2.1]; exact y2, by rw [c2.1]; exact y3, by rw [c2.1]; exact y4, hvT_sy c2 (by rw [c2.1]; exact Or.inl y2) y5⟩))
      · rcases hst.old y1 with e | ⟨y', c1, c2⟩
        · subst e
          exact Or.inl (l4 n k a hn hk ha hf (Or.inr y2))
        · exact Or.inr (Or.inr (Or.inr ⟨y', c1, y2.sm c2⟩))
    · exact Or.inr (Or.inr (Or.inr ⟨y, y1, y2⟩))
  · obtain ⟨w1, w2⟩ := d10 n k a hn hk ha hf hmn
    have hdk := hst.dk hP hl h hn
    have nod : ¬ (x.1 0 = 12 ∧ x.1 2 = nI n ∧ hvT x (nI k)) := fun ⟨t1, t2, t3⟩ => by
      have := (hdrop t1 n k a hn t2 hk t3 ha hf).1
      rw [hmn] at this; cases this
    refine ⟨fun z => ?_, fun z => ?_⟩
    · rcases hdk.2 (nI k) (nI_pos (by omega)) (w1 z) with r | r
      · exact r
      · exact absurd r nod
    · rcases hdk.1 (nI k) (nI_pos (by omega)) (w2 z) with r | r
      · exact r
      · exact absurd r nod
  · obtain ⟨w1, w2⟩ := d11 n hn
    have hsl := hst.sl hP hl h hn
    have jdrop : ∀ t, x.1 0 = 12 ∧ x.1 2 = nI n ∧ hvT x t → Jk P.gg (dN T l) n t := fun t ⟨t1, t2, t3⟩ => by
      obtain ⟨i, i1, i2⟩ := t3
      obtain ⟨n', _, _, q3⟩ := hst.2.2.1.dr t1
      obtain ⟨k, k1, k2, _⟩ := q3 i i1
      rw [i2] at k1
      refine ⟨by rw [k1]; exact nIneg (by omega), fun a ha hf => ?_⟩
      rw [k1] at hf
      exact (hdrop t1 n k a hn t2 k2 ⟨i, i1, by rw [i2]; exact k1⟩ ha hf).1
    have nput : ∀ t, x.1 0 = 10 ∧ x.1 2 = nI n ∧ x.1 5 = t → ¬ Jk P.gg (dN T l) n t ∧ ¬ t = -1 := fun t ⟨t1, t2, t3⟩ => by
      obtain ⟨k, _, k1, _, k2, _⟩ := d3 x hst.head (Or.inr t1)
      obtain ⟨a, a1, a2, a3⟩ := hput t1 n k hn t2 k2 k1
      rw [← t3, k2]
      refine ⟨fun z => ?_, nIneg (by omega)⟩
      rw [z.2 a a1 a2] at a3; cases a3
    refine ⟨Nat.le_trans (Sm_mono (fun s hs => ?_)) w1, Nat.le_trans (Sm_mono (fun s hs => ?_)) w2⟩
    · by_cases c : Jk P.gg (dN T l) n (dN S' n 6 s) ∨ (dN S' n 6 s = -1 ∧ ¬ dN S' n 5 s = -1)
      · have c2 : Jk P.gg (dN T l) n (dN S n 6 s) ∨ (dN S n 6 s = -1 ∧ ¬ dN S n 5 s = -1) := by
          rcases hsl s hs with ⟨q1, q2⟩ | ⟨_, q2⟩ | ⟨_, q2⟩
          · rw [q1] at c
            rcases c with c | ⟨c, c'⟩
            · exact Or.inl c
            · rcases q2 with q2 | q2
              · rw [q2] at c'; exact Or.inr ⟨c, c'⟩
              · exact absurd q2 c'
          · exact Or.inl (jdrop _ q2)
          · obtain ⟨r1, r2⟩ := nput _ q2
            rcases c with c | ⟨c, _⟩
            · exact absurd c r1
            · exact absurd c r2
        rw [ind_t c, ind_t c2]; exact Nat.le_refl _
      · rw [ind_f c]; exact Nat.zero_le _
    · by_cases c : Jk P.gg (dN T l) n (dN S' n 6 s)
      · have c2 : Jk P.gg (dN T l) n (dN S n 6 s) := by
          rcases hsl s hs with ⟨q1, _⟩ | ⟨q1, _⟩ | ⟨_, q2⟩
          · rw [q1] at c; exact c
          · exact absurd q1 c.1
          · exact absurd c (nput _ q2).1
        rw [ind_t c, ind_t c2]; exact Nat.le_refl _
      · rw [ind_f c]; exact Nat.zero_le _

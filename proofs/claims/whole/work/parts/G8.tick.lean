/-! a TICK from an empty net: what it leaves -/
theorem lds_nof {P : Pm} {g : Gh} {l : Nat} (h : lds P g l g.ep) : nof P.f 0 (g.mp g.ep) P.nn 0 0 = nI l := by
  unfold lds ldB at h
  by_cases c : nof P.f 0 (g.mp g.ep) P.nn 0 0 = nI l
  · exact c
  · rw [if_neg c] at h; exact absurd rfl h
theorem T1.n {P : Pm} {g : Gh} {l n : Nat} {S T : SS} {Zs : Nat → List Mg} (h : T1 P g l S T Zs) (hn : n < P.nn) : TK2 P l n (dN S n) (kN S n) (dN T n) (kN T n) (aN T n) (Zs n) := by
  obtain ⟨Zm, Za, h1, _⟩ := h
  exact h1.1 n (Nat.zero_le _) (by omega)
theorem T1.e {P : Pm} {g : Gh} {l : Nat} {S T : SS} {Zs : Nat → List Mg} (h : T1 P g l S T Zs) : T.1 = S.1 ∧ T.2.1 = S.2.1 := by
  obtain ⟨Zm, Za, h1, _⟩ := h
  exact ⟨h1.2.2.2.2.2.1, h1.2.2.2.2.2.2.1⟩
theorem T1.disk {P : Pm} {g : Gh} {l n : Nat} {S T : SS} {Zs : Nat → List Mg} (h : T1 P g l S T Zs) (hn : n < P.nn) : dN T n 6 = dN S n 6 ∧ (∀ s, s < 280 → dN T n 5 s = -1) ∧ dN T n 1 4 = 0 := by
  obtain ⟨D1, Zf, ⟨f1, f2, f3, _⟩, q⟩ := h.n hn
  rcases q with ⟨_, q, _⟩ | ⟨_, D2, Zw, q1, _, _, _, _, _, q7, _⟩
  · rw [q]; exact ⟨f2 6 (by decide) (by decide) (by decide), f3, f1⟩
  · rw [q7 6 (by decide), q1 6 (by decide), q7 5 (by decide), q1 5 (by decide), q7 1 (by decide), q1 1 (by decide)]
    exact ⟨f2 6 (by decide) (by decide) (by decide), f3, f1⟩
theorem T1.st {P : Pm} {g : Gh} {l n : Nat} {S T : SS} {Zs : Nat → List Mg} {t : Int32} (h : T1 P g l S T Zs) (hn : n < P.nn) : (mem (dN S n) t ↔ stb (dN T n) t) ∧ (mem (dN T n) t ↔ mem (dN S n) t) ∧ ¬ pnd (dN T n) t := by
  obtain ⟨e6, e5, _⟩ := h.disk hn
  refine ⟨⟨fun ⟨s, s1, s2⟩ => ⟨s, s1, by rw [e6]; exact s2, e5 s s1⟩, fun ⟨s, s1, s2, _⟩ => ⟨s, s1, by rw [← e6]; exact s2⟩⟩, ⟨fun ⟨s, s1, s2⟩ => ⟨s, s1, by rw [← e6]; exact s2⟩, fun ⟨s, s1, s2⟩ => ⟨s, s1, by rw [e6]; exact s2⟩⟩, fun ⟨s, s1, _, s3⟩ => s3 (e5 s s1)⟩
/-- the leader's cells -/
theorem T1.ld {P : Pm} {g : Gh} {l : Nat} {S T : SS} {Zs : Nat → List Mg} (hl : l < P.nn) (h : T1 P g l S T Zs) : (∀ q, 7 < q → q < 18 → dN T l q = dN S l q) ∧ (∀ x, x ≠ 12 → x ≠ 13 → x ≠ 14 → dN T l 7 x = dN S l 7 x) ∧ dN T l 18 3 = dN S l 18 3 ∧ dN T l 18 4 = dN S l 18 4 ∧ dN T l 18 6 = dN S l 18 6 ∧ (¬ dN S l 18 3 = 1 → ∀ q, 7 < q → dN T l q = dN S l q) ∧ kN T l = kN S l ∧ aN T l = 0 ∧ dN T l 0 = dN S l 0 := by
  obtain ⟨D1, Zf, ⟨f1, f2, f3, _⟩, q⟩ := h.n hl
  rcases q with ⟨q, _⟩ | ⟨_, D2, Zw, q1, q2, _, _, q5, q6, q7, q8, q9, q10, q11⟩
  · exact absurd rfl q
  · refine ⟨fun q a b => by rw [q7 q b, q1 q (by omega), f2 q (by omega) (by omega) (by omega)], fun x a b c => by rw [q7 7 (by decide), q2 x a b c, f2 7 (by decide) (by decide) (by decide)], by rw [q8, q1 18 (by decide), f2 18 (by decide) (by decide) (by decide)], by rw [q9, q1 18 (by decide), f2 18 (by decide) (by decide) (by decide)], by rw [q10, q1 18 (by decide), f2 18 (by decide) (by decide) (by decide)], fun z q a => by rw [q11 z, q1 q (by omega), f2 q (by omega) (by omega) (by omega)], q6, q5, by rw [q7 0 (by decide), q1 0 (by decide), f2 0 (by decide) (by decide) (by decide)]⟩
/-- what was not FLUSHED is told of -/
theorem T1.hv {P : Pm} {g : Gh} {l n : Nat} {S T : SS} {Zs : Nat → List Mg} {t : Int32} (hr : RG P g l S) (h : T1 P g l S T Zs) (hn : n < P.nn) (ht : ¬ t < 0) (hp : pnd (dN S n) t) : ∃ y ∈ T.2.2.1, isHW g.ep l n t y := by
  obtain ⟨Zm, Za, h1, _⟩ := h
  obtain ⟨D1, Zf, ⟨f1, f2, f3, f4⟩, q⟩ := h1.1 n (Nat.zero_le _) (by omega)
  have hN := hr.nu hn
  have f4 : (dN S n 1 4 = 0 ∧ D1 = dN S n ∧ Zf = []) ∨ (¬ dN S n 1 4 = 0 ∧ ∃ z, Zf = [z] ∧ isHV P.nn (nI n) P.f (dN S n) z ∧ (∀ i, i < (z.1 7).toNatClampNeg → ∃ s, s < 280 ∧ z.2 i = dN S n 6 s ∧ ¬ dN S n 6 s < 0 ∧ ¬ dN S n 5 s = -1) ∧ ∀ s, s < 280 → ¬ dN S n 6 s < 0 → ¬ dN S n 5 s = -1 → hvT z (dN S n 6 s)) := f4
  rcases f4 with ⟨c, _⟩ | ⟨_, z, z1, z2, _, z4⟩
  · exact absurd hp (hN.du.np c)
  · obtain ⟨s, s1, s2, s3⟩ := hp
    have hz := z4 s s1 (by rw [s2]; exact ht) s3
    rw [s2] at hz
    have hzZ : z ∈ Zs n := by
      rcases q with ⟨_, _, _, q⟩ | ⟨_, D2, Zw, _, _, _, q, _⟩
      · rw [q, z1]; exact List.mem_cons_self
      · rw [q, z1]; exact List.mem_cons_self
    obtain ⟨y, y1, y2⟩ := h1.2.2.1 n (Nat.zero_le _) (by omega) z hzZ
    obtain ⟨v0, v1, v2, v3, _⟩ := z2.v
    refine ⟨y, y1, isHW.sm y2 ⟨v0, v1, ?_, by rw [v3]; exact hN.ep.1, hz⟩⟩
    rw [v2]
    have : dN S n 0 8 = g.mp g.ep := hN.ep.2.2.1
    rw [this]
    exact lds_nof hr.2.2.1
/-- what the leader posts, and what else is under way -/
theorem T1.wz {P : Pm} {g : Gh} {l : Nat} {S T : SS} {Zs : Nat → List Mg} (hl : l < P.nn) (h : T1 P g l S T Zs) : ∃ (D1 D2 : Nat → Nat → Int32) (Zw : List Mg), (∀ q, q ≠ 1 → q ≠ 2 → q ≠ 5 → D1 q = dN S l q) ∧ WZ P (nI l) D1 (kN S l) D2 Zw ∧ (∀ q, q < 18 → dN T l q = D2 q) ∧ (∀ z ∈ Zw, ∃ y ∈ T.2.2.1, smM y z) ∧ ∀ y ∈ T.2.2.1, y.1 0 = 0 ∨ y.1 0 = 2 ∨ y.1 0 = 11 ∨ ∃ z ∈ Zw, smM y z := by
  obtain ⟨Zm, Za, h1, h2, h3, h4, _⟩ := h
  obtain ⟨D1, Zf, ⟨f1, f2, f3, f4⟩, q⟩ := h1.1 l (Nat.zero_le _) (by omega)
  rcases q with ⟨q, _⟩ | ⟨_, D2, Zw, q1, q2, q3, q4, q5, q6, q7, q8, q9, q10, q11⟩
  · exact absurd rfl q
  · have hzf : ∀ n D D1 Zf, FSH P n D D1 Zf → ∀ z ∈ Zf, z.1 0 = 11 := fun n D D1 Zf hf z hz => by
      rcases hf.2.2.2 with ⟨_, _, e⟩ | ⟨_, z', e, e2, _⟩
      · rw [e] at hz; cases hz
      · rw [e] at hz; rw [List.mem_singleton.mp hz]; exact e2.k11
    refine ⟨D1, D2, Zw, f2, q3, q7, fun z hz => h1.2.2.1 l (Nat.zero_le _) (by omega) z (by rw [q4]; exact List.mem_append_right _ hz), fun y hy => ?_⟩
    rcases h1.2.2.2.2.1 y hy with ⟨y', y1, y2⟩ | ⟨n, _, n2, z, z1, z2⟩
    · have y1 : y' ∈ Zm ++ Za := y1
      rcases List.mem_append.mp y1 with w | w
      · exact Or.inl (by rw [y2.1]; exact (h2 y' w).1)
      · exact Or.inr (Or.inl (by rw [y2.1]; exact (h4 y' w).1))
    · obtain ⟨D3, Zf3, g1, g2⟩ := h1.1 n (Nat.zero_le _) n2
      rcases g2 with ⟨_, _, _, e⟩ | ⟨e0, D4, Zw4, _, _, _, e, _⟩
      · rw [e] at z1
        exact Or.inr (Or.inr (Or.inl (by rw [z2.1]; exact hzf _ _ _ _ g1 z z1)))
      · subst e0
        rw [q4] at z1
        rcases List.mem_append.mp z1 with w | w
        · exact Or.inr (Or.inr (Or.inl (by rw [z2.1]; exact hzf _ _ _ _ ⟨f1, f2, f3, f4⟩ z w)))
        · exact Or.inr (Or.inr (Or.inr ⟨z, w, z2⟩))
theorem mSE_0 (nn : Nat) (me : Int32) (D : Nat → Nat → Int32) (a n : Nat) : (mSE nn me D a n).1 0 = 9 := (mSE_v nn me D a n).1
/-- kinds of what the leader posts at a TICK -/
theorem WZ.kd {P : Pm} {me : Int32} {D D' : Nat → Nat → Int32} {K : Int64} {Z : List Mg} {z : Mg} (h : WZ P me D K D' Z) (hz : z ∈ Z) :
    (∃ j, j < P.nn ∧ bt (D 7 10) j = false ∧ ¬ (D 18 3 = 3 ∨ D 18 3 = 4) ∧ z = mLI me D j) ∨ (z.1 0 = 6 ∧ D 18 3 = 2 ∧ ∃ j, j < 6 ∧ ¬ ndB (D 18) j < 0 ∧ z.1 5 = tgA (D 11) (D 16) (ndB (D 18) j).toNatClampNeg) ∨ (∃ o j, (o < 8 ∧ D 18 3 = 3 ∨ o = 8 ∧ D 18 3 = 4) ∧ j < P.nn ∧ bt (msO P.gg D o) j = true ∧ z.1 = (mPU me D o j).1) ∨ (∃ a n, a < 961 ∧ n < P.nn ∧ unS P.gg D a ∧ ¬ D 17 a = 0 ∧ bt (mxA P.gg D a) n = true ∧ z.1 0 = 9 ∧ z.1 5 = tgA (D 11) (D 16) a ∧ z.1 6 = nI n ∧ D 18 3 ≤ 1) := by
  obtain ⟨D1, Zp, Zq, Zm, e, q1, q7, _, ⟨_, p5⟩, _, hq, hm⟩ := h
  have eb : ∀ o, msO P.gg D1 o = msO P.gg D o := fun o => by
    unfold msO
    rw [q1 21 (by decide), q1 15 (by decide), q1 16 (by decide), q1 8 (by decide), q1 11 (by decide), q1 17 (by decide)]
  have ep : ∀ o j, (mPU me D1 o j).1 = (mPU me D o j).1 := fun o j => by
    unfold mPU
    rw [q7 7 (by decide), q7 8 (by decide), q1 21 (by decide)]
  rw [e] at hz
  rcases List.mem_append.mp hz with y | y
  · exact Or.inl (p5 z y)
  · rcases List.mem_append.mp y with y | y
    · right
      rcases hq with ⟨s, _, m, _⟩ | ⟨s, _, m, _⟩ | ⟨s, _, m, _⟩ | ⟨_, _, _, s⟩
      · obtain ⟨j, j1, j2, w⟩ := m z y
        refine Or.inl ⟨by rw [w, mGE_0], by rw [← q1 18 (by decide)]; exact s, j, j1, by rw [← q1 18 (by decide)]; exact j2.1, ?_⟩
        rw [w]
        show va_up (mg 6 me (nI (oneO (D1 17 (ndB (D1 18) j).toNatClampNeg) P.nn P.nn (D1 7 13).toNatClampNeg)) (D1 7 7) (D1 7 8)) 5 (tgA (D1 11) (D1 16) (ndB (D1 18) j).toNatClampNeg) 5 = _
        rw [va_up_s, q1 11 (by decide), q1 16 (by decide), q1 18 (by decide)]
      · obtain ⟨o, j, o1, j1, b1, w⟩ := m z y
        exact Or.inr (Or.inl ⟨o, j, Or.inl ⟨o1, by rw [← q1 18 (by decide)]; exact s⟩, j1, by rw [← eb]; exact b1, by rw [w]; exact ep o j⟩)
      · obtain ⟨j, j1, b1, w⟩ := m z y
        exact Or.inr (Or.inl ⟨8, j, Or.inr ⟨rfl, by rw [← q1 18 (by decide)]; exact s⟩, j1, by rw [← eb]; exact b1, by rw [w]; exact ep 8 j⟩)
      · rw [s] at y; cases y
    · rcases hm with ⟨m, _⟩ | ⟨s1, _, _, ⟨_, m⟩, _⟩
      · rw [m] at y; cases y
      · obtain ⟨a, n, a1, n1, a2, a3, a4, a5⟩ := m z y
        obtain ⟨v0, _, _, _, v5, v6⟩ := mSE_v P.nn me D1 a n
        exact Or.inr (Or.inr (Or.inr ⟨a, n, a1, n1, a2, a3, a4, by rw [a5]; exact v0, by rw [a5, v5, q1 11 (by decide), q1 16 (by decide)], by rw [a5]; exact v6, s1⟩))
theorem mPU_5 (me : Int32) (D : Nat → Nat → Int32) (o j : Nat) : (mPU me D o j).1 5 = D 21 (o * 128 + 1) ∧ (mPU me D o j).1 2 = nI j := by
  unfold mPU
  refine ⟨?_, ?_⟩
  · show va_up (mg 10 me (nI j) (D 7 7) (D 7 8)) 5 (D 21 (o * 128 + 1)) 5 = _
    exact va_up_s _ _ _
  · show va_up (mg 10 me (nI j) (D 7 7) (D 7 8)) 5 (D 21 (o * 128 + 1)) 2 = _
    rw [va_up_n _ _ (by decide)]; rfl

/-! how far an OPERATION is: it never goes back -/
def pcA (s : Int32) : Nat := if s = 0 then 4 else if s = 1 then 4 else if s = 2 then 3 else if s = 3 then 2 else 1
def pcB (s : Int32) : Nat := if s = 0 then 4 else if s = 1 then 8 else if s = 2 then 7 else if s = 3 then 6 else 5
def pcd (D : Nat → Nat → Int32) (h0 : Nat) : Nat := if D 18 4 = nI h0 then pcA (D 18 3) else pcB (D 18 3)
theorem LO.s5 {P : Pm} {g : Gh} {e : Nat} {D : Nat → Nat → Int32} {K : Int64} (h : LO P g e D K) : D 18 3 = 0 ∨ D 18 3 = 1 ∨ D 18 3 = 2 ∨ D 18 3 = 3 ∨ D 18 3 = 4 := by
  rcases h.st with ⟨z, _⟩ | ⟨z, _⟩ | ⟨z, _⟩ | ⟨z, _⟩ | ⟨z, _⟩
  · exact Or.inl z
  · exact Or.inr (Or.inl z)
  · exact Or.inr (Or.inr (Or.inl z))
  · exact Or.inr (Or.inr (Or.inr (Or.inl z)))
  · exact Or.inr (Or.inr (Or.inr (Or.inr z)))
theorem pcA_le {s : Int32} (h : s = 0 ∨ s = 1 ∨ s = 2 ∨ s = 3 ∨ s = 4) : pcA s ≤ 4 := by
  rcases h with h | h | h | h | h <;> rw [h] <;> decide
theorem pc_mono {s s' : Int32} (h : s = 0 ∨ s = 1 ∨ s = 2 ∨ s = 3 ∨ s = 4) (h' : s' = 0 ∨ s' = 1 ∨ s' = 2 ∨ s' = 3 ∨ s' = 4) (hs : s' = 0 ∨ s ≤ s') (h0 : s = 0 → s' = 0) : pcB s' ≤ pcB s ∧ (pcA s' ≤ pcA s ∨ (s' = 0 ∧ 2 ≤ s)) := by
  rcases h with h | h | h | h | h <;> rcases h' with h' | h' | h' | h' | h' <;> subst h <;> subst h' <;> revert hs h0 <;> decide
/-- the state of things: something new, or told, or at most so far from it -/
def PCx (P : Pm) (l h0 c0 : Nat) (S0 : SS) (g : Gh) (S : SS) : Prop := pgT g (dN S0 l) (kN S0 l) (dN S l) (kN S l) ∨ dnO P h0 S ∨ (smT (dN S0 l) (kN S0 l) (dN S l) (kN S l) ∧ heN S = h0 ∧ pcd (dN S l) h0 ≤ c0)
/-- what a leader's hand-over does to it -/
theorem LDr.pc {P : Pm} {g : Gh} {l h0 : Nat} {x : Mg} {Z : List Mg} {S S' : SS} (hP : PmO P) (hl : l < P.nn) (h : RG P g l S) (hst : St1 P g l x Z S S') (hq : GQ P l S) (ha : AKs h0 S) (hh : heN S = h0) (e : LDr P g l x.1 x.2 (dN S l) (kN S l) (aN S l) (dN S' l) (kN S' l) (aN S' l) (tkl S.2.2.1 0) Z) : dnO P h0 S' ∨ pcd (dN S' l) h0 ≤ pcd (dN S l) h0 := by
  have hS := h.1
  have hG := hS.1.go
  have hb12 := SU.b12 hS.1
  have hnn := hP.nn
  have hL := h.lo hl
  have hm := hst.2.2.1
  have hs := hst.2.2.2.1
  obtain ⟨D1, Z6, Zt, Zp, _, _, hstp, hZ6, _, hL1, hF, _, _, _, _, _, hL'⟩ := e.g hG hb12 hP.gg hnn hL hm hs hq.1 (fun z k hk e => hq.2.2.1 x k hst.head (Or.inr z) hk e) (fun z k hk e => hq.2.2.2.1 x k hst.head z hk e)
  obtain ⟨t1, t2, t3, Zt', Zp', t4, t5⟩ := goon_t hG hP.gg hnn hL1 hF
  rcases hstp with ⟨s1, s2⟩ | ⟨c2, s0, s1, s2⟩
  · rw [s1] at t2 t3 t5
    rw [s2] at t1 t5
    obtain ⟨m1, m2⟩ := pc_mono hL.s5 hL'.s5 t2 t3
    unfold pcd
    rw [t1]
    by_cases c : dN S l 18 4 = nI h0
    · rw [if_pos c, if_pos c]
      rcases m2 with m2 | ⟨m2, m3⟩
      · exact Or.inr m2
      · left
        rcases t5 with ⟨_, t5⟩ | ⟨z, z1, z2, z3, z4, _⟩
        · exact absurd m2 (t5 m3)
        · have hZ : Z6 = [] := by
            rcases hZ6 with q | ⟨_, q, _⟩
            · exact q
            · exact absurd (Int32.le_trans m3 q) (by decide)
          obtain ⟨y, y1, y2⟩ := hst.new (z := z) (by
            rw [t4, hZ, z1]
            exact psl_old Zp' (psl_new (hst.lt h.2.1)))
          exact Or.inr ⟨y, y1, by rw [y2.1]; exact z2, by rw [y2.1]; exact z3, by rw [y2.1, z4]; exact c⟩
    · rw [if_neg c, if_neg c]
      exact Or.inr m1
  · right
    obtain ⟨o, o1, o2, o3⟩ := ha.2 x hst.head c2
    obtain ⟨o', ⟨_, _, p3⟩, p4, _⟩ := hm.ak c2
    obtain ⟨_, e2, e3, e4, _⟩ := h.he
    have : o' = o := nI_inj (by omega) (by omega) (p4.symm.trans o3)
    have ho : o = h0 := by omega
    have c' : dN S' l 18 4 = nI h0 := by rw [t1, s2, o3, ho]
    have : pcd (dN S' l) h0 ≤ 4 := by
      unfold pcd
      rw [if_pos c']
      exact pcA_le hL'.s5
    have : 4 ≤ pcd (dN S l) h0 := by
      unfold pcd
      rcases hL.s5 with q | q | q | q | q
      · rw [q]; split <;> decide
      · rw [q]; split <;> decide
      · rw [q] at s0; exact absurd s0 (by decide)
      · rw [q] at s0; exact absurd s0 (by decide)
      · rw [q] at s0; exact absurd s0 (by decide)
    omega
theorem PCx.st {P : Pm} {g g' : Gh} {l h0 c0 : Nat} {x : Mg} {Z : List Mg} {S0 S S' : SS} (hP : PmO P) (hl : l < P.nn) (h : RG P g l S) (hst : St1 P g l x Z S S') (hgs : Gs g g') (h' : RG P g' l S') (hq : GQ P l S) (ha : AKs h0 S) (hi : PCx P l h0 c0 S0 g S) : PCx P l h0 c0 S0 g' S' := by
  have lm := hst.lm hP hl h
  rcases hi with hi | hi | ⟨i1, i2, i3⟩
  · left
    apply pgT.gs hgs
    rcases lm with lm | lm
    · exact hi.sm (Or.inl lm)
    · exact hi.tr lm
  · exact Or.inr (Or.inl (hi.st hP hl h hst h' ha.1))
  · rcases lm with lm | lm
    case inr => exact Or.inl ((i1.pg lm).gs hgs)
    obtain ⟨a1, a2, a3, a4, _⟩ := hst.he hP hl h h'
    have key : (dnO P h0 S' ∨ pcd (dN S' l) h0 ≤ pcd (dN S l) h0) → PCx P l h0 c0 S0 g' S' := fun z => by
      rcases z with z | z
      · exact Or.inr (Or.inl z)
      · rcases Nat.lt_or_ge h0 (heN S') with q | q
        · exact Or.inr (Or.inl (Or.inl q))
        · exact Or.inr (Or.inr ⟨i1.tr lm, by omega, by omega⟩)
    apply key
    rcases hst.cs hP.nn hl with ⟨_, e, _⟩ | ⟨j, _, _, _, _, _, _, _, _, e3, _⟩ | ⟨_, _, _, _, _, e⟩ | ⟨_, _, _, _, _, e, _⟩
    · right
      unfold pcd
      show (if S'.2.2.2.1 l 18 4 = nI h0 then pcA (S'.2.2.2.1 l 18 3) else pcB (S'.2.2.2.1 l 18 3)) ≤ _
      rw [e]; exact Nat.le_refl _
    · right
      unfold pcd
      rw [e3 l 18 (by omega)]; exact Nat.le_refl _
    · exact e.pc hP hl h hst hq ha i2
    · right
      unfold pcd
      show (if S'.2.2.2.1 l 18 4 = nI h0 then pcA (S'.2.2.2.1 l 18 3) else pcB (S'.2.2.2.1 l 18 3)) ≤ _
      rw [e]; exact Nat.le_refl _
/-- behind a TICK: ASKS -/
theorem T1.ak {P : Pm} {g : Gh} {l : Nat} {S T : SS} {Zs : Nat → List Mg} (hl : l < P.nn) (hnn : P.nn ≤ 6) (h : RG P g l S) (ht : T1 P g l S T Zs) : AKs (heN S) T ∧ (¬ heN S = g.bg → ∃ y ∈ T.2.2.1, y.1 0 = 2 ∧ y.1 2 = nI l ∧ y.1 5 = nI (heN S)) := by
  obtain ⟨e1, e2, e3, e4, e5, e6, e7, e8, e9, _⟩ := h.he
  obtain ⟨E1, E2⟩ := ht.e
  obtain ⟨D1, D2, Zw, f2, wz, _, _, wk⟩ := ht.wz hl
  obtain ⟨Zm, Za, h1, h2, h3, h4, h5, h6⟩ := ht
  have hnof : nof P.f 0 (S.1 4 14) P.nn 0 0 = nI l := by rw [e9]; exact lds_nof h.2.2.1
  have hZa : ∀ z ∈ Za, ¬ heN S = g.bg ∧ z.1 2 = nI l ∧ z.1 5 = nI (heN S) := fun z hz => by
    by_cases c : S.1 4 9 = S.1 4 8
    · rw [h5 c] at hz; cases hz
    · obtain ⟨bm, q⟩ := h6 c (by rw [hnof]; exact nI_pos (by omega))
      rw [q] at hz
      rw [List.mem_singleton.mp hz]
      refine ⟨fun w => c (by rw [e1, e5, w]), ?_, ?_⟩
      · rw [(askM_v _ _ _ _ _ _ _ _).1]; exact hnof
      · rw [(askM_v _ _ _ _ _ _ _ _).2]; exact e1
  refine ⟨⟨by unfold heN; rw [E1]; exact Nat.le_refl _, fun y hy hk => ?_⟩, fun hne => ?_⟩
  · rcases h1.2.2.2.2.1 y hy with ⟨y', y1, y2⟩ | ⟨n, _, n2, z, z1, z2⟩
    · have y1 : y' ∈ Zm ++ Za := y1
      rcases List.mem_append.mp y1 with w | w
      · rw [y2.1, (h2 y' w).1] at hk; exact absurd hk (by decide)
      · obtain ⟨q1, _, q3⟩ := hZa y' w
        exact ⟨heN S, Nat.le_refl _, by omega, by rw [y2.1]; exact q3⟩
    · exfalso
      rw [z2.1] at hk
      obtain ⟨D3, Zf3, g1, g2⟩ := h1.1 n (Nat.zero_le _) n2
      have hzf : ∀ z ∈ Zf3, z.1 0 = 11 := fun z hz => by
        rcases g1.2.2.2 with ⟨_, _, e⟩ | ⟨_, z', e, e2, _⟩
        · rw [e] at hz; cases hz
        · rw [e] at hz; rw [List.mem_singleton.mp hz]; exact e2.k11
      rcases g2 with ⟨_, _, _, e⟩ | ⟨_, D4, Zw4, _, _, w4, e, _⟩
      · rw [e] at z1
        rw [hzf z z1] at hk; exact absurd hk (by decide)
      · rw [e] at z1
        rcases List.mem_append.mp z1 with w | w
        · rw [hzf z w] at hk; exact absurd hk (by decide)
        · rcases w4.kd w with ⟨j, _, _, _, q⟩ | ⟨q, _⟩ | ⟨o, j, _, _, _, q⟩ | ⟨a, m, _, _, _, _, _, q, _⟩
          · rw [q] at hk; exact absurd hk (show ¬ (4 : Int32) = 2 by decide)
          · rw [q] at hk; exact absurd hk (by decide)
          · rw [q, mPU_0] at hk; exact absurd hk (by decide)
          · rw [q] at hk; exact absurd hk (by decide)
  · obtain ⟨bm, q⟩ := h6 (fun c => hne (nI_inj (by omega) (by omega) (by rw [← e1, ← e5]; exact c))) (by rw [hnof]; exact nI_pos (by omega))
    obtain ⟨y, y1, y2⟩ := h1.2.2.2.1 _ (show _ ∈ Zm ++ Za by rw [q]; exact List.mem_append_right _ List.mem_cons_self)
    refine ⟨y, y1, ?_, ?_, ?_⟩
    · rw [y2.1]
      exact (h4 _ (by rw [q]; exact List.mem_cons_self)).1
    · rw [y2.1, (askM_v _ _ _ _ _ _ _ _).1]; exact hnof
    · rw [y2.1, (askM_v _ _ _ _ _ _ _ _).2]; exact e1
/-- behind a TICK: calm -/
theorem T1.gq {P : Pm} {g : Gh} {l : Nat} {S T : SS} {Zs : Nat → List Mg} (hP : PmO P) (hl : l < P.nn) (h : RG P g l S) (ht : T1 P g l S T Zs) (hkn : ¬ knA (kN S l) (dN S l 10 9) = 0) (hq : (dN S l 18 3 = 3 ∨ dN S l 18 3 = 4) ∨ ∀ n k, n < P.nn → k < 5243392 → mem (dN S n) (nI k) → ¬ nwO (dN S l 16 960) (nI k)) : GQ P l T := by
  have hL := h.lo hl
  have hG := h.1.1.go
  have hnn := hP.nn
  obtain ⟨e1, _, _, _, _, _, eK, _⟩ := ht.ld hl
  have e16 : dN T l 16 960 = dN S l 16 960 := by rw [e1 16 (by decide) (by decide)]
  obtain ⟨D1, D2, Zw, f2, wz, _, _, wk⟩ := ht.wz hl
  refine ⟨by rw [eK, e1 10 (by decide) (by decide)]; exact hkn, (ht.pn hP hl h).1, fun y k hy hk hk5 h5 => ?_, fun y k hy hk hk5 h5 => ?_, fun y n k hy hk hn h2 hk5 hmm => ?_⟩
  · rw [e16]
    rcases wk y hy with q | q | q | ⟨z, z1, z2⟩
    · rw [q] at hk; rcases hk with w | w <;> exact absurd w (by decide)
    · rw [q] at hk; rcases hk with w | w <;> exact absurd w (by decide)
    · rw [q] at hk; rcases hk with w | w <;> exact absurd w (by decide)
    · rw [z2.1] at hk h5
      rcases wz.kd z1 with ⟨j, _, _, _, q⟩ | ⟨_, s2, j, j1, j2, j3⟩ | ⟨o, j, _, _, _, q⟩ | ⟨a, m, _, _, _, _, _, q, _⟩
      · rw [q] at hk
        rcases hk with w | w
        · exact absurd w (show ¬ (4 : Int32) = 6 by decide)
        · exact absurd w (show ¬ (4 : Int32) = 7 by decide)
      · rw [f2 18 (by decide) (by decide) (by decide)] at s2 j2 j3
        rw [f2 11 (by decide) (by decide) (by decide), f2 16 (by decide) (by decide) (by decide)] at j3
        rcases hL.st with ⟨z, _⟩ | ⟨z, _⟩ | ⟨_, o, _, zo, _⟩ | ⟨z, _⟩ | ⟨z, _⟩
        · rw [s2] at z; exact absurd z (by decide)
        · rw [s2] at z; exact absurd z (by decide)
        · obtain ⟨a, a1, a2, a3, _⟩ := FE.nd zo (show j < 32 by omega) j2
          rw [a2, nI_clamp (by omega), h5] at j3
          obtain ⟨k', k1, k2, k3, _⟩ := hL.tgf hG hP.gg a1 a3
          have : k' = k := nI_inj (by omega) (by omega) (k2.symm.trans j3.symm)
          subst this
          exact fnd_nw hP.gg hL hk5 (by rw [k3]; exact nIneg (by omega))
        · rw [s2] at z; exact absurd z (by decide)
        · rw [s2] at z; exact absurd z (by decide)
      · rw [q, mPU_0] at hk; rcases hk with w | w <;> exact absurd w (by decide)
      · rw [q] at hk; rcases hk with w | w <;> exact absurd w (by decide)
  · exfalso
    rcases wk y hy with q | q | q | ⟨z, z1, z2⟩
    · rw [q] at hk; exact absurd hk (by decide)
    · rw [q] at hk; exact absurd hk (by decide)
    · rw [q] at hk; exact absurd hk (by decide)
    · rw [z2.1] at hk
      rcases wz.kd z1 with ⟨j, _, _, _, q⟩ | ⟨q, _⟩ | ⟨o, j, _, _, _, q⟩ | ⟨a, m, _, _, _, _, _, q, _⟩
      · rw [q] at hk; exact absurd hk (show ¬ (4 : Int32) = 5 by decide)
      · rw [q] at hk; exact absurd hk (by decide)
      · rw [q, mPU_0] at hk; exact absurd hk (by decide)
      · rw [q] at hk; exact absurd hk (by decide)
  · rw [e16]
    rcases hq with hq | hq
    · exfalso
      rcases wk y hy with q | q | q | ⟨z, z1, z2⟩
      · rw [q] at hk; exact absurd hk (by decide)
      · rw [q] at hk; exact absurd hk (by decide)
      · rw [q] at hk; exact absurd hk (by decide)
      · rw [z2.1] at hk
        rcases wz.kd z1 with ⟨j, _, _, q3, _⟩ | ⟨q, _⟩ | ⟨o, j, _, _, _, q⟩ | ⟨a, m, _, _, _, _, _, q, _⟩
        · rw [f2 18 (by decide) (by decide) (by decide)] at q3
          exact q3 hq
        · rw [q] at hk; exact absurd hk (by decide)
        · rw [q, mPU_0] at hk; exact absurd hk (by decide)
        · rw [q] at hk; exact absurd hk (by decide)
    · exact hq n k hn hk5 ((ht.st hn).2.1.mp hmm)

/-! hand-overs of settle keep what is known of clean NODES -/
theorem CL1.gs {P : Pm} {g g' : Gh} {S : SS} (h : Gs g g') (hc : CL1 P g S) : CL1 P g' S := fun i x n a b c => by
  rw [h.ep] at c ⊢
  obtain ⟨d1, d2⟩ := hc i x n a b c
  refine ⟨d1, fun z => ?_⟩
  obtain ⟨e1, e2, e3⟩ := d2 z
  exact ⟨e1, e2, fun k hk hp => by rw [msk_gs h]; exact e3 k hk hp⟩
theorem CL2.gs {P : Pm} {g g' : Gh} {l : Nat} {S : SS} (h : Gs g g') (hc : CL2 P g l S) : CL2 P g' l S := fun a b n c d => by
  rw [h.ep] at a ⊢
  obtain ⟨e1, e2, e3⟩ := hc a b n c d
  exact ⟨e1, fun k hk hp => by rw [msk_gs h]; exact e2 k hk hp, fun k hk hp => by rw [msk_gs h]; exact e3 k hk hp⟩
theorem CL3.gs {P : Pm} {g g' : Gh} {l : Nat} {S : SS} (h : Gs g g') (hc : CL3 P g l S) : CL3 P g' l S := fun n a b j c => by
  rw [h.ep] at b ⊢
  exact hc n a b j c
theorem SU.np {P : Pm} {g : Gh} {S : SS} (h : SU P g S) : ∀ n, n < P.nn → S.2.2.2.1 n 1 4 = 0 → ∀ t, ¬ pnd (S.2.2.2.1 n) t := fun n hn h0 t => by
  rcases h.1.nd n hn with ⟨y, _⟩ | ⟨_, e, hN⟩
  · exact absurd y (h.2.1 n hn)
  · exact hN.du.np h0
/-- a NODE that is UP, at its EPOCH -/
theorem SU.nu {P : Pm} {g : Gh} {S : SS} (h : SU P g S) {n : Nat} (hn : n < P.nn) : NU P g n (eN S n) (S.2.2.2.1 n) (S.2.2.2.2.1 n) := by
  rcases h.1.nd n hn with ⟨y, _⟩ | ⟨_, e, hN⟩
  · exact absurd y (h.2.1 n hn)
  · have : eN S n = e := by unfold eN; rw [hN.ep.1, nI_clamp (by have := hN.ep.2.1; have := h.1.ep.1; omega)]
    rw [this]; exact hN
theorem tkl_len {l : List Mg} {x : Mg} (h : l[0]? = some x) : (tkl l 0).length + 1 = l.length := (tkl_perm h).length_eq
theorem th_F {P : Pm} {g g' : Gh} {l : Nat} {S S' : SS} (hP : PmO P) (h : SU P g S) (hlen : S.2.2.1.length ≤ 128) (hl : l < P.nn) (hld : lds P g l g.ep) (hr : thR P.nn P.gg P.C P.f S S') (hg' : Gs g g') (h' : SU P g' S') : ∃ x0, S.2.2.1[0]? = some x0 ∧ HFx P g l x0 (tkl S.2.2.1 0) S S' ∧ S'.2.2.1.length ≤ 128 := by
  obtain ⟨x0, S1, r1, r2⟩ := hr
  have hnn := hP.nn
  have hS1 : S1 = (S.1, S.2.1, tkl S.2.2.1 0, S.2.2.2) := r1.2
  obtain ⟨a1, ⟨e2, a2⟩, _⟩ := h.1.take r1.tkM
  have hl1 : S1.2.2.1.length < 128 := by
    rw [hS1]
    have := tkl_len r1.1
    show (tkl S.2.2.1 0).length < 128
    omega
  have hMx : MS P g x0 := h.2.2 x0 (List.mem_of_getElem? r1.1)
  have conv : HFx P g l x0 S1.2.2.1 S1 S' → HFx P g l x0 (tkl S.2.2.1 0) S S' := fun hf => by rw [hS1] at hf; exact hf
  refine ⟨x0, r1.1, ?_⟩
  rcases r2 with ⟨z0, z⟩ | ⟨j, j1, j2, j3, j4⟩ | ⟨z0, z1, z⟩
  · have hno : ∀ n, n < P.nn → ¬ x0.1 2 = nI n := fun n hn q => by
      have := nI_inj (by omega) (by omega) (z0.symm.trans q)
      omega
    rcases z with ⟨_, z⟩ | ⟨_, _, z⟩ | ⟨_, _, ms', z, zr⟩
    · exact ⟨conv (HFx.rf (by rw [z]) ⟨[], by rw [z]; rfl, fun z hz => by cases hz⟩ hno hl), by rw [z]; exact Nat.le_of_lt hl1⟩
    · exact ⟨conv (HFx.rf (by rw [z]) ⟨[], by rw [z]; rfl, fun z hz => by cases hz⟩ hno hl), by rw [z]; exact Nat.le_of_lt hl1⟩
    · have hms : S'.2.2.1 = ms' := by rw [z]
      have hD : S'.2.2.2 = S1.2.2.2 := by rw [z]
      rcases zr with ⟨_, q⟩ | ⟨_, _, bm, q⟩
      · exact ⟨conv (HFx.rf hD ⟨[], by rw [hms, q]; rfl, fun z hz => by cases hz⟩ hno hl), by rw [hms, q]; exact Nat.le_of_lt hl1⟩
      · have e : S'.2.2.1 = psl S1.2.2.1 [askM P.nn (nof P.f 0 (S'.1 4 14) P.nn 0 0) (S'.1 4 9) (S'.1 4 12) (S'.1 4 13) (S'.1 4 14) (S'.2.1 ((S'.1 4 9).toNatClampNeg % 24)) bm] := by rw [hms, q]; rfl
        refine ⟨conv (HFx.rf hD ⟨_, e, fun z hz => ?_⟩ hno hl), by rw [e]; exact psl_le _ (Nat.le_of_lt hl1)⟩
        rw [List.mem_singleton.mp hz, askM_0]
        exact ⟨by decide, by decide⟩
  · refine ⟨conv (hand_xn hP a1 j3 a2 hMx hl1 hl hld j1 j2 hg' (fun he => ?_) j4), ?_⟩
    · have hN := h'.nu hl
      rw [he] at hN
      refine ⟨_, hN.ld ?_⟩
      rw [hN.ep.2.2.1, hg'.mp]
      exact hld
    · obtain ⟨ms', m1, m2⟩ := j4
      rcases a1.nd j j1 with ⟨y, _⟩ | ⟨_, e, hN⟩
      · exact absurd y j3
      obtain ⟨D', K', A', Z, r1', _, _⟩ := hear_y (A := S1.2.2.2.2.2 j) (Y := S1.2.2.1) a1.go (SU.b12 a1) (by have := a1.ep.1; omega) hP.gg hP.nn hP.f j1 hN a2 hMx
      rw [r1'] at m1 m2
      have : S'.2.2.1 = ms' := by rw [m2]
      rw [this, smL.len m1]
      exact psl_le Z (Nat.le_of_lt hl1)
  · have hno : ∀ n, n < P.nn → ¬ x0.1 2 = nI n := fun n hn q => by
      have := z1 n hn q
      rw [hS1] at this
      exact h.2.1 n hn this
    exact ⟨conv (HFx.rf (by rw [z]) ⟨[], by rw [z]; rfl, fun z hz => by cases hz⟩ hno hl), by rw [z]; exact Nat.le_of_lt hl1⟩
/-- NODE j is at ep, or will be -/
def obE (g : Gh) (j : Nat) (S : SS) : Prop := eN S j = g.ep ∨ ∃ x, x ∈ S.2.2.1 ∧ x.1 2 = nI j ∧ x.1 3 = nI g.ep
theorem HFx.ob {P : Pm} {g : Gh} {l j : Nat} {x0 : Mg} {S S' : SS} (hj : j < P.nn) (hx : S.2.2.1[0]? = some x0) (hf : HFx P g l x0 (tkl S.2.2.1 0) S S') (h : obE g j S) : obE g j S' := by
  obtain ⟨f1, _, _, _, _, _, f7, f8⟩ := hf
  rcases h with h | ⟨x, q1, q2, q3⟩
  · exact Or.inl (f1 j hj h)
  · rcases List.mem_cons.mp ((tkl_perm hx).mem_iff.mpr q1) with e | e
    · rw [e] at q2 q3; exact Or.inl (f8 j hj q2 q3)
    · obtain ⟨y, y1, y2⟩ := f7 x e
      exact Or.inr ⟨y, y1, by rw [y2.1]; exact q2, by rw [y2.1]; exact q3⟩
theorem obE.gs {g g' : Gh} {j : Nat} {S : SS} (h : Gs g g') (ho : obE g j S) : obE g' j S := by unfold obE; rw [h.ep]; exact ho
/-- so many hand-overs -/
theorem it_C {P : Pm} {ip : Nat → Prop} {l : Nat} (hP : PmO P) (hl : l < P.nn) : ∀ (k : Nat) {g : Gh} {S S' : SS}, SU P g S → S.2.2.1.length ≤ 128 → lds P g l g.ep → (∀ x ∈ S.2.2.1, ip (epM x)) → ip g.ep → CL1 P g S → CL2 P g l S → itR (thR P.nn P.gg P.C P.f) k S S' → ∃ g', Gs g g' ∧ SU P g' S' ∧ S'.2.2.1.length ≤ 128 ∧ (∀ x ∈ S'.2.2.1, ip (epM x)) ∧ CL1 P g' S' ∧ CL2 P g' l S' ∧ (CL3 P g l S → CL3 P g' l S') ∧ (∀ j, j < P.nn → obE g j S → obE g' j S') ∧ Vs P g' ip S' + k ≤ Vs P g ip S ∧ S'.1 100 = S.1 100
  | 0, g, S, S', h, hlen, _, hi, _, h1, h2, hr => by
    have hr : S' = S := hr
    rw [hr]; exact ⟨g, Gs.rf g, h, hlen, hi, h1, h2, fun z => z, fun _ _ z => z, Nat.le_refl _, rfl⟩
  | k + 1, g, S, S', h, hlen, hld, hi, hie, h1, h2, hr => by
    obtain ⟨S1, r1, r2⟩ := hr
    obtain ⟨g1, a1, a2, a3, a4, a5, a6, a7, a10, a8, a9⟩ := it_C hP hl k h hlen hld hi hie h1 h2 r1
    obtain ⟨g2, b1, b2, b3, b4, b5⟩ := th_V hP a2 a4 (by rw [a1.ep]; exact hie) r2
    have hld1 : lds P g1 l g1.ep := by rw [lds_gs a1, a1.ep]; exact hld
    obtain ⟨x0, c1, c2, c3⟩ := th_F hP a2 a3 hl hld1 r2 b1 b2
    obtain ⟨d1, d2⟩ := CL_stepA hl a2.np b2.np c1 c2 a5 a6
    refine ⟨g2, a1.tr b1, b2, c3, b3, d1.gs b1, d2.gs b1, fun z => (CL_step hl a2.np b2.np c1 c2 a5 a6 (a7 z)).gs b1, fun j hj z => ((HFx.ob hj c1 c2 (a10 j hj z))).gs b1, by omega, by rw [b5, a9]⟩
/-- a drain -/
theorem dr_C {P : Pm} {g : Gh} {l : Nat} {S S' : SS} (hP : PmO P) (hl : l < P.nn) (h : SU P g S) (hlen : S.2.2.1.length ≤ 128) (hld : lds P g l g.ep) (h1 : CL1 P g S) (h2 : CL2 P g l S) (hr : drR P.nn P.gg P.C P.f S S') : S'.2.2.1 = [] ∧ ∃ g', Gs g g' ∧ SU P g' S' ∧ CL2 P g' l S' ∧ (CL3 P g l S → CL3 P g' l S') ∧ (∀ j, j < P.nn → obE g j S → eN S' j = g.ep) ∧ S'.1 100 = S.1 100 := by
  obtain ⟨k, k1, k2, k3⟩ := hr
  obtain ⟨g', a1, a2, _, _, _, a6, a7, a10, a8, a9⟩ := it_C (ip := ipS g S) hP hl k h hlen hld (fun x hx => Or.inl ⟨x, hx, rfl⟩) (Or.inr rfl) h1 h2 k2
  have := Vs_lt hP.nn h.1 hlen
  have hnil : S'.2.2.1 = [] := by
    rcases k3 with q | q
    · omega
    · exact q
  refine ⟨hnil, g', a1, a2, a6, a7, fun j hj z => ?_, a9⟩
  rcases a10 j hj z with y | ⟨x, y, _⟩
  · rw [y, a1.ep]
  · rw [hnil] at y; cases y

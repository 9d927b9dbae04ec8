/-! settle begins -/
/-- while the NODES that are DOWN are started (those before i are UP) -/
def WKI (P : Pm) (g : Gh) (l i : Nat) (S : SS) : Prop :=
  (∀ j, j < i → ¬ S.2.2.2.1 j 0 6 = 0) ∧ (∀ x ∈ S.2.2.1, ¬ (x.1 0 = 5 ∧ x.1 3 = nI g.ep)) ∧
  (∀ n, n < P.nn → (∃ x, x ∈ S.2.2.1 ∧ isLI g.ep n x) → ∀ j, j < n → ∃ x, x ∈ S.2.2.1 ∧ isLI g.ep j x) ∧
  (¬ S.2.2.2.1 l 0 6 = 0 → eN S l = g.ep → S.2.2.2.1 l 7 10 = 0) ∧
  (S.2.2.2.1 l 0 6 = 0 → ∀ x ∈ S.2.2.1, ¬ (x.1 0 = 4 ∧ x.1 3 = nI g.ep))
theorem mLI_v (me : Int32) (D : Nat → Nat → Int32) (j : Nat) : (mLI me D j).1 0 = 4 ∧ (mLI me D j).1 2 = nI j ∧ (mLI me D j).1 3 = D 7 7 := ⟨rfl, rfl, rfl⟩
theorem lds_1 {P : Pm} {g : Gh} {l i e : Nat} (hl : l < 2 ^ 31) (hi : i < 2 ^ 31) (h : lds P g l e) (h2 : ¬ ldB P.f P.nn (nI i) (g.mp e) = 0) : i = l := by
  unfold lds ldB at h
  unfold ldB at h2
  by_cases c : nof P.f 0 (g.mp e) P.nn 0 0 = nI l
  · by_cases d : nof P.f 0 (g.mp e) P.nn 0 0 = nI i
    · exact nI_inj hi hl (d.symm.trans c)
    · rw [if_neg d] at h2; exact absurd rfl h2
  · rw [if_neg c] at h; exact absurd rfl h
theorem wk_I {P : Pm} {l : Nat} (hnn : P.nn ≤ 6) (hl : l < P.nn) : ∀ (k i : Nat) {g : Gh} {S S' : SS}, i + k ≤ P.nn → GI P g S → S.2.2.1.length ≤ 128 → lds P g l g.ep → WKI P g l i S → wkR P.nn P.gg P.C P.f k i S S' → WKI P g l (i + k) S'
  | 0, i, g, S, S', _, h, _, _, hw, hr => by
    have hr : S' = S := hr
    rw [hr]; exact hw
  | k + 1, i, g, S, S', hi, h, hlen, hld, hw, hr => by
    obtain ⟨w1, w2, w3, w4, w5⟩ := hw
    rcases hr with ⟨r0, r⟩ | ⟨r0, u, b, S1, r1, r2⟩
    · have := wk_I hnn hl k (i + 1) (by omega) h hlen hld ⟨fun j hj => by
        rcases Nat.lt_or_ge j i with q | q
        · exact w1 j q
        · have : j = i := by omega
          rw [this]; exact r0, w2, w3, w4, w5⟩ r
      rw [show i + (k + 1) = i + 1 + k by omega]; exact this
    · have h1 := h.wake (by omega) r0 r1
      rw [show i + (k + 1) = i + 1 + k by omega]
      have hi5 : i < P.nn := by omega
      rcases h.nd i hi5 with ⟨_, e, y⟩ | ⟨y, _⟩
      rotate_left
      · exact absurd r0 y
      obtain ⟨he, ha⟩ := h.as
      have r1' := r1
      rw [ha.ep.1, ha.ep.2] at r1'
      obtain ⟨D1, D', K', A', Z, q1, q2, q3, q4, q5, _⟩ := wake_z (u := u) (b := b) (K := S.2.2.2.2.1 i) (A := S.2.2.2.2.2 i) (Y := S.2.2.1) hnn y h.ep.2
      obtain ⟨ms', m1, m2⟩ := r1'
      rw [q1] at m1 m2
      have hD : S1.2.2.2.1 = va_up S.2.2.2.1 i D' := by rw [m2]
      have hms : S1.2.2.1 = ms' := by rw [m2]
      have m1 : smL ms' (psl S.2.2.1 Z) := m1
      have hep := h.ep.1
      refine wk_I hnn hl k (i + 1) (by omega) h1 ?_ hld ⟨fun j hj => ?_, ?_⟩ r2
      · rw [hms, smL.len m1]; exact psl_le Z hlen
      · rw [hD]
        by_cases c : j = i
        · subst c; rw [va_up_s, q4]; decide
        · rw [va_up_n _ _ c]; exact w1 j (by omega)
      by_cases hil : ldB P.f P.nn (nI i) (g.mp g.ep) = 0
      · -- it doesn't lead
        have hZ : Z = [] := by
          rcases q2.2.2 with ⟨_, q⟩ | ⟨q, _⟩
          · exact q
          · exact absurd hil q
        have hne : l ≠ i := fun z => by
          rw [← z] at hil; exact hld hil
        rw [hZ] at m1
        have m1 : smL ms' S.2.2.1 := m1
        refine ⟨fun x hx => ?_, fun n hn hex j hj => ?_, ?_, ?_⟩
        · rw [hms] at hx
          obtain ⟨x', x1, x2⟩ := smL_mem m1 hx
          rw [x2.1]; exact w2 x' x1
        · obtain ⟨x, x1, x2⟩ := hex
          rw [hms] at x1
          obtain ⟨x', y1, y2⟩ := smL_mem m1 x1
          obtain ⟨z, z1, z2⟩ := w3 n hn ⟨x', y1, by unfold isLI at x2 ⊢; rw [← y2.1]; exact x2⟩ j hj
          obtain ⟨z', t1, t2⟩ := smL_mem2 m1 z1
          exact ⟨z', by rw [hms]; exact t1, by unfold isLI at z2 ⊢; rw [t2.1]; exact z2⟩
        · unfold eN; rw [hD, va_up_n _ _ hne]; exact w4
        · rw [hD, va_up_n _ _ hne]
          intro z x hx
          rw [hms] at hx
          obtain ⟨x', x1, x2⟩ := smL_mem m1 hx
          rw [x2.1]; exact w5 z x' x1
      · -- it is the leader
        have hil' : i = l := lds_1 (by omega) (by omega) hld hil
        subst hil'
        rcases q2.2.2 with ⟨q, _⟩ | ⟨_, _, _, t3, _, t5, t6, t7⟩
        · exact absurd q hil
        have hno := w5 r0
        have hD7 : ∀ z ∈ Z, ∃ j, j < P.nn ∧ isLI g.ep j z ∧ z = mLI (nI i) D' j := fun z hz => by
          obtain ⟨j, j1, j2, j3⟩ := t5 z hz
          exact ⟨j, j1, ⟨by rw [j2]; rfl, by rw [j2]; rfl, j3⟩, j2⟩
        refine ⟨fun x hx => ?_, fun n hn hex j hj => ?_, fun _ _ => by rw [hD, va_up_s]; exact t3, fun z => ?_⟩
        · rw [hms] at hx
          obtain ⟨x', x1, x2⟩ := smL_mem m1 hx
          rw [x2.1]
          rcases psl_in Z x1 with q | q
          · exact w2 x' q
          · obtain ⟨j, _, j2, _⟩ := hD7 x' q
            rw [j2.1]; exact fun z => absurd z.1 (by decide)
        · obtain ⟨x, x1, x2⟩ := hex
          rw [hms] at x1
          obtain ⟨p, p1⟩ := List.getElem?_of_mem x1
          obtain ⟨x', y1, y2⟩ := smL_get m1 p1
          have x2' : isLI g.ep n x' := by unfold isLI at x2 ⊢; rw [← y2.1]; exact x2
          have hp : S.2.2.1.length ≤ p := by
            rcases Nat.lt_or_ge p S.2.2.1.length with q | q
            · exfalso
              obtain ⟨W, e1, _⟩ := psl_pre Z S.2.2.1
              rw [e1, List.getElem?_append_left q] at y1
              exact hno x' (List.mem_of_getElem? y1) ⟨x2'.1, x2'.2.2⟩
            · exact q
          obtain ⟨z1, z2⟩ := psl_pos hlen hp y1
          obtain ⟨n', n1, n2, n3⟩ := hD7 x' (List.mem_of_getElem? z1)
          have : n' = n := nI_inj (by omega) (by omega) (n2.2.1.symm.trans x2'.2.1)
          subst this
          rw [n3] at z1
          rcases t7 _ n' hn z1 j hj with ⟨q, _⟩ | ⟨p', p1', p2'⟩
          · rw [t3, b_0] at q; cases q
          · have hin := psl_bef hlen z2 p1' p2'
            obtain ⟨y', u1, u2⟩ := smL_mem2 m1 hin
            obtain ⟨j', _, v2, v3⟩ := hD7 _ (List.mem_of_getElem? p2')
            refine ⟨y', by rw [hms]; exact u1, ?_⟩
            unfold isLI
            rw [u2.1]
            exact ⟨rfl, rfl, v2.2.2⟩
        · rw [hD, va_up_s, q4] at z; exact absurd z (by decide)
/-- where settle begins to hand over -/
theorem se_1 {P : Pm} {g : Gh} {S S1 : SS} {ms2 : List Mg} (hP : PmO P) (hn0 : 0 < P.nn) (h : GIX P g S) (hep : g.ep + 1 < 2 ^ 30) (z1 : tmR P.nn 0 (S.1 4 13 + 1) (allN P.nn) P.nn 0 S.2.2.1 ms2) (z2 : wkR P.nn P.gg P.C P.f P.nn 0 (drE (va_up S.1 100 (upd (S.1 100) 10 0)) (allN P.nn), S.2.1, ms2, S.2.2.2) S1) :
    GIX P (g.draw (allN P.nn) g.er) S1 ∧ S1.1 = drE (va_up S.1 100 (upd (S.1 100) 10 0)) (allN P.nn) ∧ ∃ l, l < P.nn ∧ lds P (g.draw (allN P.nn) g.er) l (g.draw (allN P.nn) g.er).ep ∧ SU P (g.draw (allN P.nn) g.er) S1 ∧ CL1 P (g.draw (allN P.nn) g.er) S1 ∧ CL2 P (g.draw (allN P.nn) g.er) l S1 ∧ CL3 P (g.draw (allN P.nn) g.er) l S1 := by
  have hnn := hP.nn
  have hle := g.draw_le (allN P.nn) g.er
  have h0 : GI P (g.draw (allN P.nn) g.er) (drE (va_up S.1 100 (upd (S.1 100) 10 0)) (allN P.nn), S.2.1, ms2, S.2.2.2) := h.1.map hep (fun x _ => by rw [va_up_n _ _ (by decide)]) z1
  obtain ⟨Z, y1, _, y3, _⟩ := tm_z P.nn 0 (by omega) z1
  have hx0 : SX P (g.draw (allN P.nn) g.er) (drE (va_up S.1 100 (upd (S.1 100) 10 0)) (allN P.nn), S.2.1, ms2, S.2.2.2) := (h.2.ms y1 (fun z hz => MS.k0 (y3 z hz).1)).mono hle
  obtain ⟨a1, a2⟩ := GIX.wk hnn P.nn 0 (by omega) ⟨h0, hx0⟩ z2
  obtain ⟨l, l1, _, l3⟩ := nof_all hP.f hn0 hnn
  have hmp : (g.draw (allN P.nn) g.er).mp (g.draw (allN P.nn) g.er).ep = allN P.nn := by
    show fup g.mp (g.ep + 1) (allN P.nn) (g.ep + 1) = _
    rw [fup_s]
  have hld : lds P (g.draw (allN P.nn) g.er) l (g.draw (allN P.nn) g.er).ep := by
    unfold lds ldB
    rw [hmp, if_pos l3]; decide
  have hE : (g.draw (allN P.nn) g.er).ep = g.ep + 1 := rfl
  have hold : ∀ x ∈ ms2, x.1 3 = nI (g.ep + 1) → x.1 0 = 0 := fun x hx e3 => by
    rw [y1] at hx
    rcases psl_in Z hx with q | q
    · obtain ⟨e, me⟩ := h.1.ms x q
      have m1 := me.ep.1
      have m2 := me.ep.2.1
      rw [m1] at e3
      have := nI_inj (by omega) (by omega) e3
      omega
    · exact (y3 x q).1
  have hw := wk_I hnn l1 P.nn 0 (by omega) h0 hx0.1 hld ⟨fun j hj => absurd hj (Nat.not_lt_zero _), fun x hx ⟨q1, q2⟩ => by
      rw [hE] at q2
      rw [hold x hx q2] at q1; exact absurd q1 (by decide), fun n hn ⟨x, x1, x2⟩ => by
      have := x2.2.2
      rw [hE] at this
      have q := hold x x1 this
      rw [x2.1] at q; exact absurd q (by decide), fun u1 u2 => by
      exfalso
      rcases h.1.nd l l1 with ⟨y, _⟩ | ⟨_, e, y⟩
      · exact u1 y
      · have e1 := y.ep.1
        have e2 := y.ep.2.1
        rw [hE] at u2
        unfold eN at u2
        have u2 : (S.2.2.2.1 l 0 7).toNatClampNeg = g.ep + 1 := u2
        rw [e1, nI_clamp (by omega)] at u2
        omega, fun _ x hx ⟨q1, q2⟩ => by
      rw [hE] at q2
      rw [hold x hx q2] at q1; exact absurd q1 (by decide)⟩ z2
  rw [Nat.zero_add] at hw
  obtain ⟨w1, w2, w3, w4, w5⟩ := hw
  refine ⟨a1, a2, l, l1, hld, ⟨a1.1, w1, a1.2.2.1⟩, fun i x n hx hn hls => ?_, fun he hs n hn hb => ?_, fun n hn hor j hj => ?_⟩
  · exact absurd ⟨hls.1, hls.2.2⟩ (w2 x (List.mem_of_getElem? hx))
  · rw [w4 (w1 l l1) he, b_0] at hb; cases hb
  · rcases hor with q | ⟨x, q1, q2⟩ | ⟨q1, _, q3⟩
    · exact Or.inr (w3 n hn q j hj)
    · exact absurd ⟨q2.1, q2.2.2⟩ (w2 x q1)
    · rw [w4 (w1 l l1) q1, b_0] at q3; cases q3

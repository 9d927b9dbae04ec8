/-! NODES tell the ANSWER alone -/
theorem TLx.k {g : Gh} {x : Mg} (h : ¬ x.1 0 = 3) : TLx g x := fun z => absurd z h
/-- what is new under way says what it must -/
def TLn (g : Gh) (Y Y' : List Mg) : Prop := ∀ x, x ∈ Y' → x ∈ Y ∨ TLx g x
theorem TLn.psl {g : Gh} {Y Z : List Mg} (h : ∀ z ∈ Z, TLx g z) : TLn g Y (psl Y Z) := fun x hx => by
  rcases psl_in Z hx with q | q
  · exact Or.inl q
  · exact Or.inr (h x q)
theorem TLn.tr {g : Gh} {Y Y1 Y2 : List Mg} (h1 : TLn g Y Y1) (h2 : TLn g Y1 Y2) : TLn g Y Y2 := fun x hx => by
  rcases h2 x hx with q | q
  · exact h1 x q
  · exact Or.inr q
theorem RDl.c {g : Gh} {D D' : Nat → Nat → Int32} (h : RDl g D) (e : ∀ x, x ≠ 12 → D' 18 x = D 18 x) : RDl g D' := fun h3 o ho h4 hk => by
  rw [e 3 (by decide)] at h3
  rw [e 4 (by decide)] at h4
  rw [e 9 (by decide), e 5 (by decide)]
  exact h h3 o ho h4 hk
theorem RDl.no {g : Gh} {D : Nat → Nat → Int32} (h : ¬ D 18 3 = 2) : RDl g D := fun z => absurd z h
theorem HX.rd {P : Pm} {g : Gh} {me : Int32} {u b : Nat → Int32} {D D1 : Nat → Nat → Int32} {K A K1 A1 : Int64} {Z : List Mg} (h : HX P g me u b D K A D1 K1 A1 Z) (hl : RDl g D) : RDl g D1 := by
  rcases h with ⟨c2, _, _, _, a4, a5⟩ | ⟨_, _, n, cnt, s2, s3, _, _, _, _, _, _, a8, _⟩ | ⟨c7, n, k, _, _, k1, k2, a5⟩ | ⟨_, _, _, _, n, _, _, a6, _⟩ | ⟨_, _, _, _, n, _, _, a6, _⟩ | ⟨_, _, _, _, _, _, _, _, a4⟩
  · rcases a5 with ⟨e, _⟩ | ⟨_, e, _⟩
    · rw [e]; exact hl
    · exact RDl.no (by rw [e]; decide)
  · exact hl.c (fun x _ => by rw [a8.1 18 (by decide) (by decide) (by decide), hrd_n (by decide)])
  · rcases a5 with ⟨_, _, _, _, b5, _⟩ | ⟨_, ⟨b1, _⟩ | ⟨fx, _, _, _, _, _, _, b7, _⟩ | ⟨a, _, _, _, _, _, _, _, b8, _⟩⟩
    · exact RDl.no (fun z => by rw [z] at b5; exact absurd b5 (by decide))
    · exact hl.c (fun x _ => by rw [b1, hrd_n (by decide)])
    · exact hl.c (fun x _ => by rw [b7 18 (by decide) (by decide) (by decide) (by decide), hrd_n (by decide)])
    · exact hl.c (fun x hx => by rw [b8 x hx, hrd_n (by decide)])
  · exact hl.c (fun x _ => by rw [a6 18 (by decide) (by decide)])
  · exact hl.c (fun x _ => by rw [a6 18 (by decide) (by decide)])
  · exact hl.c (fun x _ => by rw [a4, hrd_n (by decide)])
theorem NRl.t {P : Pm} {g : Gh} {n : Nat} {u b : Nat → Int32} {D D' : Nat → Nat → Int32} {Z : List Mg} (h : NRl P n u b D D' Z) : ∀ z ∈ Z, TLx g z := fun z hz => by
  have hv : ∀ (D' : Nat → Nat → Int32) (t : Int32), DKR P.nn (nI n) P.f D D' Z t → TLx g z := fun D' t hd => TLx.k (by rw [(isHV.v (hd.2.1 z hz)).1]; decide)
  rcases h with ⟨_, _, e⟩ | ⟨_, _, e⟩ | ⟨_, _, w, e, _, _, _, _, _, k⟩ | ⟨_, _, w, e, _, _, _, _, k⟩ | ⟨_, _, hd, _⟩ | ⟨_, _, hd, _⟩
  · rw [e, List.mem_singleton] at hz
    rw [hz]; exact TLx.k (show ¬ (1 : Int32) = 3 by decide)
  · rw [e, List.mem_singleton] at hz
    rw [hz]; exact TLx.k (show ¬ (5 : Int32) = 3 by decide)
  · rw [e, List.mem_singleton] at hz
    rw [hz]
    rcases k with ⟨_, k⟩ | ⟨_, k⟩ <;> exact TLx.k (by rw [k]; decide)
  · rw [e, List.mem_singleton] at hz
    rw [hz]
    rcases k with ⟨_, k, _⟩ | ⟨_, k, _⟩ <;> exact TLx.k (by rw [k]; decide)
  · exact hv _ _ hd
  · exact hv _ _ hd
theorem zHr.t {g : Gh} {nn : Nat} {me : Int32} {D : Nat → Nat → Int32} {z : Mg} (h : zHr nn me D z) : TLx g z := by
  rcases h with ⟨j, _, e⟩ | ⟨t, k, e⟩ | ⟨to, c, bf, _, e⟩
  · rw [e]; exact TLx.k (show ¬ (4 : Int32) = 3 by decide)
  · rw [e]; exact TLx.k (show ¬ (6 : Int32) = 3 by decide)
  · rw [e]; exact TLx.k (show ¬ (12 : Int32) = 3 by decide)
theorem tx_55k {P : Pm} {g : Gh} {n e : Nat} {u b : Nat → Int32} {D D' : Nat → Nat → Int32} {K A K' A' : Int64} {Y Y' : List Mg} (hG : GO g) (hb12 : g.bg ≤ g.sn + 12) (hgg : 0 < P.gg) (hnn : P.nn ≤ 6) (hf : Rg P.nn P.f) (hn : n < P.nn) (hZ : OZg g) (h : NU P g n e D K) (hm : MO P g e (u, b)) (hs : MS P g (u, b)) (hd : ¬ ldB P.f P.nn (nI n) (D 0 8) = 0 → RDl g D)
    (hF : F_55_k P.nn P.gg P.C (nI n) P.f u b D K A Y = (D', K', A', Y')) : TLn g Y Y' ∧ (¬ ldB P.f P.nn (nI n) (D 0 8) = 0 → RDl g D') := by
  by_cases hno : isN (u 0)
  · obtain ⟨D2, K2, A2, Z, r1, _, r3⟩ := node_z (A := A) (Y := Y) hG hb12 hgg hnn hf hn h hm hs
    have e1 := r1.symm.trans hF
    rw [Prod.mk.injEq, Prod.mk.injEq, Prod.mk.injEq] at e1
    obtain ⟨e11, e12, e13, e14⟩ := e1
    subst e11 e12 e14
    rcases r3 with ⟨_, q1, _, q3, _, q5⟩ | ⟨q, _⟩ | ⟨q, _⟩
    · exact ⟨TLn.psl q5.t, fun hl => (hd hl).c (fun x _ => by rw [q3 18 (Or.inr (by decide))])⟩
    · exact absurd hno q
    · exact absurd hno q
  · have c0 : ¬ u 0 = 0 := fun z => hno (Or.inl z)
    have c4 : ¬ u 0 = 4 := fun z => hno (Or.inr (Or.inl z))
    have c6 : ¬ u 0 = 6 := fun z => hno (Or.inr (Or.inr (Or.inl z)))
    have c9 : ¬ u 0 = 9 := fun z => hno (Or.inr (Or.inr (Or.inr (Or.inl z))))
    have c10 : ¬ u 0 = 10 := fun z => hno (Or.inr (Or.inr (Or.inr (Or.inr (Or.inl z)))))
    have c12 : ¬ u 0 = 12 := fun z => hno (Or.inr (Or.inr (Or.inr (Or.inr (Or.inr z)))))
    unfold F_55_k at hF
    rw [if_neg c0, if_neg c4, if_neg c6, if_neg c9, if_neg c10, if_neg c12] at hF
    simp only [ite_self] at hF
    by_cases hl : ldB P.f P.nn (nI n) (D 0 8) = 0
    · rw [if_pos hl] at hF
      rw [Prod.mk.injEq, Prod.mk.injEq, Prod.mk.injEq] at hF
      obtain ⟨_, _, _, e14⟩ := hF
      subst e14
      exact ⟨fun x hx => Or.inl hx, fun z => absurd hl z⟩
    · rw [if_neg hl] at hF
      obtain ⟨D1, K1, A1, Z1, t1, t2, t3, _⟩ := hear_z (me := nI n) (A := A) hG hb12 hgg hnn hf (h.ld hl) hm hs
      obtain ⟨Z0, _, w2⟩ := hear_x hG hb12 hgg hnn (h.ld hl) hm hs t1
      rw [t1 Y, bnS_e] at hF
      obtain ⟨D4, K4, A4, Y4, h4⟩ : ∃ D4 K4 A4 Y4, F_91 P.nn P.gg P.C (nI n) P.f u b D1 K1 A1 (psl Y Z1) = (D4, K4, A4, Y4) := ⟨_, _, _, _, rfl⟩
      obtain ⟨g1, Z2, g2, g3⟩ := goon_T hG hgg hnn hZ t3 (w2.rd (hd hl)) h4
      rw [h4, bnS_e, Prod.mk.injEq, Prod.mk.injEq, Prod.mk.injEq] at hF
      obtain ⟨e11, _, _, e14⟩ := hF
      subst e11 e14
      refine ⟨?_, fun _ => g1⟩
      rw [g2]
      exact (TLn.psl (fun z hz => (t2.2.2.2.1 z hz).t)).tr (TLn.psl g3)
theorem tx_55 {P : Pm} {g : Gh} {n e e2 : Nat} {u b : Nat → Int32} {D D' : Nat → Nat → Int32} {K A K' A' : Int64} {Y Y' : List Mg} (hG : GO g) (hb12 : g.bg ≤ g.sn + 12) (hep : g.ep < 2 ^ 31) (hgg : 0 < P.gg) (hnn : P.nn ≤ 6) (hf : Rg P.nn P.f) (hn : n < P.nn) (hZ : OZg g) (h : NU P g n e D K) (hm : MO P g e2 (u, b)) (hs : MS P g (u, b)) (hd : ¬ ldB P.f P.nn (nI n) (D 0 8) = 0 → RDl g D)
    (hF : F_55 P.nn P.gg P.C (nI n) P.f u b D K A Y = (D', K', A', Y')) : TLn g Y Y' ∧ (¬ ldB P.f P.nn (nI n) (D' 0 8) = 0 → RDl g D') := by
  have h3 : u 3 = nI e2 := hm.ep.1
  have h4 : u 4 = g.mp e2 := hm.ep.2.2
  have he := h.ep.2.1
  have he2 := hm.ep.2.1
  have key : ∀ {e : Nat} {D : Nat → Nat → Int32} {K A : Int64} {Y : List Mg}, NU P g n e D K → MO P g e (u, b) → F_55_k P.nn P.gg P.C (nI n) P.f u b D K A Y = (D', K', A', Y') → D' 0 = D 0 := fun {e D K A Y} h hm hF => by
    obtain ⟨D2, K2, A2, Z, r1, _, r3⟩ := node_z (A := A) (Y := Y) hG hb12 hgg hnn hf hn h hm hs
    have e1 := (Prod.mk.inj (r1.symm.trans hF)).1
    subst e1
    rcases r3 with ⟨_, _, _, q3, _⟩ | ⟨_, _, q⟩ | ⟨_, _, q, _⟩
    · exact q3 0 (Or.inl rfl)
    · exact q.2.2.2.1 0 (by decide)
    · rw [q]
  unfold F_55 at hF
  rw [h.ep.1, h3] at hF
  by_cases c1 : nI e ≤ nI e2
  · rw [if_pos c1] at hF
    have c1 := (nI_leI (by omega) (by omega)).mp c1
    by_cases c2 : nI e2 ≤ nI e
    · rw [if_pos c2] at hF
      have c2 := (nI_leI (by omega) (by omega)).mp c2
      have : e2 = e := by omega
      subst this
      rw [key h hm hF]
      exact tx_55k hG hb12 hgg hnn hf hn hZ h hm hs hd hF
    · rw [if_neg c2, h4] at hF
      obtain ⟨D1, K1, A1, Z1, f1, f2⟩ := follow_z (P := P) (g := g) (n := n) (e2 := e2) (u := u) (b := b) (D := D) (K := K) (A := A) hnn
      obtain ⟨D3, K3, A3, Y3, r1, r2, _, _⟩ := follow_lem (u := u) (b := b) (K := K) (A := A) (Y := []) h.du h.rp h.rk h.ni c1 he2 (Nat.le_trans h.ep.2.2.2 c1) (fun y hy => by cases hy)
      have e3 := (f1 []).symm.trans r1
      rw [Prod.mk.injEq, Prod.mk.injEq] at e3
      obtain ⟨e31, e32, _⟩ := e3
      subst e31 e32
      have h0 := st_29 (P := P) (me := nI n) (u := u) (b := b) (D := D) (K := K) (A := A) (Y := Y) (e2 := nI e2) (s2 := g.mp e2) hnn
      rw [f1 Y] at h0
      replace h0 : D1 18 3 = 0 := h0
      rw [f1 Y, bnS_e] at hF
      rw [key r2 hm hF]
      obtain ⟨q1, q2⟩ := tx_55k hG hb12 hgg hnn hf hn hZ r2 hm hs (fun _ => RDl.no (by rw [h0]; decide)) hF
      refine ⟨(TLn.psl (fun z hz => ?_)).tr q1, q2⟩
      rcases f2.2.2 with ⟨_, q⟩ | ⟨_, _, _, _, _, q, _⟩
      · rw [q] at hz; cases hz
      · obtain ⟨j, _, j2, _⟩ := q z hz
        rw [j2]; exact TLx.k (show ¬ (4 : Int32) = 3 by decide)
  · rw [if_neg c1] at hF
    rw [Prod.mk.injEq, Prod.mk.injEq, Prod.mk.injEq] at hF
    obtain ⟨e11, e12, _, e14⟩ := hF
    subst e11 e12 e14
    exact ⟨fun x hx => Or.inl hx, hd⟩
theorem PZ.t {P : Pm} {g : Gh} {me : Int32} {D : Nat → Nat → Int32} {Z : List Mg} (hz : PZ P.nn P.gg me D Z) : ∀ z ∈ Z, TLx g z := fun z y => by
  rcases hz with ⟨_, _, w, _⟩ | ⟨_, _, w, _⟩ | ⟨_, _, w, _⟩ | ⟨_, _, _, w⟩
  · obtain ⟨j, _, _, e⟩ := w z y
    rw [e]; exact TLx.k (by show ¬ (6 : Int32) = 3; decide)
  · obtain ⟨o, j, _, _, _, e⟩ := w z y
    rw [e]; exact TLx.k (by rw [mPU_0]; decide)
  · obtain ⟨j, _, _, e⟩ := w z y
    rw [e]; exact TLx.k (by rw [mPU_0]; decide)
  · rw [w] at y; cases y
theorem WZ.t {P : Pm} {g : Gh} {me : Int32} {D D' : Nat → Nat → Int32} {K : Int64} {Z : List Mg} (h : WZ P me D K D' Z) : ∀ z ∈ Z, TLx g z := fun z hz => by
  obtain ⟨D1, Zp, Zq, Zm, e, _, _, _, ⟨_, y5⟩, _, y7, y8⟩ := h
  rw [e] at hz
  rcases List.mem_append.mp hz with q | q
  · obtain ⟨j, _, _, _, q⟩ := y5 z q
    rw [q]; exact TLx.k (show ¬ (4 : Int32) = 3 by decide)
  · rcases List.mem_append.mp q with q | q
    · exact y7.t z q
    · rcases y8 with ⟨w, _⟩ | ⟨_, _, _, ⟨_, w⟩, _⟩
      · rw [w] at q; cases q
      · obtain ⟨a, n, _, _, _, _, _, w⟩ := w z q
        rw [w]; exact TLx.k (show ¬ (9 : Int32) = 3 by decide)
theorem tx_136 {P : Pm} {g : Gh} {n e : Nat} {u b : Nat → Int32} {D D' : Nat → Nat → Int32} {K A K' A' : Int64} {Y Y' : List Mg} (hG : GO g) (hgg : 0 < P.gg) (hnn : P.nn ≤ 6) (hf : Rg P.nn P.f) (hn : n < P.nn) (hZ : OZg g) (h : NU P g n e D K) (hd : ¬ ldB P.f P.nn (nI n) (D 0 8) = 0 → RDl g D)
    (hF : F_136 P.nn P.gg P.C (nI n) P.f u b D K A Y = (D', K', A', Y')) : TLn g Y Y' ∧ (¬ ldB P.f P.nn (nI n) (D 0 8) = 0 → RDl g D') := by
  obtain ⟨D1, Zf, r1, r2, r3, r4, r5, r6⟩ := flush_z (nn := P.nn) (gg := P.gg) (C := P.C) (me := nI n) (f := P.f) (u := u) (b := b) (K := K) (A := A) (Bg_X P g) h.du
  have hN : NU P g n e D1 K := h.disk (fun q hq => r4 q (by omega) (by omega) (by omega)) r2 (fun k _ ⟨s, s1, s2, s3⟩ => Or.inl ⟨s, s1, by rw [r4 6 (by decide) (by decide) (by decide)]; exact s2, r5 s s1⟩)
  have e0 : D1 0 = D 0 := r4 0 (by decide) (by decide) (by decide)
  have hZf : ∀ z ∈ Zf, TLx g z := fun z hz => by
    rcases r6 with ⟨_, _, q⟩ | ⟨_, w, q, q2, _⟩
    · rw [q] at hz; cases hz
    · rw [q, List.mem_singleton] at hz
      rw [hz]; exact TLx.k (by rw [(isHV.v q2).1]; decide)
  unfold F_136 at hF
  by_cases c : ldB P.f P.nn (nI n) (D 0 8) = 0
  · rw [r1 Y, bnS_e, if_pos (by rw [e0]; exact c)] at hF
    rw [Prod.mk.injEq, Prod.mk.injEq, Prod.mk.injEq] at hF
    obtain ⟨_, _, _, e14⟩ := hF
    subst e14
    exact ⟨TLn.psl hZf, fun z => absurd c z⟩
  · rw [r1 Y, bnS_e, if_neg (by rw [e0]; exact c)] at hF
    have hLO := hN.ld (by rw [e0]; exact c)
    obtain ⟨D2, Zw, w1, w2, w3, w4, w5, w6, _, w8⟩ := work_z (me := nI n) (u := u) (b := b) (A := A) hG hgg hnn (by omega) hf hN.ni hLO
    rw [w1 _, bnS_e] at hF
    obtain ⟨D4, K4, A4, Y4, h4⟩ : ∃ D4 K4 A4 Y4, F_91 P.nn P.gg P.C (nI n) P.f u b D2 K 0 (psl (psl Y Zf) Zw) = (D4, K4, A4, Y4) := ⟨_, _, _, _, rfl⟩
    have hr2 : RDl g D2 := (hd c).c (fun x _ => by rw [w5 18 (by decide), r4 18 (by decide) (by decide) (by decide)])
    obtain ⟨g1, Z2, g2, g3⟩ := goon_T hG hgg hnn hZ w2 hr2 h4
    rw [h4, bnS_e, Prod.mk.injEq, Prod.mk.injEq, Prod.mk.injEq] at hF
    obtain ⟨e11, _, _, e14⟩ := hF
    subst e11 e14
    refine ⟨?_, fun _ => g1⟩
    rw [g2]
    exact ((TLn.psl hZf).tr (TLn.psl w8.t)).tr (TLn.psl g3)

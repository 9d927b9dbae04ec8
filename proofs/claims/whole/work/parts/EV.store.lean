/-! the whole store -/
theorem stp_ans {T T' : TS} {k a : Nat} {m : Mg} (hT : TOK T k) (hm : AQ (m.1 0) (m.1 1) (m.1 2) (m.1 3) (m.1 4) (m.1 5)) (h : stp T k m = some (a, T')) : a ≤ 8192 ∧ ¬ (m.1 0 = 4 ∨ m.1 0 = 8 ∨ m.1 0 = 9) := by
  have hl5 := (inR_c2 hm.2.2.2.2.2 (by decide)).1
  have hw : ∀ fi a', wrS T k m.2 (m.1 3).toNatClampNeg (m.1 5).toNatClampNeg fi a' = some (a, T') → a ≤ 8192 := fun fi a' e => by
    cases fi with
    | none =>
      unfold wrS at e
      simp only at e
      have := (Prod.mk.injEq _ _ _ _ ▸ (ite_ns e).2 : _ ∧ _).1
      omega
    | some i =>
      unfold wrS at e
      simp only at e
      have := (Prod.mk.injEq _ _ _ _ ▸ (ite_ns e).2 : _ ∧ _).1
      omega
  have hk : ¬ (m.1 0 = 4 ∨ m.1 0 = 8 ∨ m.1 0 = 9) := fun z => by
    unfold stp at h
    rcases z with z | z | z <;> rw [z] at h <;> simp at h
  refine ⟨?_, hk⟩
  unfold stp at h
  split at h
  · cases hf : fdN T m.2 0 (m.1 3).toNatClampNeg with
    | some i => rw [hf] at h; cases h
    | none =>
      rw [hf] at h
      simp only at h
      have := (Prod.mk.injEq _ _ _ _ ▸ (ite_ns h).2 : _ ∧ _).1
      omega
  split at h
  · exact hw _ _ h
  split at h
  · exact hw _ _ h
  split at h
  · cases hf : fdN T m.2 0 (m.1 3).toNatClampNeg with
    | none => rw [hf] at h; cases h
    | some i =>
      rw [hf] at h
      simp only at h
      have := (Prod.mk.injEq _ _ _ _ ▸ (ite_ns h).2 : _ ∧ _).1
      have := hT.z1 i
      omega
  split at h
  · cases hf : fdN T m.2 0 (m.1 3).toNatClampNeg with
    | none => rw [hf] at h; cases h
    | some i =>
      rw [hf] at h
      simp only at h
      rw [Option.some.injEq, Prod.mk.injEq] at h
      have := hT.z1 i
      omega
  split at h
  · cases hf : fdN T m.2 0 (m.1 3).toNatClampNeg with
    | none => rw [hf] at h; cases h
    | some i =>
      rw [hf] at h
      simp only at h
      cases hg : fdN T m.2 50 (m.1 4).toNatClampNeg with
      | none =>
        rw [hg] at h
        simp only at h
        rw [Option.some.injEq, Prod.mk.injEq] at h
        omega
      | some j =>
        rw [hg] at h
        simp only at h
        split at h <;> rw [Option.some.injEq, Prod.mk.injEq] at h <;> omega
  split at h
  · cases hf : fdN T m.2 0 (m.1 3).toNatClampNeg with
    | none => rw [hf] at h; cases h
    | some i =>
      rw [hf] at h
      simp only at h
      cases hg : fdN T m.2 50 (m.1 4).toNatClampNeg with
      | none => rw [hg] at h; cases h
      | some j =>
        rw [hg] at h
        simp only at h
        split at h <;> rw [Option.some.injEq, Prod.mk.injEq] at h <;> omega
  · cases h
/-- those who ask -/
def AI (P : Pm) (g : Gh) (he : Nat) (E : Nat → Nat → Int32) (Q : Nat → Mg) : Prop :=
  (E 4 8 = nI g.bg) ∧
  (he ≤ g.bg ∧ g.bg ≤ he + 12) ∧
  (E 4 9 = nI he) ∧
  (E 4 12 = efv g.ops he) ∧
  (∀ v, v < 512 → efv g.ops he = nI v → kept P g (rtg v)) ∧
  (∀ o, he ≤ o → o < g.bg → (∀ x, x < 6 → (Q (o % 24)).1 x = (g.ops o).1 x) ∧ ∀ x, x < 612 → (Q (o % 24)).2 x = (g.ops o).2 x) ∧
  (E 4 13 = nI g.ep ∧ E 4 14 = g.mp g.ep) ∧
  (g.hd = he) ∧
  (g.sn ≤ he ∧ g.bg ≤ g.sn + 12 ∧ E 4 10 = nI g.sn) ∧
  (∀ n, n < 32 → bt (E 4 15) n = true → n < P.nn ∧ g.rep g.ep n 5243392)
theorem AI.bg {P : Pm} {g : Gh} {he : Nat} {E : Nat → Nat → Int32} {Q : Nat → Mg} (h_ : AI P g he E Q) : E 4 8 = nI g.bg := h_.1
theorem AI.h1 {P : Pm} {g : Gh} {he : Nat} {E : Nat → Nat → Int32} {Q : Nat → Mg} (h_ : AI P g he E Q) : he ≤ g.bg ∧ g.bg ≤ he + 12 := h_.2.1
theorem AI.h2 {P : Pm} {g : Gh} {he : Nat} {E : Nat → Nat → Int32} {Q : Nat → Mg} (h_ : AI P g he E Q) : E 4 9 = nI he := h_.2.2.1
theorem AI.ef {P : Pm} {g : Gh} {he : Nat} {E : Nat → Nat → Int32} {Q : Nat → Mg} (h_ : AI P g he E Q) : E 4 12 = efv g.ops he := h_.2.2.2.1
theorem AI.kp {P : Pm} {g : Gh} {he : Nat} {E : Nat → Nat → Int32} {Q : Nat → Mg} (h_ : AI P g he E Q) : ∀ v, v < 512 → efv g.ops he = nI v → kept P g (rtg v) := h_.2.2.2.2.1
theorem AI.qs {P : Pm} {g : Gh} {he : Nat} {E : Nat → Nat → Int32} {Q : Nat → Mg} (h_ : AI P g he E Q) : ∀ o, he ≤ o → o < g.bg → (∀ x, x < 6 → (Q (o % 24)).1 x = (g.ops o).1 x) ∧ ∀ x, x < 612 → (Q (o % 24)).2 x = (g.ops o).2 x := h_.2.2.2.2.2.1
theorem AI.ep {P : Pm} {g : Gh} {he : Nat} {E : Nat → Nat → Int32} {Q : Nat → Mg} (h_ : AI P g he E Q) : E 4 13 = nI g.ep ∧ E 4 14 = g.mp g.ep := h_.2.2.2.2.2.2.1
theorem AI.hh {P : Pm} {g : Gh} {he : Nat} {E : Nat → Nat → Int32} {Q : Nat → Mg} (h_ : AI P g he E Q) : g.hd = he := h_.2.2.2.2.2.2.2.1
theorem AI.se {P : Pm} {g : Gh} {he : Nat} {E : Nat → Nat → Int32} {Q : Nat → Mg} (h_ : AI P g he E Q) : g.sn ≤ he ∧ g.bg ≤ g.sn + 12 ∧ E 4 10 = nI g.sn := h_.2.2.2.2.2.2.2.2.1
theorem AI.mh {P : Pm} {g : Gh} {he : Nat} {E : Nat → Nat → Int32} {Q : Nat → Mg} (h_ : AI P g he E Q) : ∀ n, n < 32 → bt (E 4 15) n = true → n < P.nn ∧ g.rep g.ep n 5243392 := h_.2.2.2.2.2.2.2.2.2
def GI (P : Pm) (g : Gh) (S : SS) : Prop :=
  (GO g) ∧
  (g.ep < 2 ^ 30 ∧ g.es ≤ g.ep) ∧
  (∃ he, AI P g he S.1 S.2.1) ∧
  (MOL P g S.2.2.1) ∧
  (∀ j, j < P.nn → (S.2.2.2.1 j 0 6 = 0 ∧ ∃ e, ND P g j e (S.2.2.2.1 j)) ∨ (¬ S.2.2.2.1 j 0 6 = 0 ∧ ∃ e, NU P g j e (S.2.2.2.1 j) (S.2.2.2.2.1 j)))
theorem GI.go {P : Pm} {g : Gh} {S : SS} (h_ : GI P g S) : GO g := h_.1
theorem GI.ep {P : Pm} {g : Gh} {S : SS} (h_ : GI P g S) : g.ep < 2 ^ 30 ∧ g.es ≤ g.ep := h_.2.1
theorem GI.as {P : Pm} {g : Gh} {S : SS} (h_ : GI P g S) : ∃ he, AI P g he S.1 S.2.1 := h_.2.2.1
theorem GI.ms {P : Pm} {g : Gh} {S : SS} (h_ : GI P g S) : MOL P g S.2.2.1 := h_.2.2.2.1
theorem GI.nd {P : Pm} {g : Gh} {S : SS} (h_ : GI P g S) : ∀ j, j < P.nn → (S.2.2.2.1 j 0 6 = 0 ∧ ∃ e, ND P g j e (S.2.2.2.1 j)) ∨ (¬ S.2.2.2.1 j 0 6 = 0 ∧ ∃ e, NU P g j e (S.2.2.2.1 j) (S.2.2.2.2.1 j)) := h_.2.2.2.2
/-- another NODE told more -/
theorem NU.other {P : Pm} {g g' : Gh} {n j e : Nat} {D : Nat → Nat → Int32} {K : Int64} (hG : GO g) (h : NU P g n e D K) (hg : NG g g' j) (hne : n ≠ j) : NU P g' n e D K := ⟨⟨h.ep.1, by rw [hg.ep]; exact h.ep.2.1, by rw [hg.mp]; exact h.ep.2.2.1, by rw [hg.le.es]; exact h.ep.2.2.2⟩, h.du.mono (fun w hw => hg.le.BgM hw), h.rp.mono hg.le (by rw [hg.er]) (fun e' k hr _ => Or.inl (hg.ot e' n k hne hr)) (fun _ z => z), fun e' k hr => by rw [hg.le.es]; exact h.rk e' k (hg.ot e' n k hne hr), h.ni, fun z => (h.ld z).mono hg.le hG.1⟩
theorem DN.mono {B B' : (Nat → Int32) → Prop} {dc : Int32} {ff ow tf : Nat → Int32} (hB : ∀ w, B w → B' w) (h : DN B dc ff ow tf) : DN B' dc ff ow tf := ⟨h.1, h.2.1, fun s hs hw => hB _ (h.2.2 s hs hw)⟩
theorem ND.other {P : Pm} {g g' : Gh} {n j e : Nat} {D : Nat → Nat → Int32} (h : ND P g n e D) (hg : NG g g' j) (hne : n ≠ j) : ND P g' n e D := ⟨by rw [hg.ep]; exact h.ee, h.dn.mono (fun w hw => hg.le.BgM hw), h.rp.mono hg.le (by rw [hg.er]) (fun e' k hr _ => Or.inl (hg.ot e' n k hne hr)) (fun _ z => z), fun e' k hr => by rw [hg.le.es]; exact h.rk e' k (hg.ot e' n k hne hr), h.ni⟩
theorem NU.grow {P : Pm} {g g' : Gh} {n e : Nat} {D : Nat → Nat → Int32} {K : Int64} (h5 : g.bg ≤ 512) (h : NU P g n e D K) (hg : Gle g g') (hr : ∀ e' k, g'.rep e' n k → g.rep e' n k) (her : g'.er n = g.er n) : NU P g' n e D K := ⟨⟨h.ep.1, Nat.le_trans h.ep.2.1 hg.ep, by rw [hg.mp e h.ep.2.1]; exact h.ep.2.2.1, by rw [hg.es]; exact h.ep.2.2.2⟩, h.du.mono (fun w hw => hg.BgM hw), h.rp.mono hg her (fun e' k z _ => Or.inl (hr e' k z)) (fun _ z => z), fun e' k z => by rw [hg.es]; exact h.rk e' k (hr e' k z), h.ni, fun z => (h.ld z).mono hg h5⟩
theorem ND.grow {P : Pm} {g g' : Gh} {n e : Nat} {D : Nat → Nat → Int32} (h : ND P g n e D) (hg : Gle g g') (hr : ∀ e' k, g'.rep e' n k → g.rep e' n k) (her : g'.er n = g.er n) : ND P g' n e D := ⟨Nat.le_trans h.ee hg.ep, h.dn.mono (fun w hw => hg.BgM hw), h.rp.mono hg her (fun e' k z _ => Or.inl (hr e' k z)) (fun _ z => z), fun e' k z => by rw [hg.es]; exact h.rk e' k (hr e' k z), h.ni⟩
/-- those who ask heard of more -/
def Gh.hr (g : Gh) (h : Nat) : Gh := ⟨g.ops, g.bg, g.mp, g.ep, g.rep, g.er, g.es, g.sn, h⟩
theorem Gh.hr_le (g : Gh) {h : Nat} (hh : g.hd ≤ h) : Gle g (g.hr h) := ⟨fun _ _ => rfl, Nat.le_refl _, fun _ _ => rfl, Nat.le_refl _, fun _ _ _ h => h, rfl, rfl, hh⟩
theorem AI.ng {P : Pm} {g g' : Gh} {he j : Nat} {E : Nat → Nat → Int32} {Q : Nat → Mg} (h : AI P g he E Q) (hg : NG g g' j) : AI P g' he E Q := ⟨by rw [hg.bg]; exact h.bg, by rw [hg.bg]; exact h.h1, h.h2, by rw [hg.ops]; exact h.ef, fun v hv e => by rw [hg.ops] at e; exact hg.le.keptM (h.kp v hv e), by rw [hg.bg, hg.ops]; exact h.qs, by rw [hg.ep, hg.mp]; exact h.ep, by rw [hg.hd]; exact h.hh, by rw [hg.le.sn, hg.bg]; exact h.se, fun n hn z => by rw [hg.ep]; exact ⟨(h.mh n hn z).1, hg.le.rep _ _ _ (h.mh n hn z).2⟩⟩
/-- one NODE does something -/
theorem GI.node {P : Pm} {g : Gh} {S S' : SS} {s : St} {j : Nat} (h : GI P g S) (hj : j < P.nn) (hs : NOut P g j (S.2.2.2.1 j) s) (hup : ¬ S.2.2.2.1 j 0 6 = 0) (hr : nodR s j S S') : ∃ g', NG g g' j ∧ GI P g' S' := by
  obtain ⟨g', e', D', K', A', Y', r1, r2, r3, r4, r5⟩ := hs
  obtain ⟨ms', m1, m2⟩ := hr
  rw [r1] at m1 m2
  subst m2
  refine ⟨g', r2, h.go.ng r2, by rw [r2.ep, r2.le.es]; exact h.ep, ?_, MOL.sm (h.go.ng r2) m1 r4, fun i hi => ?_⟩
  · obtain ⟨he, ha⟩ := h.as
    exact ⟨he, ha.ng r2⟩
  · by_cases e : i = j
    · subst e
      right
      refine ⟨?_, e', ?_⟩
      · show ¬ va_up S.2.2.2.1 i D' i 0 6 = 0
        rw [va_up_s, r5]; exact hup
      · show NU P g' i e' (va_up S.2.2.2.1 i D' i) (va_up S.2.2.2.2.1 i K' i)
        rw [va_up_s, va_up_s]; exact r3
    · rcases h.nd i hi with ⟨z, e1, z1⟩ | ⟨z, e1, z1⟩
      · left
        refine ⟨?_, e1, ?_⟩
        · show va_up S.2.2.2.1 j D' i 0 6 = 0
          rw [va_up_n _ _ e]; exact z
        · show ND P g' i e1 (va_up S.2.2.2.1 j D' i)
          rw [va_up_n _ _ e]; exact z1.other r2 e
      · right
        refine ⟨?_, e1, ?_⟩
        · show ¬ va_up S.2.2.2.1 j D' i 0 6 = 0
          rw [va_up_n _ _ e]; exact z
        · show NU P g' i e1 (va_up S.2.2.2.1 j D' i) (va_up S.2.2.2.2.1 j K' i)
          rw [va_up_n _ _ e, va_up_n _ _ e]; exact z1.other h.go r2 e
/-- askNext -/
theorem ask_ok {P : Pm} {g : Gh} {he : Nat} {E : Nat → Nat → Int32} {Q : Nat → Mg} {ms ms' : List Mg} (hG : GO g) (h : AI P g he E Q) (hY : MOL P g ms) (hr : askR P.nn P.f E Q ms ms') : MOL P g ms' := by
  rcases hr with ⟨_, z⟩ | ⟨z1, _, bm, z3⟩
  · rw [z]; exact hY
  · rw [z3]
    have h512 := hG.1
    have hlt : he < g.bg := by
      rcases Nat.lt_or_ge he g.bg with y | y
      · exact y
      · exact absurd (by rw [h.h2, h.bg, show he = g.bg by have := h.h1.1; omega]) z1
    have hcl : (E 4 9).toNatClampNeg = he := by rw [h.h2, nI_clamp (by omega)]
    rw [hcl]
    obtain ⟨q1, q2⟩ := h.qs he (Nat.le_refl _) hlt
    have hq := hG.2 he hlt
    have hl5 := inR_c2 hq.2.2.2.2.2 (by decide)
    have e5 : (Q (he % 24)).1 5 = (g.ops he).1 5 := q1 5 (by decide)
    refine hY.put (e := g.ep) (MO.m_ak ?_ ?_ (Nat.le_refl _) ?_ ⟨he, ⟨hlt, h.se.1, by rw [h.hh]; exact Nat.le_refl _⟩, ?_, ?_, ?_, fun i hi => ?_, fun i hi => ?_⟩)
    · rw [va_up_n _ _ (by decide), va_up_n _ _ (by decide), va_up_n _ _ (by decide)]; rfl
    · rw [va_up_n _ _ (by decide), va_up_n _ _ (by decide), va_up_n _ _ (by decide)]; exact h.ep.1
    · rw [va_up_n _ _ (by decide), va_up_n _ _ (by decide), va_up_n _ _ (by decide)]; exact h.ep.2
    · rw [va_up_n _ _ (by decide), va_up_n _ _ (by decide), va_up_s]; exact h.h2
    · rw [va_up_n _ _ (by decide), va_up_s]; exact h.ef
    · rw [va_up_s]; exact e5
    · rw [pk_cpy_out (by omega)]
      have : i = 0 ∨ i = 1 ∨ i = 2 ∨ i = 3 ∨ i = 4 := by omega
      rcases this with z | z | z | z | z <;> subst z
      · rw [pk_un (by decide), pk_un (by decide), pk_un (by decide), pk_un (by decide), pk_us]; exact q1 0 (by decide)
      · rw [pk_un (by decide), pk_un (by decide), pk_un (by decide), pk_us]; exact q1 1 (by decide)
      · rw [pk_un (by decide), pk_un (by decide), pk_us]; exact q1 2 (by decide)
      · rw [pk_un (by decide), pk_us]; exact q1 3 (by decide)
      · rw [pk_us]; exact q1 4 (by decide)
    · rw [pk_cpy_in (by omega) (by rw [e5]; omega), show 0 + (5 + i - 5) = i by omega]
      exact q2 i (by omega)
/-- tellMap -/
theorem tm_ok {P : Pm} {g : Gh} {nn : Nat} {mh : Int32} {e : Nat} {st : Int32} (he : e ≤ g.ep) (hst : st = g.mp e) : ∀ (k i : Nat) (ms ms' : List Mg), MOL P g ms → tmR nn mh (nI e) st k i ms ms' → MOL P g ms'
  | 0, i, ms, ms', h, hr => by
    have hr : ms' = ms := hr
    rw [hr]; exact h
  | k + 1, i, ms, ms', h, hr => by
    rcases hr with ⟨_, bm, z⟩ | ⟨_, z⟩
    · exact tm_ok he hst k (i + 1) _ ms' (h.put (e := e) (MO.plain rfl he hst (Or.inl rfl))) z
    · exact tm_ok he hst k (i + 1) ms ms' h z
/-- those who ask hear -/
theorem GI.askers {P : Pm} {g : Gh} {S S' : SS} {x : Mg} {e : Nat} (hP : P.nn ≤ 6) (h : GI P g S) (hm : MO P g e x) (hr : ahR P.nn P.f x S S') : ∃ h', g.hd ≤ h' ∧ GI P (g.hr h') S' := by
  obtain ⟨he, ha⟩ := h.as
  have h512 := h.go.1
  rcases hr with ⟨⟨zk, ze⟩, z⟩ | ⟨_, _, z⟩ | ⟨_, ⟨c1, c2, c3⟩, ms', z, zr⟩
  · subst z
    have w : ∀ y, y ≠ 15 → va_up S.1 4 (upd (S.1 4) 15 ((S.1 4 15) ||| ((1 : Int32) <<< (x.1 1 &&& 31)))) 4 y = S.1 4 y := fun y hy => by rw [va_up_s, pk_un hy]
    refine ⟨g.hd, Nat.le_refl _, h.go, h.ep, ⟨he, ⟨(w 8 (by decide)).trans ha.bg, ha.h1, (w 9 (by decide)).trans ha.h2, (w 12 (by decide)).trans ha.ef, ha.kp, ha.qs, ⟨(w 13 (by decide)).trans ha.ep.1, (w 14 (by decide)).trans ha.ep.2⟩, ha.hh, ⟨ha.se.1, ha.se.2.1, (w 10 (by decide)).trans ha.se.2.2⟩, fun n hn zb => ?_⟩⟩, h.ms, h.nd⟩
    obtain ⟨m, m1, m2, m3⟩ := hm.hd zk
    have zb : bt (va_up S.1 4 (upd (S.1 4) 15 ((S.1 4 15) ||| ((1 : Int32) <<< (x.1 1 &&& 31)))) 4 15) n = true := zb
    rw [va_up_s, pk_us, m2, bt_set _ (by omega) hn] at zb
    by_cases en : n = m
    · subst en
      have : e = g.ep := nI_inj (by have := hm.ep.2.1; have := h.ep.1; omega) (by have := h.ep.1; omega) (by rw [← hm.ep.1, ze, ha.ep.1])
      show n < P.nn ∧ g.rep g.ep n 5243392
      rw [← this]; exact ⟨m1, m3⟩
    · rw [decide_eq_false en, Bool.or_false] at zb
      exact ha.mh n hn zb
  · rw [z]; exact ⟨g.hd, Nat.le_refl _, h⟩
  · have hcl : (S.1 4 9).toNatClampNeg = he := by rw [ha.h2, nI_clamp (by have := ha.h1; omega)]
    rw [hcl] at z
    obtain ⟨o, o1, o2, o3⟩ := hm.tl c1
    have hlt : he < g.bg := by
      rw [ha.h2, ha.bg] at c3
      exact (nI_ltI (by have := ha.h1; omega) (by omega)).mp c3
    have : o = he := by
      rw [ha.h2, o2] at c2
      exact nI_inj (by omega) (by omega) c2
    subst this
    have hq := h.go.2 o o1
    have hT := h.go.tok (Nat.le_of_lt o1)
    have k0 : (S.2.1 (o % 24)).1 0 = (g.ops o).1 0 := (ha.qs o (Nat.le_refl _) o1).1 0 (by decide)
    -- the effect
    have hef : (eff g o ∧ ¬ (((S.2.1 (o % 24)).1 0 = 4 ∨ (S.2.1 (o % 24)).1 0 = 8 ∨ (S.2.1 (o % 24)).1 0 = 9) ∨ x.1 6 < 0) ∧ kept P g (rtg o)) ∨ (¬ eff g o ∧ (((S.2.1 (o % 24)).1 0 = 4 ∨ (S.2.1 (o % 24)).1 0 = 8 ∨ (S.2.1 (o % 24)).1 0 = 9) ∨ x.1 6 < 0)) := by
      rw [k0]
      by_cases c : eff g o
      · obtain ⟨d1, d2⟩ := o3.1 c
        obtain ⟨_, y, hy⟩ := c
        obtain ⟨w1, w2⟩ := stp_ans hT hq (show stp (tsp g.ops o) o (g.ops o) = some (y.1, y.2) from hy)
        refine Or.inl ⟨⟨o1, y, hy⟩, fun z => ?_, d2⟩
        rcases z with z | z
        · exact w2 z
        · rw [d1, efA_s (show stp (tsp g.ops o) o (g.ops o) = some (y.1, y.2) from hy)] at z
          exact nI_pos (by omega) z
      · refine Or.inr ⟨c, ?_⟩
        rcases o3.2 c with z | z | z | z
        · exact Or.inl (Or.inl z)
        · exact Or.inl (Or.inr (Or.inl z))
        · exact Or.inl (Or.inr (Or.inr z))
        · exact Or.inr z
    have hle : Gle g (g.hr (o + 1)) := g.hr_le (by rw [ha.hh]; exact Nat.le_succ _)
    have hAI : AI P (g.hr (o + 1)) (o + 1) S'.1 S'.2.1 := by
      rw [z]
      refine ⟨?_, by have := ha.h1; show o + 1 ≤ g.bg ∧ g.bg ≤ o + 1 + 12; omega, ?_, ?_, fun v hv ev => hle.keptM ?_, fun i h1 h2 => ?_, ⟨?_, ?_⟩, rfl, ⟨by have := ha.se.1; show g.sn ≤ o + 1; omega, ha.se.2.1, ?_⟩, fun n hn zb => ha.mh n hn ?_⟩
      · show heE S.1 _ o (x.1 6) 4 8 = _
        unfold heE
        rw [va_up_n _ _ (by decide), va_up_s]
        split
        · rw [pk_un (by decide)]; exact ha.bg
        · rw [pk_un (by decide), pk_un (by decide)]; exact ha.bg
      · show heE S.1 _ o (x.1 6) 4 9 = _
        unfold heE
        rw [va_up_n _ _ (by decide), va_up_s]
        split
        · rw [pk_us]
        · rw [pk_un (by decide), pk_us]
      · show heE S.1 _ o (x.1 6) 4 12 = _
        unfold heE
        rw [va_up_n _ _ (by decide), va_up_s]
        rcases hef with ⟨f1, f2, _⟩ | ⟨f1, f2⟩
        · rw [if_neg f2, pk_us]; show _ = efv g.ops (o + 1); rw [efv_s f1.2]
        · rw [if_pos f2, pk_un (by decide), ha.ef]
          show _ = (match stp (tsp g.ops o) o (g.ops o) with | some _ => nI o | none => efv g.ops o)
          cases hy : stp (tsp g.ops o) o (g.ops o) with
          | none => rfl
          | some y => exact absurd ⟨o1, y, hy⟩ f1
      · have ev : efv g.ops (o + 1) = nI v := ev
        rcases hef with ⟨f1, _, f3⟩ | ⟨f1, _⟩
        · rw [efv_s f1.2] at ev
          have := nI_inj (by omega) (by omega) ev
          rw [← this]; exact f3
        · have : efv g.ops (o + 1) = efv g.ops o := by
            show (match stp (tsp g.ops o) o (g.ops o) with | some _ => nI o | none => efv g.ops o) = _
            cases hy : stp (tsp g.ops o) o (g.ops o) with
            | none => rfl
            | some y => exact absurd ⟨o1, y, hy⟩ f1
          rw [this] at ev
          exact ha.kp v hv ev
      · have h2 : i < g.bg := h2
        have hne : i % 24 ≠ o % 24 := by have := ha.h1.2; omega
        show (∀ y, y < 6 → (va_up S.2.1 (o % 24) _ (i % 24)).1 y = _) ∧ ∀ y, y < 612 → (va_up S.2.1 (o % 24) _ (i % 24)).2 y = _
        rw [va_up_n _ _ hne]
        exact ha.qs i (by omega) h2
      · show heE S.1 _ o (x.1 6) 4 13 = _
        unfold heE
        rw [va_up_n _ _ (by decide), va_up_s]
        split
        · rw [pk_un (by decide)]; exact ha.ep.1
        · rw [pk_un (by decide), pk_un (by decide)]; exact ha.ep.1
      · show heE S.1 _ o (x.1 6) 4 14 = _
        unfold heE
        rw [va_up_n _ _ (by decide), va_up_s]
        split
        · rw [pk_un (by decide)]; exact ha.ep.2
        · rw [pk_un (by decide), pk_un (by decide)]; exact ha.ep.2
      · show heE S.1 _ o (x.1 6) 4 10 = _
        unfold heE
        rw [va_up_n _ _ (by decide), va_up_s]
        split
        · rw [pk_un (by decide)]; exact ha.se.2.2
        · rw [pk_un (by decide), pk_un (by decide)]; exact ha.se.2.2
      · have zb : bt (heE S.1 ((S.2.1 (o % 24)).1 0) o (x.1 6) 4 15) n = true := zb
        unfold heE at zb
        rw [va_up_n _ _ (by decide), va_up_s] at zb
        split at zb
        · rw [pk_un (by decide)] at zb; exact zb
        · rw [pk_un (by decide), pk_un (by decide)] at zb; exact zb
    refine ⟨o + 1, by rw [ha.hh]; exact Nat.le_succ _, h.go, h.ep, ⟨o + 1, hAI⟩, ?_, ?_⟩
    · have := ask_ok (g := g.hr (o + 1)) h.go hAI (h.ms.mono hle) zr
      rw [z]
      exact this
    · rw [z]
      intro j hj
      rcases h.nd j hj with ⟨w, e1, w1⟩ | ⟨w, e1, w1⟩
      · exact Or.inl ⟨w, e1, w1.grow hle (fun _ _ y => y) rfl⟩
      · exact Or.inr ⟨w, e1, w1.grow h512 hle (fun _ _ y => y) rfl⟩

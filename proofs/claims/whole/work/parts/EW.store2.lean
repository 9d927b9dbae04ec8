/-! handing over, TICKS, CRASH, RESTART keep the store's invariant -/
def Gs (g g' : Gh) : Prop :=
  (Gle g g') ∧
  (g'.er = g.er) ∧
  (g'.ops = g.ops) ∧
  (g'.bg = g.bg) ∧
  (g'.mp = g.mp) ∧
  (g'.ep = g.ep)
theorem Gs.le {g g' : Gh} (h_ : Gs g g') : Gle g g' := h_.1
theorem Gs.er {g g' : Gh} (h_ : Gs g g') : g'.er = g.er := h_.2.1
theorem Gs.ops {g g' : Gh} (h_ : Gs g g') : g'.ops = g.ops := h_.2.2.1
theorem Gs.bg {g g' : Gh} (h_ : Gs g g') : g'.bg = g.bg := h_.2.2.2.1
theorem Gs.mp {g g' : Gh} (h_ : Gs g g') : g'.mp = g.mp := h_.2.2.2.2.1
theorem Gs.ep {g g' : Gh} (h_ : Gs g g') : g'.ep = g.ep := h_.2.2.2.2.2
theorem Gs.rf (g : Gh) : Gs g g := ⟨Gle.rf g, rfl, rfl, rfl, rfl, rfl⟩
theorem Gs.tr {a b c : Gh} (h : Gs a b) (h2 : Gs b c) : Gs a c := ⟨h.le.tr h2.le, by rw [h2.er, h.er], by rw [h2.ops, h.ops], by rw [h2.bg, h.bg], by rw [h2.mp, h.mp], by rw [h2.ep, h.ep]⟩
theorem NG.gs {g g' : Gh} {n : Nat} (h : NG g g' n) : Gs g g' := ⟨h.le, h.er, h.ops, h.bg, h.mp, h.ep⟩
theorem heE_100 (E : Nat → Nat → Int32) (k0 : Int32) (he : Nat) (v : Int32) : heE E k0 he v 100 = E 100 := by
  unfold heE
  rw [va_up_n _ _ (by decide), va_up_n _ _ (by decide)]
def PmO (P : Pm) : Prop :=
  (0 < P.gg) ∧
  (P.nn ≤ 6) ∧
  (Rg P.nn P.f)
theorem PmO.gg {P : Pm} (h_ : PmO P) : 0 < P.gg := h_.1
theorem PmO.nn {P : Pm} (h_ : PmO P) : P.nn ≤ 6 := h_.2.1
theorem PmO.f {P : Pm} (h_ : PmO P) : Rg P.nn P.f := h_.2.2
theorem GI.hand {P : Pm} {g : Gh} {S S' : SS} {x : Mg} (hP : PmO P) (h : GI P g S) (hm : ∃ e, MO P g e x) (hr : hoR P.nn P.gg P.C P.f x S S') : ∃ g', Gs g g' ∧ GI P g' S' ∧ S'.1 100 = S.1 100 := by
  rcases hr with ⟨_, z⟩ | ⟨j, j1, j2, j3, j4⟩ | ⟨_, _, z⟩
  · obtain ⟨e, he⟩ := hm
    obtain ⟨h', w1, w2⟩ := h.askers hP.nn he z
    refine ⟨g.hr h', ⟨g.hr_le w1, rfl, rfl, rfl, rfl, rfl⟩, w2, ?_⟩
    rcases z with ⟨_, z⟩ | ⟨_, _, z⟩ | ⟨_, _, ms', z, _⟩
    · rw [z]
      show va_up S.1 4 (upd (S.1 4) 15 ((S.1 4 15) ||| ((1 : Int32) <<< (x.1 1 &&& 31)))) 100 = S.1 100
      rw [va_up_n _ _ (by decide)]
    · rw [z]
    · rw [z]
      exact heE_100 S.1 ((S.2.1 ((S.1 4 9).toNatClampNeg % 24)).1 0) (S.1 4 9).toNatClampNeg (x.1 6)
  · have hep := h.ep.1
    rcases h.nd j j1 with ⟨y, _⟩ | ⟨_, e, y⟩
    · exact absurd y j3
    · obtain ⟨g', g1, g2⟩ := h.node j1 (nhear h.go (by omega) hP.gg hP.nn hP.f j1 y h.ms hm j2) j3 j4
      refine ⟨g', g1.gs, g2, ?_⟩
      obtain ⟨ms', _, w⟩ := j4
      rw [w]
  · rw [z]; exact ⟨g, Gs.rf g, h, rfl⟩
/-- a MESSAGE is taken away -/
theorem GI.take {P : Pm} {g : Gh} {S S' : SS} {x : Mg} (h : GI P g S) (hr : tkM x S S') : GI P g S' ∧ (∃ e, MO P g e x) ∧ S'.1 100 = S.1 100 := by
  obtain ⟨ms', p, z⟩ := hr
  rw [z]
  exact ⟨⟨h.go, h.ep, h.as, fun y hy => h.ms y (p.subset (List.mem_cons_of_mem _ hy)), h.nd⟩, h.ms x (p.subset List.mem_cons_self), rfl⟩
theorem GI.th {P : Pm} {g : Gh} {S S' : SS} (hP : PmO P) (h : GI P g S) (hr : thR P.nn P.gg P.C P.f S S') : ∃ g', Gs g g' ∧ GI P g' S' ∧ S'.1 100 = S.1 100 := by
  obtain ⟨x, S1, r1, r2⟩ := hr
  obtain ⟨a1, a2, a3⟩ := h.take r1.tkM
  obtain ⟨g', b1, b2, b3⟩ := a1.hand hP a2 r2
  exact ⟨g', b1, b2, by rw [b3, a3]⟩
theorem GI.mv {P : Pm} {g : Gh} {S S' : SS} (hP : PmO P) (h : GI P g S) (hr : mvR P.nn P.gg P.C P.f S S') : ∃ g', Gs g g' ∧ GI P g' S' ∧ S'.1 100 = S.1 100 := by
  rcases hr with ⟨x, S1, r1, r2⟩ | ⟨x, r1, r2⟩
  · obtain ⟨a1, a2, a3⟩ := h.take r1
    rcases r2 with r2 | r2
    · rw [r2]; exact ⟨g, Gs.rf g, a1, a3⟩
    · obtain ⟨g', b1, b2, b3⟩ := a1.hand hP a2 r2
      exact ⟨g', b1, b2, by rw [b3, a3]⟩
  · exact h.hand hP (h.ms x r1) r2
theorem GI.it {P : Pm} {R : SS → SS → Prop} (hR : ∀ g S S', GI P g S → R S S' → ∃ g', Gs g g' ∧ GI P g' S' ∧ S'.1 100 = S.1 100) : ∀ (k : Nat) {g : Gh} {S S' : SS}, GI P g S → itR R k S S' → ∃ g', Gs g g' ∧ GI P g' S' ∧ S'.1 100 = S.1 100
  | 0, g, S, S', h, hr => by
    have hr : S' = S := hr
    rw [hr]; exact ⟨g, Gs.rf g, h, rfl⟩
  | k + 1, g, S, S', h, hr => by
    obtain ⟨S1, r1, r2⟩ := hr
    obtain ⟨g1, a1, a2, a3⟩ := GI.it hR k h r1
    obtain ⟨g2, b1, b2, b3⟩ := hR g1 S1 S' a2 r2
    exact ⟨g2, a1.tr b1, b2, by rw [b3, a3]⟩
theorem GI.nw {P : Pm} {u b : Nat → Int32} (hP : PmO P) : ∀ (k i : Nat) {g : Gh} {S S' : SS}, i + k ≤ P.nn → GI P g S → nwR P.nn P.gg P.C P.f u b k i S S' → ∃ g', Gs g g' ∧ GI P g' S' ∧ S'.1 100 = S.1 100
  | 0, i, g, S, S', _, h, hr => by
    have hr : S' = S := hr
    rw [hr]; exact ⟨g, Gs.rf g, h, rfl⟩
  | k + 1, i, g, S, S', hi, h, hr => by
    rcases hr with ⟨_, r⟩ | ⟨r0, S1, r1, r2⟩
    · exact GI.nw hP k (i + 1) (by omega) h r
    · rcases h.nd i (by omega) with ⟨y, _⟩ | ⟨_, e, y⟩
      · exact absurd y r0
      · obtain ⟨g', g1, g2⟩ := h.node (by omega) (nwork h.go hP.gg hP.nn (by omega) y h.ms) r0 r1
        obtain ⟨g2', c1, c2, c3⟩ := GI.nw hP k (i + 1) (by omega) g2 r2
        refine ⟨g2', g1.gs.tr c1, c2, ?_⟩
        obtain ⟨ms', _, w⟩ := r1
        rw [c3, w]
/-- a TICK -/
theorem GI.tick {P : Pm} {g : Gh} {S S' : SS} (hP : PmO P) (h : GI P g S) (hr : tkR P.nn P.gg P.C P.f S S') : ∃ g', Gs g g' ∧ GI P g' S' ∧ S'.1 100 = S.1 100 := by
  obtain ⟨u, b, ms1, ms2, r1, r2, r3⟩ := hr
  obtain ⟨he, ha⟩ := h.as
  rw [ha.ep.1, ha.ep.2] at r1
  have m1 := tm_ok (Nat.le_refl _) rfl P.nn 0 _ _ h.ms r1
  have m2 := ask_ok h.go ha m1 r2
  have h2 : GI P g (S.1, S.2.1, ms2, S.2.2.2) := ⟨h.go, h.ep, h.as, m2, h.nd⟩
  obtain ⟨g', c1, c2, c3⟩ := GI.nw hP P.nn 0 (by omega) h2 r3
  exact ⟨g', c1, c2, c3⟩
/-- the store's own cells -/
theorem GI.own {P : Pm} {g : Gh} {S : SS} {E' : Nat → Nat → Int32} (h : GI P g S) (hE : ∀ x, 8 ≤ x → E' 4 x = S.1 4 x) : GI P g (E', S.2) := by
  obtain ⟨he, ha⟩ := h.as
  exact ⟨h.go, h.ep, ⟨he, ⟨by show E' 4 8 = _; rw [hE 8 (by omega)]; exact ha.bg, ha.h1, by show E' 4 9 = _; rw [hE 9 (by omega)]; exact ha.h2, by show E' 4 12 = _; rw [hE 12 (by omega)]; exact ha.ef, ha.kp, ha.qs, ⟨by show E' 4 13 = _; rw [hE 13 (by omega)]; exact ha.ep.1, by show E' 4 14 = _; rw [hE 14 (by omega)]; exact ha.ep.2⟩, ha.hh, ⟨ha.se.1, ha.se.2.1, by show E' 4 10 = _; rw [hE 10 (by omega)]; exact ha.se.2.2⟩, fun n hn zb => ha.mh n hn (by rw [← hE 15 (by omega)]; exact zb)⟩⟩, h.ms, h.nd⟩
theorem GI.ncm {P : Pm} {g : Gh} {S : SS} (h : GI P g S) : GI P g (ncm S) := h.own (fun x _ => by rw [va_up_n _ _ (by decide)])
/-- one NODE's state is put anew, and nothing told -/
theorem GI.put {P : Pm} {g : Gh} {S S' : SS} {s : St} {j : Nat} (h : GI P g S) (hr : nodR s j S S') (hm : MOL P g s.2.2.2) (hn : (s.1 0 6 = 0 ∧ ∃ e, ND P g j e s.1) ∨ (¬ s.1 0 6 = 0 ∧ ∃ e, NU P g j e s.1 s.2.1)) : GI P g S' := by
  obtain ⟨ms', m1, m2⟩ := hr
  subst m2
  refine ⟨h.go, h.ep, h.as, MOL.sm h.go m1 hm, fun i hi => ?_⟩
  by_cases e : i = j
  · subst e
    show (va_up S.2.2.2.1 i s.1 i 0 6 = 0 ∧ ∃ e, ND P g i e (va_up S.2.2.2.1 i s.1 i)) ∨ (¬ va_up S.2.2.2.1 i s.1 i 0 6 = 0 ∧ ∃ e, NU P g i e (va_up S.2.2.2.1 i s.1 i) (va_up S.2.2.2.2.1 i s.2.1 i))
    rw [va_up_s, va_up_s]
    exact hn
  · show (va_up S.2.2.2.1 j s.1 i 0 6 = 0 ∧ ∃ e, ND P g i e (va_up S.2.2.2.1 j s.1 i)) ∨ (¬ va_up S.2.2.2.1 j s.1 i 0 6 = 0 ∧ ∃ e, NU P g i e (va_up S.2.2.2.1 j s.1 i) (va_up S.2.2.2.2.1 j s.2.1 i))
    rw [va_up_n _ _ e, va_up_n _ _ e]
    exact h.nd i hi
theorem GI.sleep {P : Pm} {g : Gh} {S S' : SS} {u b : Nat → Int32} {j : Nat} {y0 z : Int32} (h : GI P g S) (hj : j < P.nn) (hup : ¬ S.2.2.2.1 j 0 6 = 0) (hr : nodR (F_142 P.nn P.gg P.C (nI j) P.f u b (S.2.2.2.1 j) (S.2.2.2.2.1 j) (S.2.2.2.2.2 j) S.2.2.1 y0 z) j S S') : GI P g S' := by
  rcases h.nd j hj with ⟨y, _⟩ | ⟨_, e, y⟩
  · exact absurd y hup
  · obtain ⟨D', r1, r2, r3⟩ := nsleep (u := u) (b := b) (A := S.2.2.2.2.2 j) (Y := S.2.2.1) (mk_ := y0) (pt := z) y
    rw [r1] at hr
    exact h.put hr h.ms (Or.inl ⟨r3, e, r2⟩)
theorem GI.wake {P : Pm} {g : Gh} {S S' : SS} {u b : Nat → Int32} {j : Nat} (h : GI P g S) (hj : j < P.nn) (hdn : S.2.2.2.1 j 0 6 = 0) (hr : nodR (F_18 P.nn P.gg P.C (nI j) P.f u b (S.2.2.2.1 j) (S.2.2.2.2.1 j) (S.2.2.2.2.2 j) S.2.2.1 (S.1 4 13) (S.1 4 14)) j S S') : GI P g S' := by
  rcases h.nd j hj with ⟨_, e, y⟩ | ⟨y, _⟩
  · obtain ⟨he, ha⟩ := h.as
    rw [ha.ep.1, ha.ep.2] at hr
    obtain ⟨D', K', A', Y', r1, r2, r3, r4⟩ := nwake (u := u) (b := b) (K := S.2.2.2.2.1 j) (A := S.2.2.2.2.2 j) y h.ep.2 h.ms
    rw [r1] at hr
    exact h.put hr r3 (Or.inr ⟨by show ¬ D' 0 6 = 0; rw [r4]; decide, g.ep, r2⟩)
  · exact absurd hdn y
theorem GI.wk {P : Pm} : ∀ (k i : Nat) {g : Gh} {S S' : SS}, i + k ≤ P.nn → GI P g S → wkR P.nn P.gg P.C P.f k i S S' → GI P g S' ∧ S'.1 = S.1
  | 0, i, g, S, S', _, h, hr => by
    have hr : S' = S := hr
    rw [hr]; exact ⟨h, rfl⟩
  | k + 1, i, g, S, S', hi, h, hr => by
    rcases hr with ⟨_, r⟩ | ⟨r0, u, b, S1, r1, r2⟩
    · exact GI.wk k (i + 1) (by omega) h r
    · have h1 := h.wake (by omega) r0 r1
      obtain ⟨a1, a2⟩ := GI.wk k (i + 1) (by omega) h1 r2
      refine ⟨a1, ?_⟩
      obtain ⟨ms', _, w⟩ := r1
      rw [a2, w]

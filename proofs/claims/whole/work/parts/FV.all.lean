/-! what is true besides at every call: MESSAGES (MS), their number, goOn -/
def GDs (P : Pm) (g : Gh) (S : SS) : Prop := ∀ j, j < P.nn → ¬ S.2.2.2.1 j 0 6 = 0 → ¬ ldB P.f P.nn (nI j) (S.2.2.2.1 j 0 8) = 0 → GH P g (S.2.2.2.1 j) (S.2.2.2.2.1 j)
def SX (P : Pm) (g : Gh) (S : SS) : Prop := S.2.2.1.length ≤ 128 ∧ (∀ x ∈ S.2.2.1, MS P g x) ∧ GDs P g S
theorem GDs.hd {P : Pm} {g g' : Gh} {S : SS} (h : GDs P g S) (e : g.hd ≤ g'.hd) : GDs P g' S := fun j hj a b => (h j hj a b).mono e
theorem GI.hde {P : Pm} {g g' : Gh} {S : SS} (h : GI P g S) (h' : GI P g' S) : g.hd = g'.hd := by
  obtain ⟨he, ha⟩ := h.as
  obtain ⟨he', ha'⟩ := h'.as
  have h1 := h.go.1
  have h2 := h'.go.1
  have h3 := ha.h1
  have h4 := ha'.h1
  rw [ha.hh, ha'.hh]
  exact nI_inj (by omega) (by omega) (ha.h2.symm.trans ha'.h2)
theorem SX.mono {P : Pm} {g g' : Gh} {S : SS} (hg : Gle g g') (h : SX P g S) : SX P g' S := ⟨h.1, fun x hx => (h.2.1 x hx).mono hg, fun j hj a b => (h.2.2 j hj a b).mono hg.hd⟩
theorem SX.put {P : Pm} {g : Gh} {S S' : SS} {s : St} {j : Nat} {D' : Nat → Nat → Int32} {K' A' : Int64} {Z : List Mg} (h : SX P g S) (hr : nodR s j S S') (hs : s = (D', K', A', psl S.2.2.1 Z)) (hZ : ∀ z ∈ Z, MS P g z) (hd : ¬ D' 0 6 = 0 → ¬ ldB P.f P.nn (nI j) (D' 0 8) = 0 → GH P g D' K') : SX P g S' := by
  obtain ⟨ms', m1, m2⟩ := hr
  subst hs
  subst m2
  refine ⟨?_, fun x hx => ?_, fun i hi => ?_⟩
  · show ms'.length ≤ 128
    rw [smL.len m1]; exact psl_le Z h.1
  · obtain ⟨y, y1, y2⟩ := smL_mem m1 hx
    rcases psl_in Z y1 with q | q
    · exact (h.2.1 y q).sm y2
    · exact (hZ y q).sm y2
  · show ¬ va_up S.2.2.2.1 j D' i 0 6 = 0 → ¬ ldB P.f P.nn (nI i) (va_up S.2.2.2.1 j D' i 0 8) = 0 → GH P g (va_up S.2.2.2.1 j D' i) (va_up S.2.2.2.2.1 j K' i)
    by_cases e : i = j
    · subst e
      rw [va_up_s, va_up_s]; exact hd
    · rw [va_up_n _ _ e, va_up_n _ _ e]; exact h.2.2 i hi
theorem SX.ms {P : Pm} {g : Gh} {S : SS} {E' : Nat → Nat → Int32} {Q' : Nat → Mg} {ms' : List Mg} {Z : List Mg} (h : SX P g S) (hs : ms' = psl S.2.2.1 Z) (hZ : ∀ z ∈ Z, MS P g z) : SX P g (E', Q', ms', S.2.2.2) := by
  refine ⟨?_, fun x hx => ?_, h.2.2⟩
  · show ms'.length ≤ 128
    rw [hs]; exact psl_le Z h.1
  · have hx : x ∈ ms' := hx
    rw [hs] at hx
    rcases psl_in Z hx with q | q
    · exact h.2.1 x q
    · exact hZ x q
theorem MS.k0 {P : Pm} {g : Gh} {x : Mg} (h : x.1 0 = 0) : MS P g x := MS.no (by rw [h]; decide) (by rw [h]; decide) (by rw [h]; decide) (by rw [h]; decide)
theorem MS.k2 {P : Pm} {g : Gh} {x : Mg} (h : x.1 0 = 2) : MS P g x := MS.no (by rw [h]; decide) (by rw [h]; decide) (by rw [h]; decide) (by rw [h]; decide)
theorem MS.k4 {P : Pm} {g : Gh} {x : Mg} (h : x.1 0 = 4) : MS P g x := MS.no (by rw [h]; decide) (by rw [h]; decide) (by rw [h]; decide) (by rw [h]; decide)
theorem SX.hand {P : Pm} {g : Gh} {S S' : SS} {x : Mg} (hP : PmO P) (hi : GI P g S) (h : SX P g S) (hm : ∃ e, MO P g e x) (hs : MS P g x) (hr : hoR P.nn P.gg P.C P.f x S S') : SX P g S' := by
  rcases hr with ⟨_, z⟩ | ⟨j, j1, j2, j3, j4⟩ | ⟨_, _, z⟩
  · rcases z with ⟨_, z⟩ | ⟨_, _, z⟩ | ⟨_, _, ms', z, zr⟩
    · rw [z]; exact h
    · rw [z]; exact h
    · obtain ⟨Z, z1, _, z3, _⟩ := ask_z zr
      rw [z]
      exact h.ms z1 (fun z hz => MS.k2 (z3 z hz).1)
  · obtain ⟨e2, hm⟩ := hm
    have hep := hi.ep.1
    rcases hi.nd j j1 with ⟨y, _⟩ | ⟨_, e, y⟩
    · exact absurd y j3
    · obtain ⟨D', K', A', Z, r1, r2, _⟩ := hear_y (A := S.2.2.2.2.2 j) (Y := S.2.2.1) hi.go (SU.b12 hi) (by omega) hP.gg hP.nn hP.f j1 y hm hs
      exact h.put j4 r1 (fun z hz => (r2 z hz).1) (fun _ => gh_55 hi.go (SU.b12 hi) (by omega) hP.gg hP.nn hP.f j1 y hm hs (h.2.2 j j1 j3) r1)
  · rw [z]; exact h
def GIX (P : Pm) (g : Gh) (S : SS) : Prop := GI P g S ∧ SX P g S
theorem GIX.hand {P : Pm} {g : Gh} {S S' : SS} {x : Mg} (hP : PmO P) (h : GIX P g S) (hm : ∃ e, MO P g e x) (hs : MS P g x) (hr : hoR P.nn P.gg P.C P.f x S S') : ∃ g', Gs g g' ∧ GIX P g' S' ∧ S'.1 100 = S.1 100 := by
  obtain ⟨g', a, b, c⟩ := h.1.hand hP hm hr
  exact ⟨g', a, ⟨b, (h.2.hand hP h.1 hm hs hr).mono a.le⟩, c⟩
theorem GIX.take {P : Pm} {g : Gh} {S S' : SS} {x : Mg} (h : GIX P g S) (hr : tkM x S S') : GIX P g S' ∧ (∃ e, MO P g e x) ∧ MS P g x ∧ S'.1 100 = S.1 100 := by
  obtain ⟨a, b, c⟩ := h.1.take hr
  obtain ⟨ms', p, z⟩ := hr
  refine ⟨⟨a, ?_⟩, b, h.2.2.1 x (p.subset List.mem_cons_self), c⟩
  rw [z]
  refine ⟨?_, fun y hy => h.2.2.1 y (p.subset (List.mem_cons_of_mem _ hy)), h.2.2.2⟩
  have := p.length_eq
  have h1 := h.2.1
  rw [List.length_cons] at this
  show ms'.length ≤ 128
  omega
theorem GIX.th {P : Pm} {g : Gh} {S S' : SS} (hP : PmO P) (h : GIX P g S) (hr : thR P.nn P.gg P.C P.f S S') : ∃ g', Gs g g' ∧ GIX P g' S' ∧ S'.1 100 = S.1 100 := by
  obtain ⟨x, S1, r1, r2⟩ := hr
  obtain ⟨a1, a2, a4, a3⟩ := h.take r1.tkM
  obtain ⟨g', b1, b2, b3⟩ := a1.hand hP a2 a4 r2
  exact ⟨g', b1, b2, by rw [b3, a3]⟩
theorem GIX.mv {P : Pm} {g : Gh} {S S' : SS} (hP : PmO P) (h : GIX P g S) (hr : mvR P.nn P.gg P.C P.f S S') : ∃ g', Gs g g' ∧ GIX P g' S' ∧ S'.1 100 = S.1 100 := by
  rcases hr with ⟨x, S1, r1, r2⟩ | ⟨x, r1, r2⟩
  · obtain ⟨a1, a2, a4, a3⟩ := h.take r1
    rcases r2 with r2 | r2
    · rw [r2]; exact ⟨g, Gs.rf g, a1, a3⟩
    · obtain ⟨g', b1, b2, b3⟩ := a1.hand hP a2 a4 r2
      exact ⟨g', b1, b2, by rw [b3, a3]⟩
  · exact h.hand hP (h.1.ms x r1) (h.2.2.1 x r1) r2
theorem GIX.it {P : Pm} {R : SS → SS → Prop} (hR : ∀ g S S', GIX P g S → R S S' → ∃ g', Gs g g' ∧ GIX P g' S' ∧ S'.1 100 = S.1 100) : ∀ (k : Nat) {g : Gh} {S S' : SS}, GIX P g S → itR R k S S' → ∃ g', Gs g g' ∧ GIX P g' S' ∧ S'.1 100 = S.1 100
  | 0, g, S, S', h, hr => by
    have hr : S' = S := hr
    rw [hr]; exact ⟨g, Gs.rf g, h, rfl⟩
  | k + 1, g, S, S', h, hr => by
    obtain ⟨S1, r1, r2⟩ := hr
    obtain ⟨g1, a1, a2, a3⟩ := GIX.it hR k h r1
    obtain ⟨g2, b1, b2, b3⟩ := hR g1 S1 S' a2 r2
    exact ⟨g2, a1.tr b1, b2, by rw [b3, a3]⟩
theorem GIX.nw {P : Pm} {u b : Nat → Int32} (hP : PmO P) : ∀ (k i : Nat) {g : Gh} {S S' : SS}, i + k ≤ P.nn → GIX P g S → nwR P.nn P.gg P.C P.f u b k i S S' → ∃ g', Gs g g' ∧ GIX P g' S' ∧ S'.1 100 = S.1 100
  | 0, i, g, S, S', _, h, hr => by
    have hr : S' = S := hr
    rw [hr]; exact ⟨g, Gs.rf g, h, rfl⟩
  | k + 1, i, g, S, S', hi, h, hr => by
    rcases hr with ⟨_, r⟩ | ⟨r0, S1, r1, r2⟩
    · exact GIX.nw hP k (i + 1) (by omega) h r
    · rcases h.1.nd i (by omega) with ⟨y, _⟩ | ⟨_, e, y⟩
      · exact absurd y r0
      · obtain ⟨g', g1, g2⟩ := h.1.node (by omega) (nwork h.1.go hP.gg hP.nn (by omega) y h.1.ms) r0 r1
        have hx : SX P g S1 := by
          obtain ⟨D', K', A', Z, t1, t2, _, _, _, t6⟩ := tick_n (u := u) (b := b) (A := S.2.2.2.2.2 i) (Y := S.2.2.1) h.1.go hP.gg hP.nn hP.f (show i < P.nn by omega) y
          exact h.2.put r1 t1 (fun z hz => (t2 z hz).1) (fun _ q => gh_136 h.1.go hP.gg hP.nn hP.f (show i < P.nn by omega) y (h.2.2.2 i (by omega) r0) t1 (by rw [t6] at q; exact q))
        obtain ⟨g2', c1, c2, c3⟩ := GIX.nw hP k (i + 1) (by omega) ⟨g2, hx.mono g1.gs.le⟩ r2
        refine ⟨g2', g1.gs.tr c1, c2, ?_⟩
        obtain ⟨ms', _, w⟩ := r1
        rw [c3, w]
theorem GIX.tick {P : Pm} {g : Gh} {S S' : SS} (hP : PmO P) (h : GIX P g S) (hr : tkR P.nn P.gg P.C P.f S S') : ∃ g', Gs g g' ∧ GIX P g' S' ∧ S'.1 100 = S.1 100 := by
  have hnn := hP.nn
  obtain ⟨u, b, ms1, ms2, r1, r2, r3⟩ := hr
  obtain ⟨he, ha⟩ := h.1.as
  obtain ⟨Z1, z1, _, z3, _⟩ := tm_z P.nn 0 (by omega) r1
  obtain ⟨Z2, y1, _, y3, _⟩ := ask_z r2
  rw [ha.ep.1, ha.ep.2] at r1
  have m1 := tm_ok (Nat.le_refl _) rfl P.nn 0 _ _ h.1.ms r1
  have m2 := ask_ok h.1.go ha m1 r2
  have h2 : GIX P g (S.1, S.2.1, ms2, S.2.2.2) := ⟨⟨h.1.go, h.1.ep, h.1.as, m2, h.1.nd⟩, h.2.ms (Z := Z1 ++ Z2) (by rw [y1, z1, psl_app]) (fun z hz => by
    rcases List.mem_append.mp hz with q | q
    · exact MS.k0 (z3 z q).1
    · exact MS.k2 (y3 z q).1)⟩
  obtain ⟨g', c1, c2, c3⟩ := GIX.nw hP P.nn 0 (by omega) h2 r3
  exact ⟨g', c1, c2, c3⟩
theorem GIX.own {P : Pm} {g : Gh} {S : SS} {E' : Nat → Nat → Int32} (h : GIX P g S) (hE : ∀ x, 8 ≤ x → E' 4 x = S.1 4 x) : GIX P g (E', S.2) := ⟨h.1.own hE, h.2⟩
theorem GIX.ncm {P : Pm} {g : Gh} {S : SS} (h : GIX P g S) : GIX P g (ncm S) := ⟨h.1.ncm, h.2⟩
theorem SX.sleep {P : Pm} {g : Gh} {S S' : SS} {u b : Nat → Int32} {j : Nat} {y0 z : Int32} (hi : GI P g S) (h : SX P g S) (hj : j < P.nn) (hup : ¬ S.2.2.2.1 j 0 6 = 0) (hr : nodR (F_142 P.nn P.gg P.C (nI j) P.f u b (S.2.2.2.1 j) (S.2.2.2.2.1 j) (S.2.2.2.2.2 j) S.2.2.1 y0 z) j S S') : SX P g S' := by
  rcases hi.nd j hj with ⟨y, _⟩ | ⟨_, e, y⟩
  · exact absurd y hup
  · obtain ⟨D', r1, r2, r3⟩ := nsleep (u := u) (b := b) (A := S.2.2.2.2.2 j) (Y := S.2.2.1) (mk_ := y0) (pt := z) y
    exact h.put (Z := []) hr r1 (fun z hz => by cases hz) (fun q => absurd r3 q)
/-- a NODE starts -/
theorem wake_z {P : Pm} {g : Gh} {n e : Nat} {u b : Nat → Int32} {D : Nat → Nat → Int32} {K A : Int64} {Y : List Mg} (hnn : P.nn ≤ 6) (h : ND P g n e D) (hes : g.es ≤ g.ep) :
    ∃ (D1 D' : Nat → Nat → Int32) (K' A' : Int64) (Z : List Mg), F_18 P.nn P.gg P.C (nI n) P.f u b D K A Y (nI g.ep) (g.mp g.ep) = (D', K', A', psl Y Z) ∧ FLz P g n g.ep D1 D' K' A' Z ∧ D' 18 3 = 0 ∧ D' 0 6 = 1 ∧ D' 0 7 = nI g.ep ∧ D' 7 14 = 0 ∧ D' 18 4 = -1 := by
  have hd : DN (Bg P g) (va_up D 0 (upd (D 0) 6 1) 1 4) (va_up D 0 (upd (D 0) 6 1) 2) (va_up D 0 (upd (D 0) 6 1) 5) (va_up D 0 (upd (D 0) 6 1) 6) := by
    rw [va_up_n _ _ (by decide), va_up_n _ _ (by decide), va_up_n _ _ (by decide), va_up_n _ _ (by decide)]
    exact h.dn
  obtain ⟨D1, r1, r2, r3, r4, r5⟩ := DN.read (nn := P.nn) (gg := P.gg) (C := P.C) (me := nI n) (f := P.f) (u := u) (b := b) (D := va_up D 0 (upd (D 0) 6 1)) (K := K) (A := A) (Y := Y) (Bg_X P g) hd
  obtain ⟨D', K', A', Z, f1, f2⟩ := follow_z (P := P) (g := g) (n := n) (e2 := g.ep) (u := u) (b := b) (D := D1) (K := K) (A := A) hnn
  have h0 := st_29 (P := P) (me := nI n) (u := u) (b := b) (D := D1) (K := K) (A := A) (Y := Y) (e2 := nI g.ep) (s2 := g.mp g.ep) hnn
  have h14 := md_29 (P := P) (me := nI n) (u := u) (b := b) (D := D1) (K := K) (A := A) (Y := Y) (e2 := nI g.ep) (s2 := g.mp g.ep) hnn
  rw [f1 Y] at h0 h14
  refine ⟨D1, D', K', A', Z, ?_, f2, h0, ?_, ?_, h14⟩
  · unfold F_18
    rw [r1, bnS_e, f1 Y, bnS_e]
  · rw [f2.1, pk_un (by decide), pk_un (by decide), r3 0 (by omega), va_up_s, pk_us]
  · rw [f2.1, pk_un (by decide), pk_us]
theorem FLz.ms {P : Pm} {g : Gh} {n e2 : Nat} {D D' : Nat → Nat → Int32} {K' A' : Int64} {Z : List Mg} (h : FLz P g n e2 D D' K' A' Z) : ∀ z ∈ Z, MS P g z := fun z hz => by
  rcases h.2.2 with ⟨_, q⟩ | ⟨_, _, _, _, _, q, _⟩
  · rw [q] at hz; cases hz
  · obtain ⟨j, j1, j2, j3⟩ := q z hz
    exact MS.k4 (by rw [j2]; rfl)
theorem SX.wake {P : Pm} {g : Gh} {S S' : SS} {u b : Nat → Int32} {j : Nat} (hnn : P.nn ≤ 6) (hi : GI P g S) (h : SX P g S) (hj : j < P.nn) (hdn : S.2.2.2.1 j 0 6 = 0) (hr : nodR (F_18 P.nn P.gg P.C (nI j) P.f u b (S.2.2.2.1 j) (S.2.2.2.2.1 j) (S.2.2.2.2.2 j) S.2.2.1 (S.1 4 13) (S.1 4 14)) j S S') : SX P g S' := by
  rcases hi.nd j hj with ⟨_, e, y⟩ | ⟨y, _⟩
  · obtain ⟨he, ha⟩ := hi.as
    rw [ha.ep.1, ha.ep.2] at hr
    obtain ⟨D1, D', K', A', Z, r1, r2, r3, r4, _, r6⟩ := wake_z (u := u) (b := b) (K := S.2.2.2.2.1 j) (A := S.2.2.2.2.2 j) (Y := S.2.2.1) hnn y hi.ep.2
    exact h.put hr r1 r2.ms (fun _ q => GH.fr r3 (z710_29 r2 q) r6.1 r6.2 (z960_29 r2 q))
  · exact absurd hdn y
theorem GIX.wk {P : Pm} (hnn : P.nn ≤ 6) : ∀ (k i : Nat) {g : Gh} {S S' : SS}, i + k ≤ P.nn → GIX P g S → wkR P.nn P.gg P.C P.f k i S S' → GIX P g S' ∧ S'.1 = S.1
  | 0, i, g, S, S', _, h, hr => by
    have hr : S' = S := hr
    rw [hr]; exact ⟨h, rfl⟩
  | k + 1, i, g, S, S', hi, h, hr => by
    rcases hr with ⟨_, r⟩ | ⟨r0, u, b, S1, r1, r2⟩
    · exact GIX.wk hnn k (i + 1) (by omega) h r
    · have h1 := h.1.wake (by omega) r0 r1
      have h2 := h.2.wake hnn h.1 (by omega) r0 r1
      obtain ⟨a1, a2⟩ := GIX.wk hnn k (i + 1) (by omega) ⟨h1, h2⟩ r2
      refine ⟨a1, ?_⟩
      obtain ⟨ms', _, w⟩ := r1
      rw [a2, w]
theorem GIX.dr {P : Pm} {g : Gh} {S S' : SS} (hP : PmO P) (h : GIX P g S) (hr : drR P.nn P.gg P.C P.f S S') : ∃ g', Gs g g' ∧ GIX P g' S' ∧ S'.1 100 = S.1 100 := by
  obtain ⟨k, _, z, _⟩ := hr
  exact GIX.it (fun g S S' a b => a.th hP b) k h z
theorem GIX.stl {P : Pm} (hP : PmO P) : ∀ (k t : Nat) {g : Gh} {S S' : SS}, GIX P g S → stl P.nn P.gg P.C P.f k t S S' → ∃ g', Gs g g' ∧ GIX P g' S' ∧ S'.1 100 = S.1 100
  | 0, t, g, S, S', h, hr => by
    have hr : S' = S := hr
    rw [hr]; exact ⟨g, Gs.rf g, h, rfl⟩
  | k + 1, t, g, S, S', h, hr => by
    rcases hr with ⟨_, z⟩ | ⟨_, S1, S2, z1, z2, z3⟩
    · rw [z]; exact ⟨g, Gs.rf g, h, rfl⟩
    · have h1 : ∃ g', Gs g g' ∧ GIX P g' S1 ∧ S1.1 100 = S.1 100 := by
        rcases z1 with ⟨_, w⟩ | ⟨_, w⟩
        · rw [w]; exact ⟨g, Gs.rf g, h, rfl⟩
        · exact h.tick hP w
      obtain ⟨g1, a1, a2, a3⟩ := h1
      obtain ⟨g2, b1, b2, b3⟩ := a2.dr hP z2
      obtain ⟨g3, c1, c2, c3⟩ := GIX.stl hP k (t + 1) b2 z3
      exact ⟨g3, a1.tr (b1.tr c1), c2, by rw [c3, b3, a3]⟩

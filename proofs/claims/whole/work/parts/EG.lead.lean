/-! what is true of a leader -/
theorem FE.mono {ops : Nat → Mg} {G G' : (Nat → Int32) → Prop} {o : Nat} {D : Nat → Nat → Int32} {K : Int64} (hG : ∀ w, G w → G' w) (h : FE ops G o D K) : FE ops G' o D K := by
  obtain ⟨a1, a2, a3, a4, a5, a6, a7, sp, c, a, s1, s2, s3, s4, s5, s6, s7, s8⟩ := h
  refine ⟨a1, a2, a3, a4, a5, a6, a7, sp, c, a, s1, s2, s3, s4, s5, s6, fun j hj => ?_, fun j hj hb fx h1 h2 h3 => ?_⟩
  · rcases s7 j hj with z | ⟨z1, z2, z3, z4⟩
    · exact Or.inl z
    · exact Or.inr ⟨z1, z2, hG _ z3, z4⟩
  · obtain ⟨b1, b2⟩ := s8 j hj hb fx h1 h2 h3
    exact ⟨hG _ b1, b2⟩
/-- the table is that of a ROOT that stands somewhere (r: the OPERATIONS up to it) -/
def RTb (P : Pm) (g : Gh) (r : Nat) (D : Nat → Nat → Int32) (K : Int64) : Prop :=
  (r ≤ g.bg) ∧
  (D 16 960 = efv g.ops r) ∧
  (TR (tsp g.ops r) (D 10 9) (D 11) (D 12) (D 13) (D 14) (D 15) (D 16) K) ∧
  (D 10 10 = efA g.ops r) ∧
  (∀ v, v < 512 → efv g.ops r = nI v → made P g v)
theorem RTb.r1 {P : Pm} {g : Gh} {r : Nat} {D : Nat → Nat → Int32} {K : Int64} (h_ : RTb P g r D K) : r ≤ g.bg := h_.1
theorem RTb.rt {P : Pm} {g : Gh} {r : Nat} {D : Nat → Nat → Int32} {K : Int64} (h_ : RTb P g r D K) : D 16 960 = efv g.ops r := h_.2.1
theorem RTb.tr {P : Pm} {g : Gh} {r : Nat} {D : Nat → Nat → Int32} {K : Int64} (h_ : RTb P g r D K) : TR (tsp g.ops r) (D 10 9) (D 11) (D 12) (D 13) (D 14) (D 15) (D 16) K := h_.2.2.1
theorem RTb.an {P : Pm} {g : Gh} {r : Nat} {D : Nat → Nat → Int32} {K : Int64} (h_ : RTb P g r D K) : D 10 10 = efA g.ops r := h_.2.2.2.1
theorem RTb.md {P : Pm} {g : Gh} {r : Nat} {D : Nat → Nat → Int32} {K : Int64} (h_ : RTb P g r D K) : ∀ v, v < 512 → efv g.ops r = nI v → made P g v := h_.2.2.2.2
/-- what was asked for last: OPERATION o -/
def WA (g : Gh) (o : Nat) (D : Nat → Nat → Int32) : Prop :=
  (o < g.bg) ∧
  (g.sn ≤ o ∧ o ≤ g.hd) ∧
  (AKD (g.ops o) o D) ∧
  (D 18 6 = efv g.ops o)
theorem WA.o1 {g : Gh} {o : Nat} {D : Nat → Nat → Int32} (h_ : WA g o D) : o < g.bg := h_.1
theorem WA.o2 {g : Gh} {o : Nat} {D : Nat → Nat → Int32} (h_ : WA g o D) : g.sn ≤ o ∧ o ≤ g.hd := h_.2.1
theorem WA.ak {g : Gh} {o : Nat} {D : Nat → Nat → Int32} (h_ : WA g o D) : AKD (g.ops o) o D := h_.2.2.1
theorem WA.bf {g : Gh} {o : Nat} {D : Nat → Nat → Int32} (h_ : WA g o D) : D 18 6 = efv g.ops o := h_.2.2.2
/-- the new ITEMS of OPERATION o, in the blocks -/
def NB (P : Pm) (g : Gh) (o : Nat) (D : Nat → Nat → Int32) : Prop :=
  (∀ j, j < 9 → (∀ x, x < 128 → D 21 (j * 128 + x) = 0) ∨ (j < 8 ∧ D 21 (j * 128) = (1 : Int32) <<< (24 &&& 31) ∧ Bg P g (fun x => D 21 (j * 128 + x)) ∧ ∃ k, D 21 (j * 128 + 1) = nI k ∧ k < 5242880 ∧ k % 512 = o ∧ isIt (tsp g.ops (o + 1)) (nI o) k)) ∧
  (D 16 960 = nI o ∨ ∀ k, k < 5242880 → k % 512 = o → isIt (tsp g.ops (o + 1)) (nI o) k → ∃ j, j < 8 ∧ D 21 (j * 128) = (1 : Int32) <<< (24 &&& 31) ∧ D 21 (j * 128 + 1) = nI k)
theorem NB.b1 {P : Pm} {g : Gh} {o : Nat} {D : Nat → Nat → Int32} (h_ : NB P g o D) : ∀ j, j < 9 → (∀ x, x < 128 → D 21 (j * 128 + x) = 0) ∨ (j < 8 ∧ D 21 (j * 128) = (1 : Int32) <<< (24 &&& 31) ∧ Bg P g (fun x => D 21 (j * 128 + x)) ∧ ∃ k, D 21 (j * 128 + 1) = nI k ∧ k < 5242880 ∧ k % 512 = o ∧ isIt (tsp g.ops (o + 1)) (nI o) k) := h_.1
theorem NB.b2 {P : Pm} {g : Gh} {o : Nat} {D : Nat → Nat → Int32} (h_ : NB P g o D) : D 16 960 = nI o ∨ ∀ k, k < 5242880 → k % 512 = o → isIt (tsp g.ops (o + 1)) (nI o) k → ∃ j, j < 8 ∧ D 21 (j * 128) = (1 : Int32) <<< (24 &&& 31) ∧ D 21 (j * 128 + 1) = nI k := h_.2
/-- STORE: the table is ahead of the ROOT, or the ROOT is the OPERATION's own -/
def SE (P : Pm) (g : Gh) (o : Nat) (D : Nat → Nat → Int32) (K : Int64) : Prop :=
  (WA g o D) ∧
  (eff g o) ∧
  (TKD (tsp g.ops (o + 1)) D K) ∧
  ((D 16 960 = efv g.ops o ∧ ∀ v, v < 512 → efv g.ops o = nI v → made P g v) ∨ (D 16 960 = nI o ∧ D 10 10 = efA g.ops (o + 1) ∧ made P g o)) ∧
  (D 18 5 = efA g.ops (o + 1)) ∧
  (NB P g o D)
theorem SE.wa {P : Pm} {g : Gh} {o : Nat} {D : Nat → Nat → Int32} {K : Int64} (h_ : SE P g o D K) : WA g o D := h_.1
theorem SE.ef {P : Pm} {g : Gh} {o : Nat} {D : Nat → Nat → Int32} {K : Int64} (h_ : SE P g o D K) : eff g o := h_.2.1
theorem SE.tk {P : Pm} {g : Gh} {o : Nat} {D : Nat → Nat → Int32} {K : Int64} (h_ : SE P g o D K) : TKD (tsp g.ops (o + 1)) D K := h_.2.2.1
theorem SE.rt {P : Pm} {g : Gh} {o : Nat} {D : Nat → Nat → Int32} {K : Int64} (h_ : SE P g o D K) : (D 16 960 = efv g.ops o ∧ ∀ v, v < 512 → efv g.ops o = nI v → made P g v) ∨ (D 16 960 = nI o ∧ D 10 10 = efA g.ops (o + 1) ∧ made P g o) := h_.2.2.2.1
theorem SE.a5 {P : Pm} {g : Gh} {o : Nat} {D : Nat → Nat → Int32} {K : Int64} (h_ : SE P g o D K) : D 18 5 = efA g.ops (o + 1) := h_.2.2.2.2.1
theorem SE.nb {P : Pm} {g : Gh} {o : Nat} {D : Nat → Nat → Int32} {K : Int64} (h_ : SE P g o D K) : NB P g o D := h_.2.2.2.2.2
/-- COMMIT -/
def CE (P : Pm) (g : Gh) (o : Nat) (D : Nat → Nat → Int32) (K : Int64) : Prop :=
  (WA g o D) ∧
  (eff g o) ∧
  (TKD (tsp g.ops (o + 1)) D K) ∧
  (D 16 960 = nI o) ∧
  (D 10 10 = efA g.ops (o + 1)) ∧
  (made P g o) ∧
  (D 18 5 = efA g.ops (o + 1)) ∧
  (D 21 1024 = (1 : Int32) <<< (24 &&& 31) ∧ D 21 1025 = nI (rtg o) ∧ Bg P g (fun x => D 21 (1024 + x)))
theorem CE.wa {P : Pm} {g : Gh} {o : Nat} {D : Nat → Nat → Int32} {K : Int64} (h_ : CE P g o D K) : WA g o D := h_.1
theorem CE.ef {P : Pm} {g : Gh} {o : Nat} {D : Nat → Nat → Int32} {K : Int64} (h_ : CE P g o D K) : eff g o := h_.2.1
theorem CE.tk {P : Pm} {g : Gh} {o : Nat} {D : Nat → Nat → Int32} {K : Int64} (h_ : CE P g o D K) : TKD (tsp g.ops (o + 1)) D K := h_.2.2.1
theorem CE.rt {P : Pm} {g : Gh} {o : Nat} {D : Nat → Nat → Int32} {K : Int64} (h_ : CE P g o D K) : D 16 960 = nI o := h_.2.2.2.1
theorem CE.an {P : Pm} {g : Gh} {o : Nat} {D : Nat → Nat → Int32} {K : Int64} (h_ : CE P g o D K) : D 10 10 = efA g.ops (o + 1) := h_.2.2.2.2.1
theorem CE.md {P : Pm} {g : Gh} {o : Nat} {D : Nat → Nat → Int32} {K : Int64} (h_ : CE P g o D K) : made P g o := h_.2.2.2.2.2.1
theorem CE.a5 {P : Pm} {g : Gh} {o : Nat} {D : Nat → Nat → Int32} {K : Int64} (h_ : CE P g o D K) : D 18 5 = efA g.ops (o + 1) := h_.2.2.2.2.2.2.1
theorem CE.b8 {P : Pm} {g : Gh} {o : Nat} {D : Nat → Nat → Int32} {K : Int64} (h_ : CE P g o D K) : D 21 1024 = (1 : Int32) <<< (24 &&& 31) ∧ D 21 1025 = nI (rtg o) ∧ Bg P g (fun x => D 21 (1024 + x)) := h_.2.2.2.2.2.2.2
def LO (P : Pm) (g : Gh) (e : Nat) (D : Nat → Nat → Int32) (K : Int64) : Prop :=
  (D 7 7 = nI e ∧ D 7 8 = g.mp e ∧ e ≤ g.ep ∧ g.es ≤ e) ∧
  (∀ i, i < P.gg → D 8 i = gm P.nn P.C P.f (g.mp e) i) ∧
  (∀ a k, a < 961 → ¬ D 16 a < 0 → tgA (D 11) (D 16) a = nI k → k < 5243392 → ∀ n, n < P.nn → bt (D 17 a) n = true → g.rep e n k) ∧
  (∀ f p, f < 48 → ¬ D 11 f = -1 → bq K f = false → p < 19 → D 17 (f * 20 + p) = 0) ∧
  ((D 18 3 = 0 ∧ ∃ r, RTb P g r D K) ∨ (D 18 3 = 1 ∧ (∃ r, RTb P g r D K) ∧ ∃ o, WA g o D) ∨ (D 18 3 = 2 ∧ ∃ o, (o < g.bg ∧ g.sn ≤ o ∧ o ≤ g.hd) ∧ FE g.ops (Bg P g) o D K ∧ D 18 6 = efv g.ops o ∧ D 10 10 = efA g.ops o ∧ ∀ v, v < 512 → efv g.ops o = nI v → made P g v) ∨ (D 18 3 = 3 ∧ ∃ o, SE P g o D K) ∨ (D 18 3 = 4 ∧ ∃ o, CE P g o D K))
theorem LO.l1 {P : Pm} {g : Gh} {e : Nat} {D : Nat → Nat → Int32} {K : Int64} (h_ : LO P g e D K) : D 7 7 = nI e ∧ D 7 8 = g.mp e ∧ e ≤ g.ep ∧ g.es ≤ e := h_.1
theorem LO.l2 {P : Pm} {g : Gh} {e : Nat} {D : Nat → Nat → Int32} {K : Int64} (h_ : LO P g e D K) : ∀ i, i < P.gg → D 8 i = gm P.nn P.C P.f (g.mp e) i := h_.2.1
theorem LO.hd {P : Pm} {g : Gh} {e : Nat} {D : Nat → Nat → Int32} {K : Int64} (h_ : LO P g e D K) : ∀ a k, a < 961 → ¬ D 16 a < 0 → tgA (D 11) (D 16) a = nI k → k < 5243392 → ∀ n, n < P.nn → bt (D 17 a) n = true → g.rep e n k := h_.2.2.1
theorem LO.hz {P : Pm} {g : Gh} {e : Nat} {D : Nat → Nat → Int32} {K : Int64} (h_ : LO P g e D K) : ∀ f p, f < 48 → ¬ D 11 f = -1 → bq K f = false → p < 19 → D 17 (f * 20 + p) = 0 := h_.2.2.2.1
theorem LO.st {P : Pm} {g : Gh} {e : Nat} {D : Nat → Nat → Int32} {K : Int64} (h_ : LO P g e D K) : (D 18 3 = 0 ∧ ∃ r, RTb P g r D K) ∨ (D 18 3 = 1 ∧ (∃ r, RTb P g r D K) ∧ ∃ o, WA g o D) ∨ (D 18 3 = 2 ∧ ∃ o, (o < g.bg ∧ g.sn ≤ o ∧ o ≤ g.hd) ∧ FE g.ops (Bg P g) o D K ∧ D 18 6 = efv g.ops o ∧ D 10 10 = efA g.ops o ∧ ∀ v, v < 512 → efv g.ops o = nI v → made P g v) ∨ (D 18 3 = 3 ∧ ∃ o, SE P g o D K) ∨ (D 18 3 = 4 ∧ ∃ o, CE P g o D K) := h_.2.2.2.2
/-- the history grows -/
theorem Gle.efvE {g g' : Gh} (h : Gle g g') {k : Nat} (hk : k ≤ g.bg) : efv g'.ops k = efv g.ops k := efv_cg (fun o ho => h.ops o (Nat.lt_of_lt_of_le ho hk))
theorem Gle.efAE {g g' : Gh} (h : Gle g g') {k : Nat} (hk : k ≤ g.bg) : efA g'.ops k = efA g.ops k := efA_cg (fun o ho => h.ops o (Nat.lt_of_lt_of_le ho hk))
theorem efv_lt {ops : Nat → Mg} {k v : Nat} (h : efv ops k = nI v) (hv : v < 512) (hk : k ≤ 512) : v < k ∧ ∃ x, stp (tsp ops v) v (ops v) = some x := by
  rcases efv_or ops k with z | ⟨w, a, b, c, _⟩
  · rw [z] at h; exact absurd h.symm (nIneg (by omega))
  · rw [b] at h
    have := nI_inj (by omega) (by omega) h
    subst this
    exact ⟨a, c⟩
theorem RTb.mono {P : Pm} {g g' : Gh} {r : Nat} {D : Nat → Nat → Int32} {K : Int64} (hg : Gle g g') (h5 : g.bg ≤ 512) (h : RTb P g r D K) : RTb P g' r D K := ⟨Nat.le_trans h.r1 hg.bg, by rw [hg.efvE h.r1]; exact h.rt, by rw [hg.tspE h.r1]; exact h.tr, by rw [hg.efAE h.r1]; exact h.an, fun v hv e => by
  rw [hg.efvE h.r1] at e
  have := (efv_lt e hv (by have := h.r1; omega)).1
  exact hg.madeM (by have := h.r1; omega) (h.md v hv e)⟩
theorem WA.mono {g g' : Gh} {o : Nat} {D : Nat → Nat → Int32} (hg : Gle g g') (h : WA g o D) : WA g' o D := ⟨Nat.lt_of_lt_of_le h.o1 hg.bg, ⟨by rw [hg.sn]; exact h.o2.1, Nat.le_trans h.o2.2 hg.hd⟩, by rw [hg.ops o h.o1]; exact h.ak, by rw [hg.efvE (Nat.le_of_lt h.o1)]; exact h.bf⟩
theorem FE.mono2 {g g' : Gh} {G : (Nat → Int32) → Prop} {o : Nat} {D : Nat → Nat → Int32} {K : Int64} (hg : Gle g g') (ho : o < g.bg) (h : FE g.ops G o D K) : FE g'.ops G o D K := by
  obtain ⟨a1, a2, a3, a4, a5, a6, a7, a8⟩ := h
  have e1 := hg.tspE (Nat.le_of_lt ho)
  have e2 := hg.efvE (Nat.le_of_lt ho)
  have e3 := hg.ops o ho
  exact ⟨by rw [e1]; exact a1, by rw [e3]; exact a2, by rw [e2]; exact a3, by rw [e1, e3]; exact a4, by rw [e1, e3]; exact a5, a6, by rw [e1, e3]; exact a7, a8⟩
theorem NB.mono {P : Pm} {g g' : Gh} {o : Nat} {D : Nat → Nat → Int32} (hg : Gle g g') (ho : o < g.bg) (h : NB P g o D) : NB P g' o D := by
  have e1 := hg.tspE (k := o + 1) ho
  refine ⟨fun j hj => ?_, ?_⟩
  · rcases h.b1 j hj with z | ⟨z1, z2, z3, z4⟩
    · exact Or.inl z
    · exact Or.inr ⟨z1, z2, hg.BgM z3, by rw [e1]; exact z4⟩
  · rw [e1]; exact h.b2
theorem SE.mono {P : Pm} {g g' : Gh} {o : Nat} {D : Nat → Nat → Int32} {K : Int64} (hg : Gle g g') (h5 : g.bg ≤ 512) (h : SE P g o D K) : SE P g' o D K := by
  have ho := h.wa.o1
  refine ⟨h.wa.mono hg, hg.effM h.ef, by rw [hg.tspE (k := o + 1) ho]; exact h.tk, ?_, by rw [hg.efAE (k := o + 1) ho]; exact h.a5, h.nb.mono hg ho⟩
  rcases h.rt with ⟨z1, z2⟩ | ⟨z1, z2, z3⟩
  · refine Or.inl ⟨by rw [hg.efvE (Nat.le_of_lt ho)]; exact z1, fun v hv e => ?_⟩
    rw [hg.efvE (Nat.le_of_lt ho)] at e
    have := (efv_lt e hv (by omega)).1
    exact hg.madeM (by omega) (z2 v hv e)
  · exact Or.inr ⟨z1, by rw [hg.efAE (k := o + 1) ho]; exact z2, hg.madeM ho z3⟩
theorem CE.mono {P : Pm} {g g' : Gh} {o : Nat} {D : Nat → Nat → Int32} {K : Int64} (hg : Gle g g') (h : CE P g o D K) : CE P g' o D K := by
  have ho := h.wa.o1
  exact ⟨h.wa.mono hg, hg.effM h.ef, by rw [hg.tspE (k := o + 1) ho]; exact h.tk, h.rt, by rw [hg.efAE (k := o + 1) ho]; exact h.an, hg.madeM ho h.md, by rw [hg.efAE (k := o + 1) ho]; exact h.a5, h.b8.1, h.b8.2.1, hg.BgM h.b8.2.2⟩
theorem LO.mono {P : Pm} {g g' : Gh} {e : Nat} {D : Nat → Nat → Int32} {K : Int64} (hg : Gle g g') (h5 : g.bg ≤ 512) (h : LO P g e D K) : LO P g' e D K := by
  have he := h.l1.2.2.1
  refine ⟨⟨h.l1.1, by rw [hg.mp e he]; exact h.l1.2.1, Nat.le_trans he hg.ep, by rw [hg.es]; exact h.l1.2.2.2⟩, fun i hi => by rw [hg.mp e he]; exact h.l2 i hi, fun a k h1 h2 h3 h4 n hn hb => hg.rep e n k (h.hd a k h1 h2 h3 h4 n hn hb), h.hz, ?_⟩
  rcases h.st with ⟨z, r, zr⟩ | ⟨z, ⟨r, zr⟩, o, zo⟩ | ⟨z, o, zo, z1, z2, z3, z4⟩ | ⟨z, o, zo⟩ | ⟨z, o, zo⟩
  · exact Or.inl ⟨z, r, zr.mono hg h5⟩
  · exact Or.inr (Or.inl ⟨z, ⟨r, zr.mono hg h5⟩, o, zo.mono hg⟩)
  · obtain ⟨zo, zo2, zo3⟩ := zo
    refine Or.inr (Or.inr (Or.inl ⟨z, o, ⟨Nat.lt_of_lt_of_le zo hg.bg, by rw [hg.sn]; exact zo2, Nat.le_trans zo3 hg.hd⟩, (z1.mono (fun w hw => hg.BgM hw)).mono2 hg zo, by rw [hg.efvE (Nat.le_of_lt zo)]; exact z2, by rw [hg.efAE (Nat.le_of_lt zo)]; exact z3, fun v hv ev => ?_⟩))
    rw [hg.efvE (Nat.le_of_lt zo)] at ev
    have := (efv_lt ev hv (by omega)).1
    exact hg.madeM (by omega) (z4 v hv ev)
  · exact Or.inr (Or.inr (Or.inr (Or.inl ⟨z, o, zo.mono hg h5⟩)))
  · exact Or.inr (Or.inr (Or.inr (Or.inr ⟨z, o, zo.mono hg⟩)))
/-! the table at any step -/
/-- the table says what T says (c OPERATIONS done); its ROOT -/
theorem LO.tab {P : Pm} {g : Gh} {e : Nat} {D : Nat → Nat → Int32} {K : Int64} (h : LO P g e D K) : ∃ c, c ≤ g.bg ∧ TR (tsp g.ops c) (D 10 9) (D 11) (D 12) (D 13) (D 14) (D 15) (D 16) K ∧ (D 16 960 = -1 ∨ ∃ v, v < g.bg ∧ D 16 960 = nI v) := by
  have key : ∀ r, r ≤ g.bg → D 16 960 = efv g.ops r → (D 16 960 = -1 ∨ ∃ v, v < g.bg ∧ D 16 960 = nI v) := fun r hr e => by
    rw [e]
    rcases efv_or g.ops r with z | ⟨v, a, b, _⟩
    · exact Or.inl z
    · exact Or.inr ⟨v, by omega, b⟩
  rcases h.st with ⟨z, r, zr⟩ | ⟨z, ⟨r, zr⟩, o, zo⟩ | ⟨z, o, zo, z1, z2, z3, z4⟩ | ⟨z, o, zo⟩ | ⟨z, o, zo⟩
  · exact ⟨r, zr.r1, zr.tr, key r zr.r1 zr.rt⟩
  · exact ⟨r, zr.r1, zr.tr, key r zr.r1 zr.rt⟩
  · exact ⟨o, Nat.le_of_lt zo.1, z1.tk.1, key o (Nat.le_of_lt zo.1) z1.rt⟩
  · refine ⟨o + 1, zo.wa.o1, zo.tk.1, ?_⟩
    rcases zo.rt with ⟨y, _⟩ | ⟨y, _⟩
    · exact key o (Nat.le_of_lt zo.wa.o1) y
    · exact Or.inr ⟨o, zo.wa.o1, y⟩
  · exact ⟨o + 1, zo.wa.o1, zo.tk.1, Or.inr ⟨o, zo.wa.o1, zo.rt⟩⟩

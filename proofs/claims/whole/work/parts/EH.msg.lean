/-! MESSAGES under way, and what the leader does on them -/
/-- what TOLD says of OPERATION o -/
def tkO (P : Pm) (g : Gh) (o : Nat) (v : Int32) : Prop := (eff g o → v = efA g.ops (o + 1) ∧ kept P g (rtg o)) ∧ (¬ eff g o → (g.ops o).1 0 = 4 ∨ (g.ops o).1 0 = 8 ∨ (g.ops o).1 0 = 9 ∨ v < 0)
def MO (P : Pm) (g : Gh) (e : Nat) (x : Mg) : Prop :=
  (x.1 3 = nI e ∧ e ≤ g.ep ∧ x.1 4 = g.mp e) ∧
  (x.1 0 = 5 ∨ x.1 0 = 11 → ∃ n, n < P.nn ∧ x.1 1 = nI n ∧ ∀ i, i < (x.1 7).toNatClampNeg → ∃ k, x.2 i = nI k ∧ k < 5243392 ∧ g.rep e n k) ∧
  (x.1 0 = 7 → ∃ n k, n < P.nn ∧ x.1 1 = nI n ∧ k < 5243392 ∧ x.1 5 = nI k ∧ x.2 1 = nI k ∧ Bg P g x.2 ∧ g.rep e n k) ∧
  (x.1 0 = 8 → ∃ n, n < P.nn ∧ x.1 1 = nI n) ∧
  (x.1 0 = 10 → ∃ k, k < 5243392 ∧ x.1 5 = nI k ∧ x.2 1 = nI k ∧ Bg P g x.2) ∧
  (x.1 0 = 12 → ∃ n, n < P.nn ∧ x.1 2 = nI n ∧ ∀ i, i < (x.1 7).toNatClampNeg → ∃ k, x.2 i = nI k ∧ k < 5243392 ∧ dok P g e n k) ∧
  (x.1 0 = 2 → ∃ o, (o < g.bg ∧ g.sn ≤ o ∧ o ≤ g.hd) ∧ x.1 5 = nI o ∧ x.1 6 = efv g.ops o ∧ x.1 7 = (g.ops o).1 5 ∧ (∀ i, i < 5 → x.2 i = (g.ops o).1 i) ∧ ∀ i, i < 100 + (((g.ops o).1 5).toNatClampNeg + 3) / 4 → x.2 (5 + i) = (g.ops o).2 i) ∧
  (x.1 0 = 3 → ∃ o, o < g.bg ∧ x.1 5 = nI o ∧ tkO P g o (x.1 6)) ∧
  (x.1 0 = 6 ∨ x.1 0 = 9 → ∃ k, k < 5243392 ∧ x.1 5 = nI k) ∧
  (x.1 0 = 5 → (x.1 7).toNatClampNeg ≤ 280) ∧
  (x.1 0 = 1 → ∃ n, n < P.nn ∧ x.1 1 = nI n ∧ g.rep e n 5243392)
theorem MO.ep {P : Pm} {g : Gh} {e : Nat} {x : Mg} (h_ : MO P g e x) : x.1 3 = nI e ∧ e ≤ g.ep ∧ x.1 4 = g.mp e := h_.1
theorem MO.ls {P : Pm} {g : Gh} {e : Nat} {x : Mg} (h_ : MO P g e x) : x.1 0 = 5 ∨ x.1 0 = 11 → ∃ n, n < P.nn ∧ x.1 1 = nI n ∧ ∀ i, i < (x.1 7).toNatClampNeg → ∃ k, x.2 i = nI k ∧ k < 5243392 ∧ g.rep e n k := h_.2.1
theorem MO.it {P : Pm} {g : Gh} {e : Nat} {x : Mg} (h_ : MO P g e x) : x.1 0 = 7 → ∃ n k, n < P.nn ∧ x.1 1 = nI n ∧ k < 5243392 ∧ x.1 5 = nI k ∧ x.2 1 = nI k ∧ Bg P g x.2 ∧ g.rep e n k := h_.2.2.1
theorem MO.lk {P : Pm} {g : Gh} {e : Nat} {x : Mg} (h_ : MO P g e x) : x.1 0 = 8 → ∃ n, n < P.nn ∧ x.1 1 = nI n := h_.2.2.2.1
theorem MO.pu {P : Pm} {g : Gh} {e : Nat} {x : Mg} (h_ : MO P g e x) : x.1 0 = 10 → ∃ k, k < 5243392 ∧ x.1 5 = nI k ∧ x.2 1 = nI k ∧ Bg P g x.2 := h_.2.2.2.2.1
theorem MO.dr {P : Pm} {g : Gh} {e : Nat} {x : Mg} (h_ : MO P g e x) : x.1 0 = 12 → ∃ n, n < P.nn ∧ x.1 2 = nI n ∧ ∀ i, i < (x.1 7).toNatClampNeg → ∃ k, x.2 i = nI k ∧ k < 5243392 ∧ dok P g e n k := h_.2.2.2.2.2.1
theorem MO.ak {P : Pm} {g : Gh} {e : Nat} {x : Mg} (h_ : MO P g e x) : x.1 0 = 2 → ∃ o, (o < g.bg ∧ g.sn ≤ o ∧ o ≤ g.hd) ∧ x.1 5 = nI o ∧ x.1 6 = efv g.ops o ∧ x.1 7 = (g.ops o).1 5 ∧ (∀ i, i < 5 → x.2 i = (g.ops o).1 i) ∧ ∀ i, i < 100 + (((g.ops o).1 5).toNatClampNeg + 3) / 4 → x.2 (5 + i) = (g.ops o).2 i := h_.2.2.2.2.2.2.1
theorem MO.tl {P : Pm} {g : Gh} {e : Nat} {x : Mg} (h_ : MO P g e x) : x.1 0 = 3 → ∃ o, o < g.bg ∧ x.1 5 = nI o ∧ tkO P g o (x.1 6) := h_.2.2.2.2.2.2.2.1
theorem MO.gt {P : Pm} {g : Gh} {e : Nat} {x : Mg} (h_ : MO P g e x) : x.1 0 = 6 ∨ x.1 0 = 9 → ∃ k, k < 5243392 ∧ x.1 5 = nI k := h_.2.2.2.2.2.2.2.2.1
theorem MO.lc {P : Pm} {g : Gh} {e : Nat} {x : Mg} (h_ : MO P g e x) : x.1 0 = 5 → (x.1 7).toNatClampNeg ≤ 280 := h_.2.2.2.2.2.2.2.2.2.1
theorem MO.hd {P : Pm} {g : Gh} {e : Nat} {x : Mg} (h_ : MO P g e x) : x.1 0 = 1 → ∃ n, n < P.nn ∧ x.1 1 = nI n ∧ g.rep e n 5243392 := h_.2.2.2.2.2.2.2.2.2.2
def MOL (P : Pm) (g : Gh) (Y : List Mg) : Prop := ∀ x ∈ Y, ∃ e, MO P g e x
theorem MOL.put {P : Pm} {g : Gh} {Y : List Mg} {x : Mg} {e : Nat} (h : MOL P g Y) (hx : MO P g e x) : MOL P g (pst Y x) := by
  intro y hy
  unfold pst at hy
  split at hy
  · rcases List.mem_append.mp hy with z | z
    · exact h y z
    · rw [List.mem_singleton.mp z]; exact ⟨e, hx⟩
  · exact h y hy
theorem Gle.tkM {P : Pm} {g g' : Gh} (hg : Gle g g') {o : Nat} {v : Int32} (ho : o < g.bg) (h : tkO P g o v) : tkO P g' o v := by
  refine ⟨fun z => ?_, fun z => ?_⟩
  · have : eff g o := ⟨ho, by
      obtain ⟨_, x, hx⟩ := z
      rw [hg.tspE (Nat.le_of_lt ho), hg.ops o ho] at hx
      exact ⟨x, hx⟩⟩
    obtain ⟨a, b⟩ := h.1 this
    exact ⟨by rw [hg.efAE (k := o + 1) ho]; exact a, hg.keptM b⟩
  · rw [hg.ops o ho]
    exact h.2 (fun y => z (hg.effM y))
theorem MO.mono {P : Pm} {g g' : Gh} {e : Nat} {x : Mg} (hg : Gle g g') (h : MO P g e x) : MO P g' e x := by
  refine ⟨?_, ?_, ?_, ?_, ?_, ?_, ?_, ?_, ?_, ?_, ?_⟩
  · exact ⟨h.ep.1, Nat.le_trans h.ep.2.1 hg.ep, by rw [hg.mp e h.ep.2.1]; exact h.ep.2.2⟩
  · intro z
    obtain ⟨n, a, b, c⟩ := h.ls z
    exact ⟨n, a, b, fun i hi => by obtain ⟨k, d1, d2, d3⟩ := c i hi; exact ⟨k, d1, d2, hg.rep _ _ _ d3⟩⟩
  · intro z
    obtain ⟨n, k, a1, a2, a3, a4, a5, a6, a7⟩ := h.it z
    exact ⟨n, k, a1, a2, a3, a4, a5, hg.BgM a6, hg.rep _ _ _ a7⟩
  · exact h.lk
  · intro z
    obtain ⟨k, a1, a2, a3, a4⟩ := h.pu z
    exact ⟨k, a1, a2, a3, hg.BgM a4⟩
  · intro z
    obtain ⟨n, a, b, c⟩ := h.dr z
    exact ⟨n, a, b, fun i hi => by obtain ⟨k, d1, d2, d3⟩ := c i hi; exact ⟨k, d1, d2, hg.dokM d3⟩⟩
  · intro z
    obtain ⟨o, a1, a2, a3, a4, a5, a6⟩ := h.ak z
    rw [← hg.ops o a1.1] at a4 a5 a6
    rw [← hg.efvE (Nat.le_of_lt a1.1)] at a3
    exact ⟨o, ⟨Nat.lt_of_lt_of_le a1.1 hg.bg, by rw [hg.sn]; exact a1.2.1, Nat.le_trans a1.2.2 hg.hd⟩, a2, a3, a4, a5, a6⟩
  · intro z
    obtain ⟨o, a1, a2, a3⟩ := h.tl z
    exact ⟨o, Nat.lt_of_lt_of_le a1 hg.bg, a2, hg.tkM a1 a3⟩
  · exact h.gt
  · exact h.lc
  · intro z
    obtain ⟨n, a, b, c⟩ := h.hd z
    exact ⟨n, a, b, hg.rep _ _ _ c⟩
theorem MOL.mono {P : Pm} {g g' : Gh} {Y : List Mg} (hg : Gle g g') (h : MOL P g Y) : MOL P g' Y := fun x hx => by
  obtain ⟨e, he⟩ := h x hx
  exact ⟨e, he.mono hg⟩
/-- a MESSAGE that says nothing -/
theorem MO.plain {P : Pm} {g : Gh} {e : Nat} {u b : Nat → Int32} (h3 : u 3 = nI e) (he : e ≤ g.ep) (h4 : u 4 = g.mp e) (h0 : u 0 = 0 ∨ u 0 = 4) : MO P g e (u, b) := by
  have key : ∀ c : Int32, u 0 = c → ¬ (c = 0 ∨ c = 4) → False := fun c e1 e2 => e2 (by rw [← e1]; exact h0)
  exact ⟨⟨h3, he, h4⟩, fun z => by rcases z with z | z; exact (key _ z (by decide)).elim; exact (key _ z (by decide)).elim, fun z => (key _ z (by decide)).elim, fun z => (key _ z (by decide)).elim, fun z => (key _ z (by decide)).elim, fun z => (key _ z (by decide)).elim, fun z => (key _ z (by decide)).elim, fun z => (key _ z (by decide)).elim, fun z => by rcases z with z | z; exact (key _ z (by decide)).elim; exact (key _ z (by decide)).elim, fun z => (key _ z (by decide)).elim, fun z => (key _ z (by decide)).elim⟩
/-- MESSAGES that are alike -/
theorem MO.sm {P : Pm} {g : Gh} {e : Nat} {x y : Mg} (hg : GO g) (h : MO P g e x) (hs : smM x y) : MO P g e y := by
  obtain ⟨h1, h2⟩ := hs
  have r0 : ∀ c : Int32, x.1 0 = c → y.1 0 = c := fun c z => by rw [← h1]; exact z
  have r1 : ∀ c : Int32, y.1 0 = c → x.1 0 = c := fun c z => by rw [h1]; exact z
  have hl : ∀ (c : Int32) (N : Nat), x.1 0 = c → rlv x.1 = N → ∀ i, i < N → x.2 i = y.2 i := fun c N _ e i hi => h2 i (by rw [e]; exact hi)
  have v5 : x.1 0 = 5 ∨ x.1 0 = 11 ∨ x.1 0 = 12 → rlv x.1 = (x.1 7).toNatClampNeg := fun z => by
    unfold rlv
    rcases z with z | z | z <;> rw [z] <;> simp
  have v7 : x.1 0 = 7 ∨ x.1 0 = 10 → rlv x.1 = 128 := fun z => by
    unfold rlv
    rcases z with z | z <;> rw [z] <;> simp
  have v2 : x.1 0 = 2 → rlv x.1 = 617 := fun z => by
    unfold rlv
    rw [z]; simp
  have hB : x.1 0 = 7 ∨ x.1 0 = 10 → Bg P g x.2 → Bg P g y.2 := fun z hb => (Bg_X P g).1 _ _ (fun i _ hi => h2 i (by rw [v7 z]; omega)) hb
  refine ⟨by rw [← h1]; exact h.ep, fun z => ?_, fun z => ?_, fun z => by rw [← h1]; exact h.lk (r1 _ z), fun z => ?_, fun z => ?_, fun z => ?_, fun z => by rw [← h1]; exact h.tl (r1 _ z), fun z => by rw [← h1] at z ⊢; exact h.gt z, fun z => by rw [← h1] at z ⊢; exact h.lc z, fun z => by rw [← h1] at z ⊢; exact h.hd z⟩
  · rw [← h1] at z ⊢
    obtain ⟨n, a, b, c⟩ := h.ls z
    exact ⟨n, a, b, fun i hi => by rw [← h2 i (by rw [v5 (by rcases z with z | z; exact Or.inl z; exact Or.inr (Or.inl z))]; exact hi)]; exact c i hi⟩
  · have z := r1 _ z
    obtain ⟨n, k, a1, a2, a3, a4, a5, a6, a7⟩ := h.it z
    rw [← h1]
    exact ⟨n, k, a1, a2, a3, a4, by rw [← h2 1 (by rw [v7 (Or.inl z)]; omega)]; exact a5, hB (Or.inl z) a6, a7⟩
  · have z := r1 _ z
    obtain ⟨k, a3, a4, a5, a6⟩ := h.pu z
    rw [← h1]
    exact ⟨k, a3, a4, by rw [← h2 1 (by rw [v7 (Or.inr z)]; omega)]; exact a5, hB (Or.inr z) a6⟩
  · have z := r1 _ z
    obtain ⟨n, a, b, c⟩ := h.dr z
    rw [← h1]
    exact ⟨n, a, b, fun i hi => by rw [← h2 i (by rw [v5 (Or.inr (Or.inr z))]; exact hi)]; exact c i hi⟩
  · have z := r1 _ z
    obtain ⟨o, a1, a2, a3, a4, a5, a6⟩ := h.ak z
    rw [← h1]
    have hq := hg.2 o a1.1
    have hl5 := (inR_c2 hq.2.2.2.2.2 (by decide)).1
    exact ⟨o, a1, a2, a3, a4, fun i hi => by rw [← h2 i (by rw [v2 z]; omega)]; exact a5 i hi, fun i hi => by rw [← h2 (5 + i) (by rw [v2 z]; omega)]; exact a6 i hi⟩
theorem MOL.sm {P : Pm} {g : Gh} (hg : GO g) : ∀ {X Y : List Mg}, smL X Y → MOL P g Y → MOL P g X
  | [], [], _, _ => fun x hx => by cases hx
  | x :: xs, y :: ys, h, hY => fun z hz => by
    rcases List.mem_cons.mp hz with e | e
    · subst e
      obtain ⟨e, he⟩ := hY y List.mem_cons_self
      refine ⟨e, he.sm hg ⟨h.1.1.symm, fun i hi => ?_⟩⟩
      rw [← h.1.1] at hi
      exact (h.1.2 i hi).symm
    · exact MOL.sm hg h.2 (fun w hw => hY w (List.mem_cons_of_mem _ hw)) z e
  | [], _ :: _, h, _ => absurd h id
  | _ :: _, [], h, _ => absurd h id
/-- cells that the leader's state does not hang on -/
theorem LO.frame {P : Pm} {g : Gh} {e : Nat} {D D' : Nat → Nat → Int32} {K : Int64} (h : LO P g e D K) (h7 : D' 7 7 = D 7 7) (h8 : D' 7 8 = D 7 8) (hq : ∀ q, 8 ≤ q → q ≠ 9 → q ≠ 17 → D' q = D q) (hd : ∀ a k, a < 961 → ¬ D 16 a < 0 → tgA (D 11) (D 16) a = nI k → k < 5243392 → ∀ n, n < P.nn → bt (D' 17 a) n = true → g.rep e n k) (hz : ∀ f p, f < 48 → ¬ D 11 f = -1 → bq K f = false → p < 19 → D' 17 (f * 20 + p) = 0) : LO P g e D' K := by
  have e8 := hq 8 (by decide) (by decide) (by decide)
  have e10 := hq 10 (by decide) (by decide) (by decide)
  have e11 := hq 11 (by decide) (by decide) (by decide)
  have e12 := hq 12 (by decide) (by decide) (by decide)
  have e13 := hq 13 (by decide) (by decide) (by decide)
  have e14 := hq 14 (by decide) (by decide) (by decide)
  have e15 := hq 15 (by decide) (by decide) (by decide)
  have e16 := hq 16 (by decide) (by decide) (by decide)
  have e18 := hq 18 (by decide) (by decide) (by decide)
  have e19 := hq 19 (by decide) (by decide) (by decide)
  have e20 := hq 20 (by decide) (by decide) (by decide)
  have e21 := hq 21 (by decide) (by decide) (by decide)
  have tkd : ∀ {T : TS}, TKD T D K → TKD T D' K := fun {T} z => by
    show TK T (D' 10 9) (D' 11) (D' 12) (D' 13) (D' 14) (D' 15) (D' 16) K
    rw [e10, e11, e12, e13, e14, e15, e16]; exact z
  have akd : ∀ {m : Mg} {o : Nat}, AKD m o D → AKD m o D' := fun z => z.cg (by rw [e18]) (fun x _ => by rw [e19]) (fun _ => by rw [e19]) e20
  have rt : ∀ {r : Nat}, RTb P g r D K → RTb P g r D' K := fun z => ⟨z.r1, by rw [e16]; exact z.rt, by rw [e10, e11, e12, e13, e14, e15, e16]; exact z.tr, by rw [e10]; exact z.an, z.md⟩
  have wa : ∀ {o : Nat}, WA g o D → WA g o D' := fun z => ⟨z.o1, z.o2, akd z.ak, by rw [e18]; exact z.bf⟩
  refine ⟨⟨by rw [h7]; exact h.l1.1, by rw [h8]; exact h.l1.2.1, h.l1.2.2⟩, fun i hi => by rw [e8]; exact h.l2 i hi, fun a k h1 h2 h3 h4 => by rw [e16] at h2; rw [e11, e16] at h3; exact hd a k h1 h2 h3 h4, fun f p h1 h2 h3 h4 => hz f p h1 (by rw [← e11]; exact h2) h3 h4, ?_⟩
  rw [e18]
  rcases h.st with ⟨z, r, zr⟩ | ⟨z, ⟨r, zr⟩, o, zo⟩ | ⟨z, o, zo, z1, z2, z3, z4⟩ | ⟨z, o, zo⟩ | ⟨z, o, zo⟩
  · exact Or.inl ⟨z, r, rt zr⟩
  · exact Or.inr (Or.inl ⟨z, ⟨r, rt zr⟩, o, wa zo⟩)
  · refine Or.inr (Or.inr (Or.inl ⟨z, o, zo, ?_, z2, by rw [e10]; exact z3, z4⟩))
    exact ⟨tkd z1.tk, akd z1.ak, by rw [e16]; exact z1.rt, by rw [e11, e18]; exact z1.fi, by rw [e11, e18]; exact z1.ot, by rw [e18]; exact z1.r3, by
      rcases z1.out with y | ⟨a, T', y1, y2, y3, y4⟩
      · rw [e18]; exact Or.inl y
      · rw [e18]; exact Or.inr ⟨a, T', y1, y2, ⟨fun w => by rw [e18, e19]; exact y3.s1 w, fun w => by rw [e18, e19]; exact y3.s2 w, fun w => by rw [e18, e19]; exact y3.s3 w, fun w => by rw [e18]; exact y3.s5 w⟩, y4⟩, by rw [e18, e19, e21, e11, e16]; exact z1.sp⟩
  · exact Or.inr (Or.inr (Or.inr (Or.inl ⟨z, o, wa zo.wa, zo.ef, tkd zo.tk, by rw [e16, e10]; exact zo.rt, by rw [e18]; exact zo.a5, by rw [e21]; exact zo.nb.b1, by rw [e16, e21]; exact zo.nb.b2⟩)))
  · exact Or.inr (Or.inr (Or.inr (Or.inr ⟨z, o, wa zo.wa, zo.ef, tkd zo.tk, by rw [e16]; exact zo.rt, by rw [e10]; exact zo.an, zo.md, by rw [e18]; exact zo.a5, by rw [e21]; exact zo.b8⟩)))
/-- poll -/
theorem poll_lp {P : Pm} {g : Gh} {e : Nat} {gg : Nat} {C me : Int32} {f u b : Nat → Int32} {K A : Int64} {nn : Nat} {D : Nat → Nat → Int32} (h7 : D 7 7 = nI e) (h8 : D 7 8 = g.mp e) (he : e ≤ g.ep) : ∀ (k i : Nat) (Y : List Mg), MOL P g Y → ∃ Y', G_35 nn gg C me f u b k i D K A Y = (D, K, A, Y') ∧ MOL P g Y'
  | 0, i, Y, h => ⟨Y, rfl, h⟩
  | k + 1, i, Y, h => by
    unfold G_35
    split
    · exact poll_lp h7 h8 he k (i + 1) Y h
    · exact poll_lp h7 h8 he k (i + 1) _ (h.put (MO.plain (by show D 7 7 = _; exact h7) he (by show D 7 8 = _; exact h8) (Or.inr rfl)))
theorem poll_lem {P : Pm} {g : Gh} {e : Nat} {nn gg : Nat} {C me : Int32} {f u b : Nat → Int32} {D : Nat → Nat → Int32} {K A : Int64} {Y : List Mg} (h : LO P g e D K) (hY : MOL P g Y) : ∃ Y', F_35 nn gg C me f u b D K A Y = (D, K, A, Y') ∧ MOL P g Y' := poll_lp h.l1.1 h.l1.2.1 h.l1.2.2.1 nn 0 Y hY
/-! MESSAGES of one kind -/
theorem MO.m_ls5 {P : Pm} {g : Gh} {e : Nat} {u b : Nat → Int32} (h0 : u 0 = 5) (h3 : u 3 = nI e) (he : e ≤ g.ep) (h4 : u 4 = g.mp e) (hx : ∃ n, n < P.nn ∧ u 1 = nI n ∧ ∀ i, i < (u 7).toNatClampNeg → ∃ k, b i = nI k ∧ k < 5243392 ∧ g.rep e n k) (hl : (u 7).toNatClampNeg ≤ 280) : MO P g e (u, b) := ⟨⟨h3, he, h4⟩, fun _ => hx, fun z => absurd z (by show ¬ (u 0 = 7); rw [h0]; decide), fun z => absurd z (by show ¬ (u 0 = 8); rw [h0]; decide), fun z => absurd z (by show ¬ (u 0 = 10); rw [h0]; decide), fun z => absurd z (by show ¬ (u 0 = 12); rw [h0]; decide), fun z => absurd z (by show ¬ (u 0 = 2); rw [h0]; decide), fun z => absurd z (by show ¬ (u 0 = 3); rw [h0]; decide), fun z => absurd z (by show ¬ (u 0 = 6 ∨ u 0 = 9); rw [h0]; decide), fun _ => hl, fun z => absurd z (by show ¬ (u 0 = 1); rw [h0]; decide)⟩
theorem MO.m_ls11 {P : Pm} {g : Gh} {e : Nat} {u b : Nat → Int32} (h0 : u 0 = 11) (h3 : u 3 = nI e) (he : e ≤ g.ep) (h4 : u 4 = g.mp e) (hx : ∃ n, n < P.nn ∧ u 1 = nI n ∧ ∀ i, i < (u 7).toNatClampNeg → ∃ k, b i = nI k ∧ k < 5243392 ∧ g.rep e n k) : MO P g e (u, b) := ⟨⟨h3, he, h4⟩, fun _ => hx, fun z => absurd z (by show ¬ (u 0 = 7); rw [h0]; decide), fun z => absurd z (by show ¬ (u 0 = 8); rw [h0]; decide), fun z => absurd z (by show ¬ (u 0 = 10); rw [h0]; decide), fun z => absurd z (by show ¬ (u 0 = 12); rw [h0]; decide), fun z => absurd z (by show ¬ (u 0 = 2); rw [h0]; decide), fun z => absurd z (by show ¬ (u 0 = 3); rw [h0]; decide), fun z => absurd z (by show ¬ (u 0 = 6 ∨ u 0 = 9); rw [h0]; decide), fun z => absurd z (by show ¬ (u 0 = 5); rw [h0]; decide), fun z => absurd z (by show ¬ (u 0 = 1); rw [h0]; decide)⟩
theorem MO.m_it {P : Pm} {g : Gh} {e : Nat} {u b : Nat → Int32} (h0 : u 0 = 7) (h3 : u 3 = nI e) (he : e ≤ g.ep) (h4 : u 4 = g.mp e) (hx : ∃ n k, n < P.nn ∧ u 1 = nI n ∧ k < 5243392 ∧ u 5 = nI k ∧ b 1 = nI k ∧ Bg P g b ∧ g.rep e n k) : MO P g e (u, b) := ⟨⟨h3, he, h4⟩, fun z => absurd z (by show ¬ (u 0 = 5 ∨ u 0 = 11); rw [h0]; decide), fun _ => hx, fun z => absurd z (by show ¬ (u 0 = 8); rw [h0]; decide), fun z => absurd z (by show ¬ (u 0 = 10); rw [h0]; decide), fun z => absurd z (by show ¬ (u 0 = 12); rw [h0]; decide), fun z => absurd z (by show ¬ (u 0 = 2); rw [h0]; decide), fun z => absurd z (by show ¬ (u 0 = 3); rw [h0]; decide), fun z => absurd z (by show ¬ (u 0 = 6 ∨ u 0 = 9); rw [h0]; decide), fun z => absurd z (by show ¬ (u 0 = 5); rw [h0]; decide), fun z => absurd z (by show ¬ (u 0 = 1); rw [h0]; decide)⟩
theorem MO.m_lk {P : Pm} {g : Gh} {e : Nat} {u b : Nat → Int32} (h0 : u 0 = 8) (h3 : u 3 = nI e) (he : e ≤ g.ep) (h4 : u 4 = g.mp e) (hx : ∃ n, n < P.nn ∧ u 1 = nI n) : MO P g e (u, b) := ⟨⟨h3, he, h4⟩, fun z => absurd z (by show ¬ (u 0 = 5 ∨ u 0 = 11); rw [h0]; decide), fun z => absurd z (by show ¬ (u 0 = 7); rw [h0]; decide), fun _ => hx, fun z => absurd z (by show ¬ (u 0 = 10); rw [h0]; decide), fun z => absurd z (by show ¬ (u 0 = 12); rw [h0]; decide), fun z => absurd z (by show ¬ (u 0 = 2); rw [h0]; decide), fun z => absurd z (by show ¬ (u 0 = 3); rw [h0]; decide), fun z => absurd z (by show ¬ (u 0 = 6 ∨ u 0 = 9); rw [h0]; decide), fun z => absurd z (by show ¬ (u 0 = 5); rw [h0]; decide), fun z => absurd z (by show ¬ (u 0 = 1); rw [h0]; decide)⟩
theorem MO.m_pu {P : Pm} {g : Gh} {e : Nat} {u b : Nat → Int32} (h0 : u 0 = 10) (h3 : u 3 = nI e) (he : e ≤ g.ep) (h4 : u 4 = g.mp e) (hx : ∃ k, k < 5243392 ∧ u 5 = nI k ∧ b 1 = nI k ∧ Bg P g b) : MO P g e (u, b) := ⟨⟨h3, he, h4⟩, fun z => absurd z (by show ¬ (u 0 = 5 ∨ u 0 = 11); rw [h0]; decide), fun z => absurd z (by show ¬ (u 0 = 7); rw [h0]; decide), fun z => absurd z (by show ¬ (u 0 = 8); rw [h0]; decide), fun _ => hx, fun z => absurd z (by show ¬ (u 0 = 12); rw [h0]; decide), fun z => absurd z (by show ¬ (u 0 = 2); rw [h0]; decide), fun z => absurd z (by show ¬ (u 0 = 3); rw [h0]; decide), fun z => absurd z (by show ¬ (u 0 = 6 ∨ u 0 = 9); rw [h0]; decide), fun z => absurd z (by show ¬ (u 0 = 5); rw [h0]; decide), fun z => absurd z (by show ¬ (u 0 = 1); rw [h0]; decide)⟩
theorem MO.m_dr {P : Pm} {g : Gh} {e : Nat} {u b : Nat → Int32} (h0 : u 0 = 12) (h3 : u 3 = nI e) (he : e ≤ g.ep) (h4 : u 4 = g.mp e) (hx : ∃ n, n < P.nn ∧ u 2 = nI n ∧ ∀ i, i < (u 7).toNatClampNeg → ∃ k, b i = nI k ∧ k < 5243392 ∧ dok P g e n k) : MO P g e (u, b) := ⟨⟨h3, he, h4⟩, fun z => absurd z (by show ¬ (u 0 = 5 ∨ u 0 = 11); rw [h0]; decide), fun z => absurd z (by show ¬ (u 0 = 7); rw [h0]; decide), fun z => absurd z (by show ¬ (u 0 = 8); rw [h0]; decide), fun z => absurd z (by show ¬ (u 0 = 10); rw [h0]; decide), fun _ => hx, fun z => absurd z (by show ¬ (u 0 = 2); rw [h0]; decide), fun z => absurd z (by show ¬ (u 0 = 3); rw [h0]; decide), fun z => absurd z (by show ¬ (u 0 = 6 ∨ u 0 = 9); rw [h0]; decide), fun z => absurd z (by show ¬ (u 0 = 5); rw [h0]; decide), fun z => absurd z (by show ¬ (u 0 = 1); rw [h0]; decide)⟩
theorem MO.m_ak {P : Pm} {g : Gh} {e : Nat} {u b : Nat → Int32} (h0 : u 0 = 2) (h3 : u 3 = nI e) (he : e ≤ g.ep) (h4 : u 4 = g.mp e) (hx : ∃ o, (o < g.bg ∧ g.sn ≤ o ∧ o ≤ g.hd) ∧ u 5 = nI o ∧ u 6 = efv g.ops o ∧ u 7 = (g.ops o).1 5 ∧ (∀ i, i < 5 → b i = (g.ops o).1 i) ∧ ∀ i, i < 100 + (((g.ops o).1 5).toNatClampNeg + 3) / 4 → b (5 + i) = (g.ops o).2 i) : MO P g e (u, b) := ⟨⟨h3, he, h4⟩, fun z => absurd z (by show ¬ (u 0 = 5 ∨ u 0 = 11); rw [h0]; decide), fun z => absurd z (by show ¬ (u 0 = 7); rw [h0]; decide), fun z => absurd z (by show ¬ (u 0 = 8); rw [h0]; decide), fun z => absurd z (by show ¬ (u 0 = 10); rw [h0]; decide), fun z => absurd z (by show ¬ (u 0 = 12); rw [h0]; decide), fun _ => hx, fun z => absurd z (by show ¬ (u 0 = 3); rw [h0]; decide), fun z => absurd z (by show ¬ (u 0 = 6 ∨ u 0 = 9); rw [h0]; decide), fun z => absurd z (by show ¬ (u 0 = 5); rw [h0]; decide), fun z => absurd z (by show ¬ (u 0 = 1); rw [h0]; decide)⟩
theorem MO.m_tl {P : Pm} {g : Gh} {e : Nat} {u b : Nat → Int32} (h0 : u 0 = 3) (h3 : u 3 = nI e) (he : e ≤ g.ep) (h4 : u 4 = g.mp e) (hx : ∃ o, o < g.bg ∧ u 5 = nI o ∧ tkO P g o (u 6)) : MO P g e (u, b) := ⟨⟨h3, he, h4⟩, fun z => absurd z (by show ¬ (u 0 = 5 ∨ u 0 = 11); rw [h0]; decide), fun z => absurd z (by show ¬ (u 0 = 7); rw [h0]; decide), fun z => absurd z (by show ¬ (u 0 = 8); rw [h0]; decide), fun z => absurd z (by show ¬ (u 0 = 10); rw [h0]; decide), fun z => absurd z (by show ¬ (u 0 = 12); rw [h0]; decide), fun z => absurd z (by show ¬ (u 0 = 2); rw [h0]; decide), fun _ => hx, fun z => absurd z (by show ¬ (u 0 = 6 ∨ u 0 = 9); rw [h0]; decide), fun z => absurd z (by show ¬ (u 0 = 5); rw [h0]; decide), fun z => absurd z (by show ¬ (u 0 = 1); rw [h0]; decide)⟩
theorem MO.m_gt6 {P : Pm} {g : Gh} {e : Nat} {u b : Nat → Int32} (h0 : u 0 = 6) (h3 : u 3 = nI e) (he : e ≤ g.ep) (h4 : u 4 = g.mp e) (hx : ∃ k, k < 5243392 ∧ u 5 = nI k) : MO P g e (u, b) := ⟨⟨h3, he, h4⟩, fun z => absurd z (by show ¬ (u 0 = 5 ∨ u 0 = 11); rw [h0]; decide), fun z => absurd z (by show ¬ (u 0 = 7); rw [h0]; decide), fun z => absurd z (by show ¬ (u 0 = 8); rw [h0]; decide), fun z => absurd z (by show ¬ (u 0 = 10); rw [h0]; decide), fun z => absurd z (by show ¬ (u 0 = 12); rw [h0]; decide), fun z => absurd z (by show ¬ (u 0 = 2); rw [h0]; decide), fun z => absurd z (by show ¬ (u 0 = 3); rw [h0]; decide), fun _ => hx, fun z => absurd z (by show ¬ (u 0 = 5); rw [h0]; decide), fun z => absurd z (by show ¬ (u 0 = 1); rw [h0]; decide)⟩
theorem MO.m_gt9 {P : Pm} {g : Gh} {e : Nat} {u b : Nat → Int32} (h0 : u 0 = 9) (h3 : u 3 = nI e) (he : e ≤ g.ep) (h4 : u 4 = g.mp e) (hx : ∃ k, k < 5243392 ∧ u 5 = nI k) : MO P g e (u, b) := ⟨⟨h3, he, h4⟩, fun z => absurd z (by show ¬ (u 0 = 5 ∨ u 0 = 11); rw [h0]; decide), fun z => absurd z (by show ¬ (u 0 = 7); rw [h0]; decide), fun z => absurd z (by show ¬ (u 0 = 8); rw [h0]; decide), fun z => absurd z (by show ¬ (u 0 = 10); rw [h0]; decide), fun z => absurd z (by show ¬ (u 0 = 12); rw [h0]; decide), fun z => absurd z (by show ¬ (u 0 = 2); rw [h0]; decide), fun z => absurd z (by show ¬ (u 0 = 3); rw [h0]; decide), fun _ => hx, fun z => absurd z (by show ¬ (u 0 = 5); rw [h0]; decide), fun z => absurd z (by show ¬ (u 0 = 1); rw [h0]; decide)⟩
theorem MO.m_hd {P : Pm} {g : Gh} {e : Nat} {u b : Nat → Int32} (h0 : u 0 = 1) (h3 : u 3 = nI e) (he : e ≤ g.ep) (h4 : u 4 = g.mp e) (hx : ∃ n, n < P.nn ∧ u 1 = nI n ∧ g.rep e n 5243392) : MO P g e (u, b) := ⟨⟨h3, he, h4⟩, fun z => absurd z (by show ¬ (u 0 = 5 ∨ u 0 = 11); rw [h0]; decide), fun z => absurd z (by show ¬ (u 0 = 7); rw [h0]; decide), fun z => absurd z (by show ¬ (u 0 = 8); rw [h0]; decide), fun z => absurd z (by show ¬ (u 0 = 10); rw [h0]; decide), fun z => absurd z (by show ¬ (u 0 = 12); rw [h0]; decide), fun z => absurd z (by show ¬ (u 0 = 2); rw [h0]; decide), fun z => absurd z (by show ¬ (u 0 = 3); rw [h0]; decide), fun z => absurd z (by show ¬ (u 0 = 6 ∨ u 0 = 9); rw [h0]; decide), fun z => absurd z (by show ¬ (u 0 = 5); rw [h0]; decide), fun _ => hx⟩

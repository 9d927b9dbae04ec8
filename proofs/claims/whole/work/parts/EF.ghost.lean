/-! what is true of the whole store at every time: the history, what was told of, what is secured -/
def Gh : Type := (Nat → Mg) × (Nat) × (Nat → Int32) × (Nat) × (Nat → Nat → Nat → Prop) × (Nat → Nat) × (Nat) × (Nat) × (Nat)
abbrev Gh.ops (h_ : Gh) : Nat → Mg := h_.1
abbrev Gh.bg (h_ : Gh) : Nat := h_.2.1
abbrev Gh.mp (h_ : Gh) : Nat → Int32 := h_.2.2.1
abbrev Gh.ep (h_ : Gh) : Nat := h_.2.2.2.1
abbrev Gh.rep (h_ : Gh) : Nat → Nat → Nat → Prop := h_.2.2.2.2.1
abbrev Gh.er (h_ : Gh) : Nat → Nat := h_.2.2.2.2.2.1
abbrev Gh.es (h_ : Gh) : Nat := h_.2.2.2.2.2.2.1
abbrev Gh.sn (h_ : Gh) : Nat := h_.2.2.2.2.2.2.2.1
abbrev Gh.hd (h_ : Gh) : Nat := h_.2.2.2.2.2.2.2.2
/-- the GROUP of an ITEM -/
def gr (gg k : Nat) : Nat := if k / 10240 = 512 ∨ k / 512 % 20 = 19 then 0 else (k / 10240 * 31 + k / 512 % 20 * 7) % gg
/-- the NODES of GROUP x if those of set are IN -/
def gm (nn : Nat) (C : Int32) (f : Nat → Int32) (set : Int32) (x : Nat) : Int32 := mof2 C (mof f C set nn (x * nn) 0 0)
def Pm : Type := (Nat) × (Nat) × (Int32) × (Nat → Int32)
abbrev Pm.nn (h_ : Pm) : Nat := h_.1
abbrev Pm.gg (h_ : Pm) : Nat := h_.2.1
abbrev Pm.C (h_ : Pm) : Int32 := h_.2.2.1
abbrev Pm.f (h_ : Pm) : Nat → Int32 := h_.2.2.2
/-- the NODES of ITEM k under EPOCH e -/
def msk (P : Pm) (g : Gh) (e k : Nat) : Int32 := gm P.nn P.C P.f (g.mp e) (gr P.gg k)
def rtg (v : Nat) : Nat := tgN 512 0 v
def eff (g : Gh) (v : Nat) : Prop := v < g.bg ∧ ∃ x, stp (tsp g.ops v) v (g.ops v) = some x
/-- all NODES of ITEM k under EPOCH e have told of it -/
def sec (P : Pm) (g : Gh) (e k : Nat) : Prop := e ≤ g.ep ∧ ¬ msk P g e k = 0 ∧ ∀ n, n < P.nn → bt (msk P g e k) n = true → g.rep e n k
/-- it is wanted nevermore -/
def dead (P : Pm) (g : Gh) (k : Nat) : Prop := ∃ r e, eff g r ∧ sec P g e (rtg r) ∧ k % 512 ≤ r ∧ ¬ isIt (tsp g.ops (r + 1)) (nI r) k
/-- it is wanted no more, or secured since the latest settle -/
def kept (P : Pm) (g : Gh) (k : Nat) : Prop := dead P g k ∨ ∃ e, g.es ≤ e ∧ sec P g e k
/-- a ROOT that stands anywhere: its ITEMS are kept -/
def made (P : Pm) (g : Gh) (v : Nat) : Prop := ∀ k, k < 5242880 → isIt (tsp g.ops (v + 1)) (nI v) k → kept P g k
/-- the ITEMS that there may be since the latest settle -/
def uk (g : Gh) (k : Nat) : Prop := k % 512 ≤ g.hd ∧ (g.sn ≤ k % 512 ∨ (g.sn ≤ g.bg ∧ isIt (tsp g.ops g.sn) (efv g.ops g.sn) k))
def Bg (P : Pm) (g : Gh) (w : Nat → Int32) : Prop := Bk g.ops g.bg w ∧ (∀ v, v < 512 → w 1 = nI (rtg v) → made P g v) ∧ ∃ k, k < 5243392 ∧ w 1 = nI k ∧ uk g k
/-- ITEM k may go from NODE n under EPOCH e -/
def dok (P : Pm) (g : Gh) (e n k : Nat) : Prop := dead P g k ∨ (bt (msk P g e k) n = false ∧ sec P g e k)
/-- the history grows -/
def Gle (g g' : Gh) : Prop :=
  (∀ o, o < g.bg → g'.ops o = g.ops o) ∧
  (g.bg ≤ g'.bg) ∧
  (∀ e, e ≤ g.ep → g'.mp e = g.mp e) ∧
  (g.ep ≤ g'.ep) ∧
  (∀ e n k, g.rep e n k → g'.rep e n k) ∧
  (g'.es = g.es) ∧
  (g'.sn = g.sn) ∧
  (g.hd ≤ g'.hd)
theorem Gle.ops {g g' : Gh} (h_ : Gle g g') : ∀ o, o < g.bg → g'.ops o = g.ops o := h_.1
theorem Gle.bg {g g' : Gh} (h_ : Gle g g') : g.bg ≤ g'.bg := h_.2.1
theorem Gle.mp {g g' : Gh} (h_ : Gle g g') : ∀ e, e ≤ g.ep → g'.mp e = g.mp e := h_.2.2.1
theorem Gle.ep {g g' : Gh} (h_ : Gle g g') : g.ep ≤ g'.ep := h_.2.2.2.1
theorem Gle.rep {g g' : Gh} (h_ : Gle g g') : ∀ e n k, g.rep e n k → g'.rep e n k := h_.2.2.2.2.1
theorem Gle.es {g g' : Gh} (h_ : Gle g g') : g'.es = g.es := h_.2.2.2.2.2.1
theorem Gle.sn {g g' : Gh} (h_ : Gle g g') : g'.sn = g.sn := h_.2.2.2.2.2.2.1
theorem Gle.hd {g g' : Gh} (h_ : Gle g g') : g.hd ≤ g'.hd := h_.2.2.2.2.2.2.2
theorem Gle.rf (g : Gh) : Gle g g := ⟨fun _ _ => rfl, Nat.le_refl _, fun _ _ => rfl, Nat.le_refl _, fun _ _ _ h => h, rfl, rfl, Nat.le_refl _⟩
theorem Gle.tr {a b c : Gh} (h : Gle a b) (h2 : Gle b c) : Gle a c := ⟨fun o ho => by rw [h2.ops o (Nat.lt_of_lt_of_le ho h.bg), h.ops o ho], Nat.le_trans h.bg h2.bg, fun e he => by rw [h2.mp e (Nat.le_trans he h.ep), h.mp e he], Nat.le_trans h.ep h2.ep, fun e n k z => h2.rep e n k (h.rep e n k z), by rw [h2.es, h.es], by rw [h2.sn, h.sn], Nat.le_trans h.hd h2.hd⟩
theorem tsp_cg {ops ops' : Nat → Mg} : ∀ {k : Nat}, (∀ o, o < k → ops' o = ops o) → tsp ops' k = tsp ops k
  | 0, _ => rfl
  | k + 1, h => by
    show (match stp (tsp ops' k) k (ops' k) with | some x => x.2 | none => tsp ops' k) = (match stp (tsp ops k) k (ops k) with | some x => x.2 | none => tsp ops k)
    rw [tsp_cg (k := k) (fun o ho => h o (by omega)), h k (by omega)]
theorem efv_cg {ops ops' : Nat → Mg} : ∀ {k : Nat}, (∀ o, o < k → ops' o = ops o) → efv ops' k = efv ops k
  | 0, _ => rfl
  | k + 1, h => by
    show (match stp (tsp ops' k) k (ops' k) with | some _ => nI k | none => efv ops' k) = (match stp (tsp ops k) k (ops k) with | some _ => nI k | none => efv ops k)
    rw [tsp_cg (k := k) (fun o ho => h o (by omega)), h k (by omega), efv_cg (k := k) (fun o ho => h o (by omega))]
theorem efA_cg {ops ops' : Nat → Mg} : ∀ {k : Nat}, (∀ o, o < k → ops' o = ops o) → efA ops' k = efA ops k
  | 0, _ => rfl
  | k + 1, h => by
    show (match stp (tsp ops' k) k (ops' k) with | some x => nI x.1 | none => efA ops' k) = (match stp (tsp ops k) k (ops k) with | some x => nI x.1 | none => efA ops k)
    rw [tsp_cg (k := k) (fun o ho => h o (by omega)), h k (by omega), efA_cg (k := k) (fun o ho => h o (by omega))]
theorem Gle.tspE {g g' : Gh} (h : Gle g g') {k : Nat} (hk : k ≤ g.bg) : tsp g'.ops k = tsp g.ops k := tsp_cg (fun o ho => h.ops o (Nat.lt_of_lt_of_le ho hk))
theorem Gle.effM {g g' : Gh} (h : Gle g g') {v : Nat} (e : eff g v) : eff g' v := by
  obtain ⟨a, b⟩ := e
  refine ⟨Nat.lt_of_lt_of_le a h.bg, ?_⟩
  rw [h.tspE (Nat.le_of_lt a), h.ops v a]
  exact b
theorem Gle.mkE {P : Pm} {g g' : Gh} (h : Gle g g') {e k : Nat} (he : e ≤ g.ep) : msk P g' e k = msk P g e k := by
  unfold msk
  rw [h.mp e he]
theorem Gle.secM {P : Pm} {g g' : Gh} (h : Gle g g') {e k : Nat} (s : sec P g e k) : sec P g' e k := by
  obtain ⟨a, b, c⟩ := s
  refine ⟨Nat.le_trans a h.ep, by rw [h.mkE a]; exact b, fun n hn hb => ?_⟩
  rw [h.mkE a] at hb
  exact h.rep e n k (c n hn hb)
theorem Gle.deadM {P : Pm} {g g' : Gh} (h : Gle g g') {k : Nat} (d : dead P g k) : dead P g' k := by
  obtain ⟨r, e, a, b, c, d⟩ := d
  refine ⟨r, e, h.effM a, h.secM b, c, ?_⟩
  rw [h.tspE (k := r + 1) a.1]
  exact d
theorem Gle.keptM {P : Pm} {g g' : Gh} (h : Gle g g') {k : Nat} (d : kept P g k) : kept P g' k := by
  rcases d with d | ⟨e, a, b⟩
  · exact Or.inl (h.deadM d)
  · exact Or.inr ⟨e, by rw [h.es]; exact a, h.secM b⟩
theorem Gle.madeM {P : Pm} {g g' : Gh} (h : Gle g g') {v : Nat} (hv : v < g.bg) (d : made P g v) : made P g' v := fun k hk hi => by
  rw [h.tspE (k := v + 1) hv] at hi
  exact h.keptM (d k hk hi)
theorem Gle.BkM {g g' : Gh} (h : Gle g g') {w : Nat → Int32} (d : Bk g.ops g.bg w) : Bk g'.ops g'.bg w := by
  obtain ⟨k, a1, a2, a3, a4, a5, a6, a7, a8⟩ := d
  have e1 : tsp g'.ops (k % 512) = tsp g.ops (k % 512) := h.tspE (Nat.le_of_lt a3)
  have e2 : tsp g'.ops (k % 512 + 1) = tsp g.ops (k % 512 + 1) := h.tspE a3
  have e3 : efA g'.ops (k % 512 + 1) = efA g.ops (k % 512 + 1) := efA_cg (fun o ho => h.ops o (by omega))
  refine ⟨k, a1, a2, Nat.lt_of_lt_of_le a3 h.bg, by rw [e1, h.ops _ a3]; exact a4, by rw [e2]; exact a5, fun z => by rw [e2, e3]; exact a6 z, fun z z2 => by rw [e2]; exact a7 z z2, fun z z2 => by rw [e2]; exact a8 z z2⟩
theorem rtg_inj {v w : Nat} (h : rtg v = rtg w) : v = w := by unfold rtg tgN at h; omega
/-- the VERSION of a block of a ROOT -/
theorem Bk.ver {ops : Nat → Mg} {bg v : Nat} {w : Nat → Int32} (h : Bk ops bg w) (hv : v < 512) (e : w 1 = nI (rtg v)) : v < bg := by
  obtain ⟨k, a1, a2, a3, _⟩ := h
  rw [a2] at e
  have hb : rtg v < 2 ^ 31 := by unfold rtg tgN; omega
  have := nI_inj (by omega) hb e
  subst this
  have := (tgN_d (i := 512) (p := 0) (by decide) hv).2.2
  unfold rtg at a3
  omega
theorem Gle.ukM {g g' : Gh} (h : Gle g g') {k : Nat} (d : uk g k) : uk g' k := by
  refine ⟨Nat.le_trans d.1 h.hd, ?_⟩
  rcases d.2 with z | ⟨z1, z2⟩
  · exact Or.inl (by rw [h.sn]; exact z)
  · exact Or.inr ⟨by rw [h.sn]; exact Nat.le_trans z1 h.bg, by rw [h.sn, h.tspE z1, efv_cg (fun o ho => h.ops o (by omega))]; exact z2⟩
theorem Gle.BgM {P : Pm} {g g' : Gh} (h : Gle g g') {w : Nat → Int32} (d : Bg P g w) : Bg P g' w := by
  obtain ⟨d1, d2, k, d3, d4, d5⟩ := d
  exact ⟨h.BkM d1, fun v hv e => h.madeM (d1.ver hv e) (d2 v hv e), k, d3, d4, h.ukM d5⟩
theorem Bg_X (P : Pm) (g : Gh) : BX (Bg P g) := ⟨fun w w' e d => ⟨(Bk_X g.ops g.bg).1 w w' e d.1, fun v hv z => d.2.1 v hv (by rw [e 1 (by omega) (by omega)]; exact z), by obtain ⟨k, k1, k2, k3⟩ := d.2.2; exact ⟨k, k1, by rw [← e 1 (by omega) (by omega)]; exact k2, k3⟩⟩, fun w d => (Bk_X g.ops g.bg).2 w d.1⟩
theorem Gle.dokM {P : Pm} {g g' : Gh} (h : Gle g g') {e n k : Nat} (d : dok P g e n k) : dok P g' e n k := by
  rcases d with d | ⟨a, b⟩
  · exact Or.inl (h.deadM d)
  · exact Or.inr ⟨by rw [h.mkE b.1]; exact a, h.secM b⟩
/-- NODE n tells of ITEM k under EPOCH e -/
def Gh.tell (g : Gh) (e n : Nat) (Q : Nat → Prop) : Gh := ⟨g.ops, g.bg, g.mp, g.ep, fun e' n' k' => g.rep e' n' k' ∨ (e' = e ∧ n' = n ∧ Q k'), g.er, g.es, g.sn, g.hd⟩
theorem Gh.tell_le (g : Gh) (e n : Nat) (Q : Nat → Prop) : Gle g (g.tell e n Q) := ⟨fun _ _ => rfl, Nat.le_refl _, fun _ _ => rfl, Nat.le_refl _, fun _ _ _ h => Or.inl h, rfl, rfl, Nat.le_refl _⟩
/-! the OPERATIONS that were begun -/
def GO (g : Gh) : Prop := g.bg ≤ 512 ∧ opsOK g.ops g.bg
theorem GO.tok {g : Gh} (h : GO g) {k : Nat} (hk : k ≤ g.bg) : TOK (tsp g.ops k) k := tsp_ok (by have := h.1; omega) (fun o ho => h.2 o (by omega))
theorem GO.stb {g : Gh} (h : GO g) {k : Nat} (hk : k ≤ g.bg) : STB g.ops k := stb_ok (by have := h.1; omega) (fun o ho => h.2 o (by omega))
/-- an ITEM of the state behind o that o did not make is one of the state before -/
theorem isIt_old {g : Gh} (h : GO g) {o k : Nat} (ho : eff g o) (hk : k < 5242880) (hi : isIt (tsp g.ops (o + 1)) (nI o) k) (hn : ¬ k % 512 = o) : ∃ v, v < o ∧ eff g v ∧ efv g.ops o = nI v ∧ isIt (tsp g.ops (v + 1)) (nI v) k := by
  obtain ⟨hob, x, hx⟩ := ho
  have h5 := h.1
  rcases hi with ⟨z, _⟩ | ⟨z1, z2, z3⟩
  · omega
  have hp : k / 512 % 20 < 20 := Nat.mod_lt _ (by decide)
  have hT := h.tok (k := o) (by omega)
  have hS := h.stb (k := o) (by omega)
  have hc := chg_stp (i := k / 10240) (p := k / 512 % 20) hT (by omega) hS.z (h.2 o hob) hx hp
  rw [tsp_some hx] at z2 z3
  have hold : (tsp g.ops o).ex (k / 10240) = true ∧ (tsp g.ops o).vr (k / 10240) (k / 512 % 20) = nI (k % 512) := by
    rcases hc with ⟨y1, _⟩ | ⟨y1, _⟩ | ⟨y1, y2, _⟩
    · rw [z3] at y1
      exact absurd (nI_inj (by omega) (by omega) y1) hn
    · rw [z3] at y1
      exact absurd y1 (nIneg (by omega))
    · exact ⟨by rw [← y2]; exact z2, by rw [← y1]; exact z3⟩
  rcases efv_or g.ops o with y | ⟨v, y1, y2, y3, y4⟩
  · have := efv_none y (by omega)
    rw [this] at hold
    cases hold.1
  · exact ⟨v, y1, ⟨by omega, y3⟩, y2, Or.inr ⟨z1, by rw [y4]; exact hold.1, by rw [y4]; exact hold.2⟩⟩
/-- the new ROOT may be made when all that is new is secured -/
theorem made_new {P : Pm} {g : Gh} (h : GO g) {o e : Nat} (ho : eff g o) (he : g.es ≤ e) (hb : ∀ v, efv g.ops o = nI v → v < 512 → made P g v) (hn : ∀ k, k < 5242880 → k % 512 = o → isIt (tsp g.ops (o + 1)) (nI o) k → sec P g e k) : made P g o := fun k hk hi => by
  by_cases c : k % 512 = o
  · exact Or.inr ⟨e, he, hn k hk c hi⟩
  · obtain ⟨v, v1, v2, v3, v4⟩ := isIt_old h ho hk hi c
    have := ho.1
    have := h.1
    exact hb v v3 (by omega) k hk v4

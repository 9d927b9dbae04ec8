/-! a new MAP, another DISK, an OPERATION is begun -/
/-- a new MAP: the NODES of set -/
def Gh.draw (g : Gh) (set : Int32) (er : Nat → Nat) : Gh := ⟨g.ops, g.bg, fup g.mp (g.ep + 1) set, g.ep + 1, g.rep, er, g.es, g.sn, g.hd⟩
theorem Gh.draw_le (g : Gh) (set : Int32) (er : Nat → Nat) : Gle g (g.draw set er) := ⟨fun _ _ => rfl, Nat.le_refl _, fun e he => fup_n (by omega), Nat.le_succ _, fun _ _ _ h => h, rfl, rfl, Nat.le_refl _⟩
theorem AI.draw {P : Pm} {g : Gh} {he : Nat} {E E' : Nat → Nat → Int32} {Q : Nat → Mg} {set : Int32} {er : Nat → Nat} (h : AI P g he E Q) (hE : ∀ x, x = 8 ∨ x = 9 ∨ x = 10 ∨ x = 12 → E' 4 x = E 4 x) (h13 : E' 4 13 = E 4 13 + 1) (h14 : E' 4 14 = set) (h15 : E' 4 15 = 0) : AI P (g.draw set er) he E' Q := by
  have hle := g.draw_le set er
  refine ⟨by rw [hE 8 (by omega)]; exact h.bg, h.h1, by rw [hE 9 (by omega)]; exact h.h2, by rw [hE 12 (by omega)]; exact h.ef, fun v hv e => hle.keptM (h.kp v hv e), h.qs, ⟨?_, ?_⟩, h.hh, ⟨h.se.1, h.se.2.1, by rw [hE 10 (by omega)]; exact h.se.2.2⟩, fun n hn zb => by rw [h15, b_0] at zb; cases zb⟩
  · rw [h13, h.ep.1, nI_1]; rfl
  · rw [h14]
    show set = fup g.mp (g.ep + 1) set (g.ep + 1)
    rw [fup_s]
theorem drE_v (E : Nat → Nat → Int32) (s2 : Int32) : (∀ x, x < 13 → drE E s2 4 x = E 4 x) ∧ drE E s2 4 13 = E 4 13 + 1 ∧ drE E s2 4 14 = s2 ∧ drE E s2 4 15 = 0 ∧ ∀ q, q ≠ 4 → drE E s2 q = E q := by
  unfold drE
  refine ⟨fun x hx => by rw [va_up_s, pk_un (by omega), pk_un (by omega), pk_un (by omega)], by rw [va_up_s, pk_un (by decide), pk_un (by decide), pk_us], by rw [va_up_s, pk_un (by decide), pk_us], by rw [va_up_s, pk_us], fun q hq => by rw [va_up_n _ _ hq]⟩
/-- map -/
theorem GI.map {P : Pm} {g : Gh} {S : SS} {E0 : Nat → Nat → Int32} {ms' : List Mg} {set : Int32} (h : GI P g S) (hep : g.ep + 1 < 2 ^ 30) (hE : ∀ x, 8 ≤ x → E0 4 x = S.1 4 x) (hr : tmR P.nn 0 (S.1 4 13 + 1) set P.nn 0 S.2.2.1 ms') : GI P (g.draw set g.er) (drE E0 set, S.2.1, ms', S.2.2.2) := by
  have hle := g.draw_le set g.er
  obtain ⟨he, ha⟩ := h.as
  obtain ⟨v1, v2, v3, v5, v4⟩ := drE_v E0 set
  rw [ha.ep.1, nI_1] at hr
  refine ⟨h.go, ⟨hep, by have := h.ep.2; show g.es ≤ g.ep + 1; omega⟩, ⟨he, ha.draw (fun x hx => (v1 x (by omega)).trans (hE x (by omega))) (v2.trans (by rw [hE 13 (by omega)])) v3 v5⟩, tm_ok (g := g.draw set g.er) (e := g.ep + 1) (Nat.le_refl _) (by show set = fup g.mp (g.ep + 1) set (g.ep + 1); rw [fup_s]) P.nn 0 _ _ (h.ms.mono hle) hr, fun j hj => ?_⟩
  rcases h.nd j hj with ⟨z, e1, z1⟩ | ⟨z, e1, z1⟩
  · exact Or.inl ⟨z, e1, z1.grow hle (fun _ _ y => y) rfl⟩
  · exact Or.inr ⟨z, e1, z1.grow h.go.1 hle (fun _ _ y => y) rfl⟩
/-- replace -/
theorem GI.replace {P : Pm} {g : Gh} {S : SS} {E0 : Nat → Nat → Int32} {ms' : List Mg} {j : Nat} (h : GI P g S) (hep : g.ep + 1 < 2 ^ 30) (hj : j < P.nn) (hdn : S.2.2.2.1 j 0 6 = 0) (hE : ∀ x, 8 ≤ x → E0 4 x = S.1 4 x) (hr : tmR P.nn 0 (S.1 4 13 + 1) (S.1 4 14) P.nn 0 S.2.2.1 ms') :
    GI P (g.draw (S.1 4 14) (fup g.er j (g.ep + 1))) (drE E0 (S.1 4 14), S.2.1, ms', va_up S.2.2.2.1 j (va_up (S.2.2.2.1 j) 2 (ax_fill (S.2.2.2.1 j 2) 0 35840 0)), S.2.2.2.2.1, S.2.2.2.2.2) := by
  have hle := g.draw_le (S.1 4 14) (fup g.er j (g.ep + 1))
  obtain ⟨he, ha⟩ := h.as
  obtain ⟨v1, v2, v3, v5, v4⟩ := drE_v E0 (S.1 4 14)
  rw [ha.ep.1, nI_1] at hr
  refine ⟨h.go, ⟨hep, by have := h.ep.2; show g.es ≤ g.ep + 1; omega⟩, ⟨he, ha.draw (fun x hx => (v1 x (by omega)).trans (hE x (by omega))) (v2.trans (by rw [hE 13 (by omega)])) v3 v5⟩, tm_ok (g := g.draw (S.1 4 14) (fup g.er j (g.ep + 1))) (e := g.ep + 1) (Nat.le_refl _) (by show S.1 4 14 = fup g.mp (g.ep + 1) (S.1 4 14) (g.ep + 1); rw [fup_s]) P.nn 0 _ _ (h.ms.mono hle) hr, fun i hi => ?_⟩
  show (va_up S.2.2.2.1 j _ i 0 6 = 0 ∧ ∃ e, ND P _ i e (va_up S.2.2.2.1 j _ i)) ∨ (¬ va_up S.2.2.2.1 j _ i 0 6 = 0 ∧ ∃ e, NU P _ i e (va_up S.2.2.2.1 j _ i) (S.2.2.2.2.1 i))
  by_cases e : i = j
  · subst e
    rw [va_up_s]
    rcases h.nd i hi with ⟨z, e1, z1⟩ | ⟨z, _⟩
    · left
      refine ⟨by rw [va_up_n _ _ (by decide)]; exact z, e1, Nat.le_trans z1.ee (Nat.le_succ _), ⟨by rw [va_up_n _ _ (by decide)]; exact z1.dn.1, fun s hs => by rw [va_up_n _ _ (by decide), va_up_n _ _ (by decide)]; exact z1.dn.2.1 s hs, fun s hs hw => ?_⟩, fun e' k hr hl => ?_, z1.rk, by rw [va_up_n _ _ (by decide)]; exact z1.ni⟩
      · exfalso
        rw [va_up_s] at hw
        refine hw.1 ?_
        rw [ax_fill_in _ _ (by omega) (by omega)]
        decide
      · exfalso
        have h1 := (z1.rk e' k hr).2
        have h2 := z1.ee
        have hl : fup g.er i (g.ep + 1) i < e' := hl.2
        rw [fup_s] at hl
        omega
    · exact absurd hdn z
  · rw [va_up_n _ _ e]
    rcases h.nd i hi with ⟨z, e1, z1⟩ | ⟨z, e1, z1⟩
    · exact Or.inl ⟨z, e1, z1.grow hle (fun _ _ y => y) (fup_n e)⟩
    · exact Or.inr ⟨z, e1, z1.grow h.go.1 hle (fun _ _ y => y) (fup_n e)⟩
/-- an OPERATION is begun -/
def Gh.beg (g : Gh) (m : Mg) : Gh := ⟨fup g.ops g.bg m, g.bg + 1, g.mp, g.ep, g.rep, g.er, g.es, g.sn, g.hd⟩
theorem Gh.beg_le (g : Gh) (m : Mg) : Gle g (g.beg m) := ⟨fun o ho => fup_n (by omega), Nat.le_succ _, fun _ _ => rfl, Nat.le_refl _, fun _ _ _ h => h, rfl, rfl, Nat.le_refl _⟩
theorem GI.begin {P : Pm} {g : Gh} {S : SS} {E' : Nat → Nat → Int32} {Q' : Nat → Mg} {ms' : List Mg} {m : Mg} (h : GI P g S) (hb : g.bg < 512) (hq : AQ (m.1 0) (m.1 1) (m.1 2) (m.1 3) (m.1 4) (m.1 5)) (hQ : (∀ x, x < 6 → (Q' (g.bg % 24)).1 x = m.1 x) ∧ ∀ x, x < 612 → (Q' (g.bg % 24)).2 x = m.2 x) (hQo : ∀ i, i < 24 → i ≠ g.bg % 24 → Q' i = S.2.1 i) (h8 : E' 4 8 = nI (g.bg + 1)) (hE : ∀ x, 9 ≤ x → E' 4 x = S.1 4 x) (h12 : g.bg + 1 ≤ g.sn + 12) (hm : (S.1 4 9 = nI g.bg ∧ askR P.nn P.f E' Q' S.2.2.1 ms') ∨ ms' = S.2.2.1) : GI P (g.beg m) (E', Q', ms', S.2.2.2) := by
  have hle := g.beg_le m
  obtain ⟨he, ha⟩ := h.as
  have hG : GO (g.beg m) := by
    refine ⟨hb, fun o ho => ?_⟩
    have ho : o < g.bg + 1 := ho
    show AQ ((fup g.ops g.bg m o).1 0) _ _ _ _ _
    by_cases e : o = g.bg
    · subst e
      show AQ ((fup g.ops g.bg m g.bg).1 0) ((fup g.ops g.bg m g.bg).1 1) ((fup g.ops g.bg m g.bg).1 2) ((fup g.ops g.bg m g.bg).1 3) ((fup g.ops g.bg m g.bg).1 4) ((fup g.ops g.bg m g.bg).1 5)
      rw [fup_s]; exact hq
    · show AQ ((fup g.ops g.bg m o).1 0) ((fup g.ops g.bg m o).1 1) ((fup g.ops g.bg m o).1 2) ((fup g.ops g.bg m o).1 3) ((fup g.ops g.bg m o).1 4) ((fup g.ops g.bg m o).1 5)
      rw [fup_n e]; exact h.go.2 o (by omega)
  have hAI : AI P (g.beg m) he E' Q' := by
    have hh : g.bg + 1 ≤ he + 12 := by have := ha.se.1; omega
    refine ⟨h8, ⟨by have := ha.h1.1; show he ≤ g.bg + 1; omega, hh⟩, by rw [hE 9 (by omega)]; exact ha.h2, by rw [hE 12 (by omega), ha.ef, hle.efvE ha.h1.1], fun v hv ev => by rw [hle.efvE ha.h1.1] at ev; exact hle.keptM (ha.kp v hv ev), fun o h1 h2 => ?_, ⟨by rw [hE 13 (by omega)]; exact ha.ep.1, by rw [hE 14 (by omega)]; exact ha.ep.2⟩, ha.hh, ⟨ha.se.1, h12, by rw [hE 10 (by omega)]; exact ha.se.2.2⟩, fun n hn zb => ha.mh n hn (by rw [← hE 15 (by omega)]; exact zb)⟩
    have h2 : o < g.bg + 1 := h2
    show (∀ x, x < 6 → _ = (fup g.ops g.bg m o).1 x) ∧ ∀ x, x < 612 → _ = (fup g.ops g.bg m o).2 x
    by_cases e : o = g.bg
    · subst e
      rw [fup_s]
      exact hQ
    · rw [fup_n e, hQo (o % 24) (by omega) (by omega)]
      exact ha.qs o h1 (by omega)
  refine ⟨hG, h.ep, ⟨he, hAI⟩, ?_, fun j hj => ?_⟩
  · rcases hm with ⟨_, z⟩ | z
    · exact ask_ok hG hAI (h.ms.mono hle) z
    · show MOL P (g.beg m) ms'
      rw [z]
      exact h.ms.mono hle
  · rcases h.nd j hj with ⟨z, e1, z1⟩ | ⟨z, e1, z1⟩
    · exact Or.inl ⟨z, e1, z1.grow hle (fun _ _ y => y) rfl⟩
    · exact Or.inr ⟨z, e1, z1.grow h.go.1 hle (fun _ _ y => y) rfl⟩

/-! the calls: the ANSWERS stay what they are -/
def SVT (P : Pm) (R c : Nat) (g : Gh) (rc : Nat) (S : SS) : Prop := SVX P R c g rc S ∧ TX P g S
theorem SVT.tg {P : Pm} {R c rc : Nat} {g : Gh} {S : SS} (h : SVT P R c g rc S) : TGX P g S := ⟨h.1.gx, h.2⟩
theorem TX.own {P : Pm} {g : Gh} {S : SS} {E' : Nat → Nat → Int32} (h : TX P g S) (h4 : ∀ x, x = 9 ∨ x = 11 → E' 4 x = S.1 4 x) (h9 : E' 9 = S.1 9) : TX P g (E', S.2) := ⟨h.1, h.2.1, h.2.2.1, h.2.2.2.cg h4 h9 rfl⟩
theorem SVT.ncm {P : Pm} {R c rc : Nat} {g : Gh} {S : SS} (h : SVT P R c g rc S) : SVT P R c g rc (ncm S) := ⟨h.1.ncm, h.2.own (fun x _ => by rw [va_up_n _ _ (by decide)]) (va_up_n _ _ (by decide))⟩
theorem SVT.own {P : Pm} {R c rc : Nat} {g : Gh} {S : SS} {E' : Nat → Nat → Int32} (h : SVT P R c g rc S) (hE : ∀ x, 8 ≤ x → E' 4 x = S.1 4 x) (h100 : E' 100 = S.1 100) (h9 : E' 9 = S.1 9) : SVT P R c g rc (E', S.2) := ⟨h.1.own hE h100, h.2.own (fun x hx => hE x (by omega)) h9⟩
theorem SVT.mk2 {P : Pm} {R c rc : Nat} {g : Gh} {S S' : SS} (h : SVT P R c g rc S) (hx : ∃ g', Gs g g' ∧ TGX P g' S' ∧ S'.1 100 = S.1 100) : ∃ g', GE g g' ∧ SVT P R c g' rc S' := by
  obtain ⟨g', a, b, d⟩ := hx
  exact ⟨g', a.ge, ⟨⟨b.1.1, h.1.1.er.gs a, by rw [d]; exact h.1.1.re, h.1.1.lt, by rw [a.ep]; exact h.1.1.ep⟩, b.1.2⟩, b.2⟩
theorem SVT.up {P : Pm} {R c rc : Nat} {g : Gh} {S : SS} (h : SVT P R c g rc S) : SVT P R (c + 1) g rc S := ⟨h.1.up, h.2⟩
theorem SVT.de {P : Pm} {R c rc : Nat} {g : Gh} {S S' : SS} (hP : PmO P) (h : SVT P R c g rc S) (hr : deR P.nn P.gg P.C P.f S S') : ∃ g', GE g g' ∧ SVT P R c g' rc S' := by
  rcases hr with ⟨_, z⟩ | ⟨x, S1, z1, z2⟩
  · rw [z]; exact ⟨g, GE.rf g, h.ncm⟩
  · obtain ⟨a, b, e, t, d⟩ := h.ncm.tg.take z1
    obtain ⟨g', h1, h2, h3⟩ := a.hand hP b e t z2
    exact h.ncm.mk2 ⟨g', h1, h2, by rw [h3, d]⟩
theorem SVT.lo {P : Pm} {R c rc : Nat} {g : Gh} {S S' : SS} (h : SVT P R c g rc S) (hr : loR S S') : ∃ g', GE g g' ∧ SVT P R c g' rc S' := by
  rcases hr with ⟨_, z⟩ | ⟨x, z1⟩
  · rw [z]; exact ⟨g, GE.rf g, h.ncm⟩
  · obtain ⟨a, b, e, t, d⟩ := h.ncm.tg.take z1
    exact h.ncm.mk2 ⟨g, Gs.rf g, a, d⟩
theorem SVT.tw {P : Pm} {R c rc : Nat} {g : Gh} {S S' : SS} (hP : PmO P) (h : SVT P R c g rc S) (hr : twR P.nn P.gg P.C P.f S S') : ∃ g', GE g g' ∧ SVT P R c g' rc S' := by
  rcases hr with ⟨_, z⟩ | ⟨x, z1, z2⟩
  · rw [z]; exact ⟨g, GE.rf g, h.ncm⟩
  · exact h.ncm.mk2 (h.ncm.tg.hand hP (h.1.1.gi.ms x z1) (h.1.2.2.1 x z1) (h.2.2.1 x z1) z2)
theorem SVT.si {P : Pm} {R c rc : Nat} {g : Gh} {S S' : SS} {x y : Int32} (hP : PmO P) (h : SVT P R c g rc S) (hr : siR P.nn P.gg P.C P.f x S y S') : ∃ g', GE g g' ∧ SVT P R c g' rc S' := by
  rcases hr with ⟨_, _, z⟩ | ⟨_, _, _, k, z⟩
  · rw [z]; exact ⟨g, GE.rf g, h⟩
  · exact h.ncm.mk2 (TGX.it (fun g S S' a b => a.mv hP b) k h.ncm.tg z)
theorem SVT.ti {P : Pm} {R c rc : Nat} {g : Gh} {S S' : SS} {x y : Int32} (hP : PmO P) (h : SVT P R c g rc S) (hr : tiR P.nn P.gg P.C P.f x S y S') : ∃ g', GE g g' ∧ SVT P R c g' rc S' := by
  rcases hr with ⟨_, _, z⟩ | ⟨_, _, _, k, z⟩
  · rw [z]; exact ⟨g, GE.rf g, h⟩
  · exact h.ncm.mk2 (TGX.it (fun g S S' a b => a.tick hP b) k h.ncm.tg z)
theorem SVT.cr {P : Pm} {R c rc : Nat} {g : Gh} {S S' : SS} {x y0 z0 y : Int32} (h : SVT P R c g rc S) (hr : crR P.nn P.gg P.C P.f x y0 z0 S y S') : ∃ g', GE g g' ∧ SVT P R c g' rc S' := by
  rcases hr with ⟨_, _, z⟩ | ⟨j, j1, _, j2, _, u, b, z⟩
  · rw [z]; exact ⟨g, GE.rf g, h⟩
  · exact h.ncm.mk2 ⟨g, Gs.rf g, ⟨⟨h.ncm.1.1.gi.sleep j1 j2 z, h.ncm.1.2.sleep h.ncm.1.1.gi j1 j2 z⟩, h.ncm.2.sleep h.ncm.1.1.gi j1 j2 z⟩, by obtain ⟨_, _, w⟩ := z; rw [w]⟩
theorem SVT.re' {P : Pm} {R c rc : Nat} {g : Gh} {S S' : SS} {x y : Int32} (hP : PmO P) (h : SVT P R c g rc S) (hr : reR P.nn P.gg P.C P.f x S y S') : ∃ g', GE g g' ∧ SVT P R c g' rc S' := by
  rcases hr with ⟨_, _, z⟩ | ⟨j, j1, _, j2, _, u, b, z⟩
  · rw [z]; exact ⟨g, GE.rf g, h⟩
  · exact h.ncm.mk2 ⟨g, Gs.rf g, ⟨⟨h.ncm.1.1.gi.wake (u := u) (b := b) j1 j2 (by rw [ncm_4]; exact z), h.ncm.1.2.wake (u := u) (b := b) hP.nn h.ncm.1.1.gi j1 j2 (by rw [ncm_4]; exact z)⟩, h.ncm.2.wake (u := u) (b := b) hP.nn h.ncm.1.1.gi j1 j2 (by rw [ncm_4]; exact z)⟩, by obtain ⟨_, _, w⟩ := z; rw [w]⟩
theorem TX.draw {P : Pm} {g : Gh} {S : SS} {E' : Nat → Nat → Int32} {ms' : List Mg} {set ep st : Int32} {er : Nat → Nat} (hnn : P.nn ≤ 6) (h : TX P g S) (hr : tmR P.nn 0 ep st P.nn 0 S.2.2.1 ms') (h4 : ∀ x, x = 9 ∨ x = 11 → E' 4 x = S.1 4 x) (h9 : E' 9 = S.1 9) : TX P (g.draw set er) (E', S.2.1, ms', S.2.2.2) := by
  obtain ⟨Z, y1, _, y3, _⟩ := tm_z P.nn 0 (by omega) hr
  exact (h.ms y1 (fun z hz => TLx.k (by rw [(y3 z hz).1]; decide)) h4 h9).ge ⟨rfl, rfl, rfl⟩
theorem drE_w {E : Nat → Nat → Int32} {s : Int32} : (∀ x, x = 9 ∨ x = 11 → drE E s 4 x = E 4 x) ∧ drE E s 9 = E 9 := by
  unfold drE
  refine ⟨fun x hx => ?_, va_up_n _ _ (by decide)⟩
  rw [va_up_s]
  rcases hx with e | e <;> rw [e, pk_un (by decide), pk_un (by decide), pk_un (by decide)]
theorem SVT.ma {P : Pm} {R c rc : Nat} {g : Gh} {S S' : SS} {x y : Int32} (hP : PmO P) (hc : c + 1 < 2 ^ 30) (h : SVT P R c g rc S) (hr : maR P.nn x S y S') : ∃ g', GE g g' ∧ SVT P R (c + 1) g' rc S' := by
  obtain ⟨_, ms', z, zr⟩ := hr
  rw [z]
  refine ⟨g.draw (x &&& allN P.nn) g.er, ⟨rfl, rfl, rfl⟩, ⟨h.1.1.draw hc zr, h.1.2.draw hP.nn zr⟩, h.2.draw hP.nn zr (fun x hx => ?_) ?_⟩
  · rw [drE_w.1 x hx, va_up_n _ _ (by decide)]
  · rw [drE_w.2, va_up_n _ _ (by decide)]
theorem SVT.rp {P : Pm} {R c rc : Nat} {g : Gh} {S S' : SS} {x y : Int32} (hP : PmO P) (hC : P.C = nI R) (hR : R < 2 ^ 31) (hc : c + 1 < 2 ^ 30) (h : SVT P R c g rc S) (hr : rpR P.nn P.C x S y S') : ∃ g' rc', GE g g' ∧ SVT P R (c + 1) g' rc' S' := by
  rcases hr with ⟨_, _, z⟩ | ⟨j, j1, _, j2, j3, _, ms', z, zr⟩
  · rw [z]; exact ⟨g, rc, GE.rf g, h.up⟩
  · have hlt := h.1.1.lt
    have hj3 : rc < R - 1 := by
      rw [h.1.1.re, hC, show nI R - 1 = nI (R - 1) by rw [show R = (R - 1) + 1 by omega, ← nI_1, show R - 1 + 1 - 1 = R - 1 by omega]; exact Int32.add_sub_cancel _ _] at j3
      exact (nI_ltI (by omega) (by omega)).mp j3
    refine ⟨g.draw (S.1 4 14) (fup g.er j (g.ep + 1)), rc + 1, ⟨rfl, rfl, rfl⟩, ⟨⟨?_, h.1.1.er.rep h.1.1.gi.ep.2, ?_, by omega, by have := h.1.1.ep; show g.ep + 1 ≤ c + 1; omega⟩, ?_⟩, ?_⟩
    · rw [z]
      exact h.1.1.gi.replace (by have := h.1.1.ep; omega) j1 j2 (fun x _ => by rw [va_up_n _ _ (by decide)]) zr
    · rw [z]
      show drE (va_up S.1 100 (upd (upd (S.1 100) 9 (S.1 100 9 + 1)) 10 0)) (S.1 4 14) 100 9 = _
      rw [(drE_v _ _).2.2.2.2 100 (by decide), va_up_s, pk_un (by decide), pk_us, h.1.1.re, nI_1]
    · rw [z]
      have h1 : SX P (g.draw (S.1 4 14) (fup g.er j (g.ep + 1))) (drE (va_up S.1 100 (upd (upd (S.1 100) 9 (S.1 100 9 + 1)) 10 0)) (S.1 4 14), S.2.1, ms', S.2.2.2) := h.1.2.draw hP.nn zr
      exact h1.dead (by rw [va_up_n _ _ (by decide)]; exact j2)
    · rw [z]
      have h1 : TX P (g.draw (S.1 4 14) (fup g.er j (g.ep + 1))) (drE (va_up S.1 100 (upd (upd (S.1 100) 9 (S.1 100 9 + 1)) 10 0)) (S.1 4 14), S.2.1, ms', S.2.2.2) := h.2.draw hP.nn zr (fun x hx => by rw [drE_w.1 x hx, va_up_n _ _ (by decide)]) (by rw [drE_w.2, va_up_n _ _ (by decide)])
      refine ⟨h1.1, h1.2.1, fun i hi => ?_, h1.2.2.2⟩
      by_cases e : i = j
      · subst e
        intro q
        refine absurd ?_ q
        show va_up S.2.2.2.1 i _ i 0 6 = 0
        rw [va_up_s, va_up_n _ _ (by decide)]; exact j2
      · intro q1 q2
        have hne : ∀ v : Nat → Nat → Int32, va_up S.2.2.2.1 j v i = S.2.2.2.1 i := fun v => va_up_n _ _ e
        have := h1.2.2.1 i hi
        simp only [hne] at q1 q2 ⊢
        exact this q1 q2
/-- zeros behind the NAMES that are laid down -/
def EZn (E : Nat → Nat → Int32) : Prop := nzP (nby (E 6) 0) (E 7 0).toNatClampNeg ∧ nzP (nby (E 6) 50) (E 7 1).toNatClampNeg
theorem TLx.beg {P : Pm} {g : Gh} {m x : Mg} (hm : ∃ e, MO P g e x) (hG : GO g) (h : TLx g x) : TLx (g.beg m) x := fun h0 o ho h5 => by
  obtain ⟨e, hm⟩ := hm
  obtain ⟨o', o1, o2, _⟩ := hm.tl h0
  have h512 := hG.1
  have ho : o < g.bg + 1 := ho
  have : o = o' := nI_inj (by omega) (by omega) (h5.symm.trans o2)
  subst this
  have e1 : (g.beg m).ops o = g.ops o := fup_n (by omega)
  have e2 : tsp (g.beg m).ops o = tsp g.ops o := (g.beg_le m).tspE (Nat.le_of_lt o1)
  rw [e1, e2]
  exact h h0 o o1 h5
theorem SVT.bg {P : Pm} {R c rc : Nat} {g : Gh} {S S' : SS} {kd a b0 y : Int32} (hl : inR 2049 (S.1 4 3)) (h0 : inR 201 (S.1 7 0)) (h1 : inR 201 (S.1 7 1)) (hz : EZn S.1) (h : SVT P R c g rc S) (hr : bgR P.nn P.f kd a b0 S y S') :
    (¬ mayA (S.1 7 0) (S.1 7 1) kd a b0 ∧ y = -1 ∧ S' = S) ∨ (mayA (S.1 7 0) (S.1 7 1) kd a b0 ∧ (12 ≤ g.bg - g.sn ∨ 512 ≤ g.bg) ∧ y = -4 ∧ S' = S) ∨
    (mayA (S.1 7 0) (S.1 7 1) kd a b0 ∧ ¬ 12 ≤ g.bg - g.sn ∧ g.bg < 512 ∧ y = nI g.bg ∧ S'.1 = opE (va_up S.1 100 (upd (S.1 100) 10 0)) kd g.bg ∧ S'.2.2.2 = S.2.2.2 ∧ SVT P R c (g.beg (opQ (va_up S.1 100 (upd (S.1 100) 10 0)) (S.2.1 (g.bg % 24)) kd a b0)) rc S') := by
  have hr0 := hr
  obtain ⟨bg, he, se, e8, e9, e10, o1, o2, o3, o4, hr⟩ := hr
  obtain ⟨he', ha⟩ := h.1.1.gi.as
  have hG := h.1.1.gi.go
  have h5 := hG.1
  have hb : bg = g.bg := nI_inj (by omega) (by omega) (by rw [← e8, ha.bg])
  have hs : se = g.sn := nI_inj (by omega) (by have := ha.se; have := ha.h1; omega) (by rw [← e10, ha.se.2.2])
  subst hb hs
  rcases hr with ⟨m, y1, z⟩ | ⟨m, n1, y1, z⟩ | ⟨m, n1, n2, y1, ms', z, zr⟩
  · exact Or.inl ⟨m, y1, z⟩
  · exact Or.inr (Or.inl ⟨m, n1, y1, z⟩)
  · refine Or.inr (Or.inr ⟨m, n1, n2, y1, by rw [z], by rw [z], ?_⟩)
    have E100 : ∀ q, q ≠ 100 → va_up S.1 100 (upd (S.1 100) 10 0) q = S.1 q := fun q hq => va_up_n _ _ hq
    obtain ⟨v1, v2, v3⟩ := opE_v (va_up S.1 100 (upd (S.1 100) 10 0)) kd g.bg
    generalize hm : opQ (va_up S.1 100 (upd (S.1 100) 10 0)) (S.2.1 (g.bg % 24)) kd a b0 = mq at z
    obtain ⟨q0, q1, q2, q3, q4, q5⟩ := opQ_v (va_up S.1 100 (upd (S.1 100) 10 0)) (S.2.1 (g.bg % 24)) kd a b0
    rw [hm] at q0 q1 q2 q3 q4 q5
    have hw : ∀ x, x < 100 → mq.2 x = S.1 6 x := fun x hx => by
      rw [← hm]
      unfold opQ
      show (if kd = 1 ∨ kd = 2 then va_cpy (va_up S.1 100 (upd (S.1 100) 10 0) 5) (va_cpy (va_up S.1 100 (upd (S.1 100) 10 0) 6) (S.2.1 (g.bg % 24)).2 0 0 100) 0 100 512 else va_cpy (va_up S.1 100 (upd (S.1 100) 10 0) 6) (S.2.1 (g.bg % 24)).2 0 0 100) x = _
      have hc : va_cpy (va_up S.1 100 (upd (S.1 100) 10 0) 6) (S.2.1 (g.bg % 24)).2 0 0 100 x = S.1 6 x := by
        rw [pk_cpy_in (by omega) (by omega), E100 6 (by decide)]
        refine congrArg _ ?_
        omega
      split
      · rw [pk_cpy_out (by omega)]; exact hc
      · exact hc
    refine ⟨⟨⟨?_, ⟨h.1.1.er.c1, h.1.1.er.c2, h.1.1.er.c3⟩, ?_, h.1.1.lt, h.1.1.ep⟩, ?_⟩, ?_, ?_, ?_, ?_⟩
    · rw [z] at zr ⊢
      refine h.1.1.gi.begin n2 ?_ ⟨fun x _ => by rw [va_up_s], fun x _ => by rw [va_up_s]⟩ (fun i _ hi => va_up_n _ _ hi) v1 (fun x hx => by rw [v2 x hx, E100 4 (by decide)]) (by omega) ?_
      · rw [q0, q1, q2, q3, q4, q5]
        rw [E100 7 (by decide)]
        refine m.aq h0 h1 ?_
        unfold opL
        rw [E100 4 (by decide)]
        split
        · exact hl
        · exact ⟨0, by decide, rfl⟩
      · rcases zr with ⟨y1, y2⟩ | ⟨_, y2⟩
        · exact Or.inl ⟨by rw [e9, y1], y2⟩
        · exact Or.inr y2
    · rw [z]
      show opE (va_up S.1 100 (upd (S.1 100) 10 0)) kd g.bg 100 9 = _
      rw [v3 100 (by decide), va_up_s, pk_un (by decide)]
      exact h.1.1.re
    · have hle := g.beg_le mq
      rw [z] at zr ⊢
      rcases zr with ⟨_, y2⟩ | ⟨_, y2⟩
      · obtain ⟨Z, z1, _, z3, _⟩ := ask_z y2
        exact (h.1.2.ms z1 (fun z hz => MS.k2 (z3 z hz).1)).mono hle
      · exact (h.1.2.ms (Z := []) y2 (fun z hz => by cases hz)).mono hle
    · intro o ho
      have ho : o < g.bg + 1 := ho
      by_cases e : o = g.bg
      · have e1 : (g.beg mq).ops o = mq := by rw [e]; exact fup_s
        rw [e1]
        refine ⟨?_, ?_⟩
        · rw [q3, E100 7 (by decide)]
          intro j j1 j2
          rw [nby_cg (f := mq.2) (g := S.1 6) (p := 0) (q := 0) (fun x hx => by rw [Nat.zero_add]; exact hw x (by omega)) j j2]
          exact hz.1 j j1 j2
        · rw [q4, E100 7 (by decide)]
          intro j j1 j2
          rw [nby_cg (f := mq.2) (g := S.1 6) (p := 50) (q := 50) (fun x hx => hw (50 + x) (by omega)) j j2]
          exact hz.2 j j1 j2
      · have e1 : (g.beg mq).ops o = g.ops o := fup_n e
        rw [e1]; exact h.2.1 o (by omega)
    · rw [z] at zr ⊢
      intro x hx
      have hx : x ∈ ms' := hx
      have hold : ∀ x, x ∈ S.2.2.1 → TLx (g.beg mq) x := fun x hx => (h.2.2.1 x hx).beg (h.1.1.gi.ms x hx) hG
      rcases zr with ⟨_, y2⟩ | ⟨_, y2⟩
      · obtain ⟨Z, z1, _, z3, _⟩ := ask_z y2
        rw [z1] at hx
        rcases psl_in Z hx with q | q
        · exact hold x q
        · exact TLx.k (by rw [(z3 x q).1]; decide)
      · rw [y2] at hx; exact hold x hx
    · rw [z]
      intro j hj u1 u2 h3 o ho h4 hk
      have hN := (h.1.1.gi.nd j hj).resolve_left (fun q => u1 q.1)
      obtain ⟨_, e, hN⟩ := hN
      have hLO := hN.ld u2
      have hob : o < g.bg := by
        rcases hLO.st with ⟨q, _⟩ | ⟨q, _⟩ | ⟨_, o', ⟨q1, _⟩, q2, _⟩ | ⟨q, _⟩ | ⟨q, _⟩
        · rw [h3] at q; exact absurd q (by decide)
        · rw [h3] at q; exact absurd q (by decide)
        · have ho : o < g.bg + 1 := ho
          have : o = o' := nI_inj (by omega) (by omega) (h4.symm.trans q2.ak.op)
          omega
        · rw [h3] at q; exact absurd q (by decide)
        · rw [h3] at q; exact absurd q (by decide)
      have e1 : (g.beg mq).ops o = g.ops o := fup_n (by omega)
      have e2 : tsp (g.beg mq).ops o = tsp g.ops o := (g.beg_le mq).tspE (Nat.le_of_lt hob)
      rw [e1] at hk ⊢
      rw [e2]
      exact h.2.2.2.1 j hj u1 u2 h3 o hob h4 hk
    · obtain ⟨sc, a1, a2, a3, a4, a5⟩ := h.2.2.2.2
      have heN1 : heN S' = heN S := by
        unfold heN
        rw [z]
        show (opE (va_up S.1 100 (upd (S.1 100) 10 0)) kd g.bg 4 9).toNatClampNeg = _
        rw [v2 9 (by decide), E100 4 (by decide)]
      have hhb : heN S ≤ g.bg := by
        unfold heN
        rw [ha.h2, nI_clamp (by have := ha.h1; omega)]; exact ha.h1.1
      have hsn12 := ha.se.2.1
      have hcg : ∀ o, o < heN S → (g.beg mq).ops o = g.ops o ∧ tsp (g.beg mq).ops o = tsp g.ops o := fun o ho => ⟨fup_n (by omega), (g.beg_le mq).tspE (by omega)⟩
      refine ⟨sc, ?_, a2, a3, fun o ho => ?_, fun o h1 h2 => ?_⟩
      · rw [z]
        show opE (va_up S.1 100 (upd (S.1 100) 10 0)) kd g.bg 4 11 = _
        rw [v2 11 (by decide), E100 4 (by decide)]; exact a1
      · rw [heN1] at ho
        rw [(hcg o ho).1, (hcg o ho).2, ← a4 o ho, z]
        show opE (va_up S.1 100 (upd (S.1 100) 10 0)) kd g.bg 9 o = _
        rw [v3 9 (by decide), E100 9 (by decide)]
      · rw [heN1] at h2
        rw [(hcg o h2).1, (hcg o h2).2, z]
        show (va_up S.2.1 (g.bg % 24) mq (o % 24)).1 6 = _ ∧ ∀ y, _ → uN (bytA (va_up S.2.1 (g.bg % 24) mq (o % 24)).2 (400 + y)) = _
        rw [va_up_n _ _ (show o % 24 ≠ g.bg % 24 by omega)]
        exact a5 o h1 h2

/-! each call keeps all of it -/
def SVX (P : Pm) (R c : Nat) (g : Gh) (rc : Nat) (S : SS) : Prop := SV P R c g rc S ∧ SX P g S
theorem SVX.gx {P : Pm} {R c rc : Nat} {g : Gh} {S : SS} (h : SVX P R c g rc S) : GIX P g S := ⟨h.1.gi, h.2⟩
theorem SVX.ncm {P : Pm} {R c rc : Nat} {g : Gh} {S : SS} (h : SVX P R c g rc S) : SVX P R c g rc (ncm S) := ⟨h.1.ncm, h.2⟩
theorem SVX.up {P : Pm} {R c rc : Nat} {g : Gh} {S : SS} (h : SVX P R c g rc S) : SVX P R (c + 1) g rc S := ⟨h.1.up, h.2⟩
theorem SVX.mk2 {P : Pm} {R c rc : Nat} {g : Gh} {S S' : SS} (h : SVX P R c g rc S) (hx : ∃ g', Gs g g' ∧ GIX P g' S' ∧ S'.1 100 = S.1 100) : ∃ g', SVX P R c g' rc S' := by
  obtain ⟨g', a, b, d⟩ := hx
  exact ⟨g', ⟨b.1, h.1.er.gs a, by rw [d]; exact h.1.re, h.1.lt, by rw [a.ep]; exact h.1.ep⟩, b.2⟩
theorem SVX.own {P : Pm} {R c rc : Nat} {g : Gh} {S : SS} {E' : Nat → Nat → Int32} (h : SVX P R c g rc S) (hE : ∀ x, 8 ≤ x → E' 4 x = S.1 4 x) (h9 : E' 100 = S.1 100) : SVX P R c g rc (E', S.2) := ⟨h.1.own hE h9, h.2⟩
theorem SVX.de {P : Pm} {R c rc : Nat} {g : Gh} {S S' : SS} (hP : PmO P) (h : SVX P R c g rc S) (hr : deR P.nn P.gg P.C P.f S S') : ∃ g', SVX P R c g' rc S' := by
  rcases hr with ⟨_, z⟩ | ⟨x, S1, z1, z2⟩
  · rw [z]; exact ⟨g, h.ncm⟩
  · obtain ⟨a, b, e, d⟩ := h.ncm.gx.take z1
    obtain ⟨g', h1, h2, h3⟩ := a.hand hP b e z2
    exact h.ncm.mk2 ⟨g', h1, h2, by rw [h3, d]⟩
theorem SVX.lo {P : Pm} {R c rc : Nat} {g : Gh} {S S' : SS} (h : SVX P R c g rc S) (hr : loR S S') : ∃ g', SVX P R c g' rc S' := by
  rcases hr with ⟨_, z⟩ | ⟨x, z1⟩
  · rw [z]; exact ⟨g, h.ncm⟩
  · obtain ⟨a, b, e, d⟩ := h.ncm.gx.take z1
    exact h.ncm.mk2 ⟨g, Gs.rf g, a, d⟩
theorem SVX.tw {P : Pm} {R c rc : Nat} {g : Gh} {S S' : SS} (hP : PmO P) (h : SVX P R c g rc S) (hr : twR P.nn P.gg P.C P.f S S') : ∃ g', SVX P R c g' rc S' := by
  rcases hr with ⟨_, z⟩ | ⟨x, z1, z2⟩
  · rw [z]; exact ⟨g, h.ncm⟩
  · exact h.ncm.mk2 (h.ncm.gx.hand hP (h.1.gi.ms x z1) (h.2.2.1 x z1) z2)
theorem SVX.si {P : Pm} {R c rc : Nat} {g : Gh} {S S' : SS} {x y : Int32} (hP : PmO P) (h : SVX P R c g rc S) (hr : siR P.nn P.gg P.C P.f x S y S') : ∃ g', SVX P R c g' rc S' := by
  rcases hr with ⟨_, _, z⟩ | ⟨_, _, _, k, z⟩
  · rw [z]; exact ⟨g, h⟩
  · exact h.ncm.mk2 (GIX.it (fun g S S' a b => a.mv hP b) k h.ncm.gx z)
theorem SVX.ti {P : Pm} {R c rc : Nat} {g : Gh} {S S' : SS} {x y : Int32} (hP : PmO P) (h : SVX P R c g rc S) (hr : tiR P.nn P.gg P.C P.f x S y S') : ∃ g', SVX P R c g' rc S' := by
  rcases hr with ⟨_, _, z⟩ | ⟨_, _, _, k, z⟩
  · rw [z]; exact ⟨g, h⟩
  · exact h.ncm.mk2 (GIX.it (fun g S S' a b => a.tick hP b) k h.ncm.gx z)
theorem SVX.cr {P : Pm} {R c rc : Nat} {g : Gh} {S S' : SS} {x y0 z0 y : Int32} (h : SVX P R c g rc S) (hr : crR P.nn P.gg P.C P.f x y0 z0 S y S') : ∃ g', SVX P R c g' rc S' := by
  rcases hr with ⟨_, _, z⟩ | ⟨j, j1, _, j2, _, u, b, z⟩
  · rw [z]; exact ⟨g, h⟩
  · exact h.ncm.mk2 ⟨g, Gs.rf g, ⟨h.ncm.1.gi.sleep j1 j2 z, h.ncm.2.sleep h.ncm.1.gi j1 j2 z⟩, by obtain ⟨_, _, w⟩ := z; rw [w]⟩
theorem SVX.re' {P : Pm} {R c rc : Nat} {g : Gh} {S S' : SS} {x y : Int32} (hP : PmO P) (h : SVX P R c g rc S) (hr : reR P.nn P.gg P.C P.f x S y S') : ∃ g', SVX P R c g' rc S' := by
  rcases hr with ⟨_, _, z⟩ | ⟨j, j1, _, j2, _, u, b, z⟩
  · rw [z]; exact ⟨g, h⟩
  · exact h.ncm.mk2 ⟨g, Gs.rf g, ⟨h.ncm.1.gi.wake (u := u) (b := b) j1 j2 (by rw [ncm_4]; exact z), h.ncm.2.wake (u := u) (b := b) hP.nn h.ncm.1.gi j1 j2 (by rw [ncm_4]; exact z)⟩, by obtain ⟨_, _, w⟩ := z; rw [w]⟩
theorem SX.draw {P : Pm} {g : Gh} {S : SS} {E' : Nat → Nat → Int32} {ms' : List Mg} {set ep st : Int32} {er : Nat → Nat} (hnn : P.nn ≤ 6) (h : SX P g S) (hr : tmR P.nn 0 ep st P.nn 0 S.2.2.1 ms') : SX P (g.draw set er) (E', S.2.1, ms', S.2.2.2) := by
  obtain ⟨Z, y1, _, y3, _⟩ := tm_z P.nn 0 (by omega) hr
  exact (h.ms y1 (fun z hz => MS.k0 (y3 z hz).1)).mono (g.draw_le set er)
theorem SVX.ma {P : Pm} {R c rc : Nat} {g : Gh} {S S' : SS} {x y : Int32} (hP : PmO P) (hc : c + 1 < 2 ^ 30) (h : SVX P R c g rc S) (hr : maR P.nn x S y S') : ∃ g', SVX P R (c + 1) g' rc S' := by
  obtain ⟨_, ms', z, zr⟩ := hr
  rw [z]
  exact ⟨_, h.1.draw hc zr, h.2.draw hP.nn zr⟩
theorem SX.dead {P : Pm} {g : Gh} {S : SS} {j : Nat} {D' : Nat → Nat → Int32} (h : SX P g S) (hd : D' 0 6 = 0) : SX P g (S.1, S.2.1, S.2.2.1, va_up S.2.2.2.1 j D', S.2.2.2.2) := ⟨h.1, h.2.1, fun i hi => by
  show ¬ va_up S.2.2.2.1 j D' i 0 6 = 0 → ¬ ldB P.f P.nn (nI i) (va_up S.2.2.2.1 j D' i 0 8) = 0 → GH P g (va_up S.2.2.2.1 j D' i) (S.2.2.2.2.1 i)
  by_cases e : i = j
  · subst e
    rw [va_up_s]; exact fun q => absurd hd q
  · rw [va_up_n _ _ e]; exact h.2.2 i hi⟩
theorem SVX.rp {P : Pm} {R c rc : Nat} {g : Gh} {S S' : SS} {x y : Int32} (hP : PmO P) (hC : P.C = nI R) (hR : R < 2 ^ 31) (hc : c + 1 < 2 ^ 30) (h : SVX P R c g rc S) (hr : rpR P.nn P.C x S y S') : ∃ g' rc', SVX P R (c + 1) g' rc' S' := by
  rcases hr with ⟨_, _, z⟩ | ⟨j, j1, _, j2, j3, _, ms', z, zr⟩
  · rw [z]; exact ⟨g, rc, h.up⟩
  · have hlt := h.1.lt
    have hj3 : rc < R - 1 := by
      rw [h.1.re, hC, show nI R - 1 = nI (R - 1) by rw [show R = (R - 1) + 1 by omega, ← nI_1, show R - 1 + 1 - 1 = R - 1 by omega]; exact Int32.add_sub_cancel _ _] at j3
      exact (nI_ltI (by omega) (by omega)).mp j3
    refine ⟨g.draw (S.1 4 14) (fup g.er j (g.ep + 1)), rc + 1, ⟨?_, h.1.er.rep h.1.gi.ep.2, ?_, by omega, by have := h.1.ep; show g.ep + 1 ≤ c + 1; omega⟩, ?_⟩
    · rw [z]
      exact h.1.gi.replace (by have := h.1.ep; omega) j1 j2 (fun x _ => by rw [va_up_n _ _ (by decide)]) zr
    · rw [z]
      show drE (va_up S.1 100 (upd (upd (S.1 100) 9 (S.1 100 9 + 1)) 10 0)) (S.1 4 14) 100 9 = _
      rw [(drE_v _ _).2.2.2.2 100 (by decide), va_up_s, pk_un (by decide), pk_us, h.1.re, nI_1]
    · rw [z]
      have h1 : SX P (g.draw (S.1 4 14) (fup g.er j (g.ep + 1))) (drE (va_up S.1 100 (upd (upd (S.1 100) 9 (S.1 100 9 + 1)) 10 0)) (S.1 4 14), S.2.1, ms', S.2.2.2) := h.2.draw hP.nn zr
      exact h1.dead (by rw [va_up_n _ _ (by decide)]; exact j2)
theorem SVX.bg {P : Pm} {R c rc : Nat} {g : Gh} {S S' : SS} {kd a b0 y : Int32} (hl : inR 2049 (S.1 4 3)) (h0 : inR 201 (S.1 7 0)) (h1 : inR 201 (S.1 7 1)) (h : SVX P R c g rc S) (hr : bgR P.nn P.f kd a b0 S y S') : ∃ g', SVX P R c g' rc S' := by
  obtain ⟨bg, he, se, e8, e9, e10, o1, o2, o3, o4, hr⟩ := hr
  rcases hr with ⟨_, _, z⟩ | ⟨_, _, _, z⟩ | ⟨m, n1, n2, _, ms', z, zr⟩
  · rw [z]; exact ⟨g, h⟩
  · rw [z]; exact ⟨g, h⟩
  · obtain ⟨he', ha⟩ := h.1.gi.as
    have h5 := h.1.gi.go.1
    have hb : bg = g.bg := nI_inj (by omega) (by omega) (by rw [← e8, ha.bg])
    have hs : se = g.sn := nI_inj (by omega) (by have := ha.se; have := ha.h1; omega) (by rw [← e10, ha.se.2.2])
    subst hb
    have E100 : ∀ q, q ≠ 100 → va_up S.1 100 (upd (S.1 100) 10 0) q = S.1 q := fun q hq => va_up_n _ _ hq
    obtain ⟨v1, v2, v3⟩ := opE_v (va_up S.1 100 (upd (S.1 100) 10 0)) kd g.bg
    refine ⟨g.beg (opQ (va_up S.1 100 (upd (S.1 100) 10 0)) (S.2.1 (g.bg % 24)) kd a b0), ⟨?_, ?_, ?_, h.1.lt, h.1.ep⟩, ?_⟩
    · rw [z] at zr ⊢
      refine h.1.gi.begin n2 ?_ ⟨fun x _ => by rw [va_up_s], fun x _ => by rw [va_up_s]⟩ (fun i _ hi => va_up_n _ _ hi) v1 (fun x hx => by rw [v2 x hx, E100 4 (by decide)]) (by omega) ?_
      · obtain ⟨q0, q1, q2, q3, q4, q5⟩ := opQ_v (va_up S.1 100 (upd (S.1 100) 10 0)) (S.2.1 (g.bg % 24)) kd a b0
        rw [q0, q1, q2, q3, q4, q5]
        rw [E100 7 (by decide)]
        refine m.aq h0 h1 ?_
        unfold opL
        rw [E100 4 (by decide)]
        split
        · exact hl
        · exact ⟨0, by decide, rfl⟩
      · rcases zr with ⟨y1, y2⟩ | ⟨_, y2⟩
        · exact Or.inl ⟨by rw [e9, y1], y2⟩
        · exact Or.inr y2
    · exact ⟨h.1.er.c1, h.1.er.c2, h.1.er.c3⟩
    · rw [z]
      show opE (va_up S.1 100 (upd (S.1 100) 10 0)) kd g.bg 100 9 = _
      rw [v3 100 (by decide), va_up_s, pk_un (by decide)]
      exact h.1.re
    · have hle := g.beg_le (opQ (va_up S.1 100 (upd (S.1 100) 10 0)) (S.2.1 (g.bg % 24)) kd a b0)
      rw [z] at zr ⊢
      rcases zr with ⟨_, y2⟩ | ⟨_, y2⟩
      · obtain ⟨Z, z1, _, z3, _⟩ := ask_z y2
        exact (h.2.ms z1 (fun z hz => MS.k2 (z3 z hz).1)).mono hle
      · exact (h.2.ms (Z := []) y2 (fun z hz => by cases hz)).mono hle
/-- settle, if it comes to its end -/
theorem SVX.sl {P : Pm} {R c rc : Nat} {g : Gh} {S Sf S' : SS} {TK : Int64} (hP : PmO P) (hn0 : 0 < P.nn) (hK : RK P) (hC : P.C = nI R) (hR : R ≤ P.nn) (hc : c + 1 < 2 ^ 30) (h : SVX P R c g rc S) (hr : seR P.nn P.gg P.C P.f S Sf) (hd : dnP P.nn P.gg P.f Sf) (hct : ctR P.nn P.f TK Sf S') : ∃ g', SVX P R (c + 1) g' 0 S' := by
  obtain ⟨ms2, S1, z1, z2, z3⟩ := hr
  have hep := h.1.ep
  obtain ⟨a1, a2, l, l1, l2, l3, l4, l5, l6⟩ := se_1 hP hn0 h.gx (by omega) z1 z2
  obtain ⟨g1, b1, b2, b3, b4⟩ := stl_C hP l1 2001 0 l3 l2 a1.2.1 l4 l5 l6 (fun z => absurd rfl z) z3
  obtain ⟨g3, _, c2, _⟩ := GIX.stl hP 2001 0 a1 z3
  have hE1 : ER P (g.draw (allN P.nn) g.er) rc := h.1.er.draw
  have hE : ER P g1 rc := hE1.gs b1
  have hmp : g1.mp g1.ep = allN P.nn := by
    rw [b1.mp, b1.ep]
    show fup g.mp (g.ep + 1) (allN P.nn) (g.ep + 1) = _
    rw [fup_s]
  have hlt : ∀ n, g1.er n < g1.ep := fun n => by
    rw [b1.er, b1.ep]
    show g.er n < g.ep + 1
    have := h.1.er.c3 n
    omega
  have hct' := hct
  unfold ctR at hct'
  obtain ⟨k1, _, _⟩ := ctF_4 P.nn P.f (pbE Sf.1) TK Sf.2.2.2.1
  have e4 : S'.1 4 = pbE Sf.1 4 := by
    rw [hct']
    show va_up (ctF P.nn P.f (pbE Sf.1) TK Sf.2.2.2.1).1 100 (upd (upd ((ctF P.nn P.f (pbE Sf.1) TK Sf.2.2.2.1).1 100) 9 0) 10 1) 4 = _
    rw [va_up_n _ _ (by decide), k1]
  have p4 : pbE Sf.1 4 = upd (upd (Sf.1 4) 10 (Sf.1 4 8)) 11 (Sf.1 4 10) := by unfold pbE; rw [va_up_s]
  have hfin := dn_fin (S' := S') hP hK hC hR l1 b2 (by rw [lds_gs b1, b1.ep]; exact l2) b3 hE h.1.lt hmp hlt (c2.2.2.2.hd (Nat.le_of_eq (GI.hde c2.1 b2.1))) hd (by rw [e4, p4, pk_un (by decide), pk_un (by decide)]) (by rw [e4, p4, pk_un (by decide), pk_un (by decide)]) (by rw [e4, p4, pk_un (by decide), pk_us]) (fun x hx => by rw [e4, p4, pk_un (by omega), pk_un (by omega)]) (by rw [hct'])
  have h2' : S'.2 = Sf.2 := by rw [hct']
  refine ⟨g1.fin, ⟨hfin.1, hfin.2, ?_, by have := h.1.lt; omega, ?_⟩, ?_, ?_, ?_⟩
  · rw [hct']
    show va_up (ctF P.nn P.f (pbE Sf.1) TK Sf.2.2.2.1).1 100 (upd (upd ((ctF P.nn P.f (pbE Sf.1) TK Sf.2.2.2.1).1 100) 9 0) 10 1) 100 9 = _
    rw [va_up_s, pk_un (by decide), pk_us]; rfl
  · show g1.ep ≤ c + 1
    rw [b1.ep]
    show g.ep + 1 ≤ c + 1
    omega
  · rw [h2', hd.2.2.1]; exact Nat.zero_le _
  · rw [h2', hd.2.2.1]; exact fun x hx => by cases hx
  · intro i hi
    rw [h2']
    refine (c2.2.2.2.hd (g' := g1.fin) ?_) i hi
    rw [GI.hde c2.1 b2.1]
    obtain ⟨he, ha⟩ := b2.1.as
    show g1.hd ≤ g1.bg
    rw [ha.hh]; exact ha.h1.1

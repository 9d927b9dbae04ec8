/-! each call keeps the store's invariant -/
def SV (P : Pm) (R c : Nat) (g : Gh) (rc : Nat) (S : SS) : Prop :=
  (GI P g S) ∧
  (ER P g rc) ∧
  (S.1 100 9 = nI rc) ∧
  (rc < R) ∧
  (g.ep ≤ c)
theorem SV.gi {P : Pm} {R c : Nat} {g : Gh} {rc : Nat} {S : SS} (h_ : SV P R c g rc S) : GI P g S := h_.1
theorem SV.er {P : Pm} {R c : Nat} {g : Gh} {rc : Nat} {S : SS} (h_ : SV P R c g rc S) : ER P g rc := h_.2.1
theorem SV.re {P : Pm} {R c : Nat} {g : Gh} {rc : Nat} {S : SS} (h_ : SV P R c g rc S) : S.1 100 9 = nI rc := h_.2.2.1
theorem SV.lt {P : Pm} {R c : Nat} {g : Gh} {rc : Nat} {S : SS} (h_ : SV P R c g rc S) : rc < R := h_.2.2.2.1
theorem SV.ep {P : Pm} {R c : Nat} {g : Gh} {rc : Nat} {S : SS} (h_ : SV P R c g rc S) : g.ep ≤ c := h_.2.2.2.2
theorem ER.gs {P : Pm} {g g' : Gh} {rc : Nat} (h : ER P g rc) (hg : Gs g g') : ER P g' rc := ⟨by rw [hg.le.es, hg.er]; exact h.c1, fun n => by rw [hg.le.es, hg.er]; exact h.c2 n, fun n => by rw [hg.er, hg.ep]; exact h.c3 n⟩
theorem ER.draw {P : Pm} {g : Gh} {rc : Nat} {set : Int32} (h : ER P g rc) : ER P (g.draw set g.er) rc := ⟨h.c1, h.c2, fun n => Nat.le_trans (h.c3 n) (Nat.le_succ _)⟩
theorem Sm_up1 {f g : Nat → Nat} {j : Nat} (h1 : ∀ i, i ≠ j → f i = g i) (h2 : f j ≤ g j + 1) : ∀ n, Sm f n ≤ Sm g n + (if j < n then 1 else 0)
  | 0 => by show 0 ≤ 0 + _; omega
  | n + 1 => by
    have ih := Sm_up1 h1 h2 n
    show Sm f n + f n ≤ Sm g n + g n + _
    by_cases e : n = j
    · subst e
      rw [if_neg (by omega)] at ih
      rw [if_pos (by omega)]
      omega
    · rw [h1 n e]
      by_cases c : j < n
      · rw [if_pos c] at ih; rw [if_pos (by omega)]; omega
      · rw [if_neg c] at ih; rw [if_neg (by omega)]; omega
theorem ER.rep {P : Pm} {g : Gh} {rc j : Nat} {set : Int32} (h : ER P g rc) (hes : g.es ≤ g.ep) : ER P (g.draw set (fup g.er j (g.ep + 1))) (rc + 1) := by
  refine ⟨?_, fun n => ?_, fun n => ?_⟩
  · have h1 := h.c1
    have h2 := Sm_up1 (f := fun n => if g.es < fup g.er j (g.ep + 1) n then 1 else 0) (g := fun n => if g.es < g.er n then 1 else 0) (j := j) (fun i hi => by simp only [fup_n hi]) (by
      show (if g.es < fup g.er j (g.ep + 1) j then 1 else 0) ≤ (if g.es < g.er j then 1 else 0) + 1
      split <;> split <;> omega) P.nn
    show Sm (fun n => if g.es < fup g.er j (g.ep + 1) n then 1 else 0) P.nn ≤ rc + 1
    have h3 : (if j < P.nn then 1 else 0) ≤ 1 := by split <;> omega
    omega
  · show fup g.er j (g.ep + 1) n < g.es ∨ g.es < fup g.er j (g.ep + 1) n
    by_cases e : n = j
    · subst e; rw [fup_s]; omega
    · rw [fup_n e]; exact h.c2 n
  · show fup g.er j (g.ep + 1) n ≤ g.ep + 1
    by_cases e : n = j
    · subst e; rw [fup_s]; omega
    · rw [fup_n e]; exact Nat.le_trans (h.c3 n) (Nat.le_succ _)
theorem SV.ncm {P : Pm} {R c rc : Nat} {g : Gh} {S : SS} (h : SV P R c g rc S) : SV P R c g rc (ncm S) := ⟨h.gi.ncm, h.er, by show va_up S.1 100 (upd (S.1 100) 10 0) 100 9 = _; rw [va_up_s, pk_un (by decide)]; exact h.re, h.lt, h.ep⟩
theorem SV.up {P : Pm} {R c rc : Nat} {g : Gh} {S : SS} (h : SV P R c g rc S) : SV P R (c + 1) g rc S := ⟨h.gi, h.er, h.re, h.lt, Nat.le_trans h.ep (Nat.le_succ _)⟩
theorem SV.mk2 {P : Pm} {R c rc : Nat} {g : Gh} {S S' : SS} (h : SV P R c g rc S) (hx : ∃ g', Gs g g' ∧ GI P g' S' ∧ S'.1 100 = S.1 100) : ∃ g', Gs g g' ∧ SV P R c g' rc S' := by
  obtain ⟨g', a, b, d⟩ := hx
  exact ⟨g', a, b, h.er.gs a, by rw [d]; exact h.re, h.lt, by rw [a.ep]; exact h.ep⟩
/-- of the TAPE, the NAMES -/
theorem SV.own {P : Pm} {R c rc : Nat} {g : Gh} {S : SS} {E' : Nat → Nat → Int32} (h : SV P R c g rc S) (hE : ∀ x, 8 ≤ x → E' 4 x = S.1 4 x) (h9 : E' 100 = S.1 100) : SV P R c g rc (E', S.2) := ⟨h.gi.own hE, h.er, by show E' 100 9 = _; rw [h9]; exact h.re, h.lt, h.ep⟩
theorem SV.de {P : Pm} {R c rc : Nat} {g : Gh} {S S' : SS} (hP : PmO P) (h : SV P R c g rc S) (hr : deR P.nn P.gg P.C P.f S S') : ∃ g', SV P R c g' rc S' := by
  rcases hr with ⟨_, z⟩ | ⟨x, S1, z1, z2⟩
  · rw [z]; exact ⟨g, h.ncm⟩
  · obtain ⟨a, b, d⟩ := h.ncm.gi.take z1
    obtain ⟨g', h1, h2, h3⟩ := a.hand hP b z2
    obtain ⟨g2, _, k2⟩ := h.ncm.mk2 ⟨g', h1, h2, by rw [h3, d]⟩
    exact ⟨g2, k2⟩
theorem SV.lo {P : Pm} {R c rc : Nat} {g : Gh} {S S' : SS} (h : SV P R c g rc S) (hr : loR S S') : ∃ g', SV P R c g' rc S' := by
  rcases hr with ⟨_, z⟩ | ⟨x, z1⟩
  · rw [z]; exact ⟨g, h.ncm⟩
  · obtain ⟨a, b, d⟩ := h.ncm.gi.take z1
    obtain ⟨g2, _, k2⟩ := h.ncm.mk2 ⟨g, Gs.rf g, a, d⟩
    exact ⟨g2, k2⟩
theorem SV.tw {P : Pm} {R c rc : Nat} {g : Gh} {S S' : SS} (hP : PmO P) (h : SV P R c g rc S) (hr : twR P.nn P.gg P.C P.f S S') : ∃ g', SV P R c g' rc S' := by
  rcases hr with ⟨_, z⟩ | ⟨x, z1, z2⟩
  · rw [z]; exact ⟨g, h.ncm⟩
  · obtain ⟨g2, _, k2⟩ := h.ncm.mk2 (h.ncm.gi.hand hP (h.gi.ms x z1) z2)
    exact ⟨g2, k2⟩
theorem SV.si {P : Pm} {R c rc : Nat} {g : Gh} {S S' : SS} {x y : Int32} (hP : PmO P) (h : SV P R c g rc S) (hr : siR P.nn P.gg P.C P.f x S y S') : ∃ g', SV P R c g' rc S' := by
  rcases hr with ⟨_, _, z⟩ | ⟨_, _, _, k, z⟩
  · rw [z]; exact ⟨g, h⟩
  · obtain ⟨g2, _, k2⟩ := h.ncm.mk2 (GI.it (fun g S S' a b => a.mv hP b) k h.ncm.gi z)
    exact ⟨g2, k2⟩
theorem SV.ti {P : Pm} {R c rc : Nat} {g : Gh} {S S' : SS} {x y : Int32} (hP : PmO P) (h : SV P R c g rc S) (hr : tiR P.nn P.gg P.C P.f x S y S') : ∃ g', SV P R c g' rc S' := by
  rcases hr with ⟨_, _, z⟩ | ⟨_, _, _, k, z⟩
  · rw [z]; exact ⟨g, h⟩
  · obtain ⟨g2, _, k2⟩ := h.ncm.mk2 (GI.it (fun g S S' a b => a.tick hP b) k h.ncm.gi z)
    exact ⟨g2, k2⟩
theorem SV.cr {P : Pm} {R c rc : Nat} {g : Gh} {S S' : SS} {x y0 z0 y : Int32} (h : SV P R c g rc S) (hr : crR P.nn P.gg P.C P.f x y0 z0 S y S') : ∃ g', SV P R c g' rc S' := by
  rcases hr with ⟨_, _, z⟩ | ⟨j, j1, _, j2, _, u, b, z⟩
  · rw [z]; exact ⟨g, h⟩
  · have := h.ncm.gi.sleep j1 j2 z
    obtain ⟨g2, _, k2⟩ := h.ncm.mk2 ⟨g, Gs.rf g, this, by obtain ⟨_, _, w⟩ := z; rw [w]⟩
    exact ⟨g2, k2⟩
theorem ncm_4 (S : SS) : (ncm S).1 4 = S.1 4 := by
  show va_up S.1 100 (upd (S.1 100) 10 0) 4 = _
  rw [va_up_n _ _ (by decide)]
theorem SV.re' {P : Pm} {R c rc : Nat} {g : Gh} {S S' : SS} {x y : Int32} (h : SV P R c g rc S) (hr : reR P.nn P.gg P.C P.f x S y S') : ∃ g', SV P R c g' rc S' := by
  rcases hr with ⟨_, _, z⟩ | ⟨j, j1, _, j2, _, u, b, z⟩
  · rw [z]; exact ⟨g, h⟩
  · have := h.ncm.gi.wake (u := u) (b := b) j1 j2 (by rw [ncm_4]; exact z)
    obtain ⟨g2, _, k2⟩ := h.ncm.mk2 ⟨g, Gs.rf g, this, by obtain ⟨_, _, w⟩ := z; rw [w]⟩
    exact ⟨g2, k2⟩
theorem SV.draw {P : Pm} {R c rc : Nat} {g : Gh} {S : SS} {ms' : List Mg} {set : Int32} (hc : c + 1 < 2 ^ 30) (h : SV P R c g rc S) (hr : tmR P.nn 0 (S.1 4 13 + 1) set P.nn 0 S.2.2.1 ms') : SV P R (c + 1) (g.draw set g.er) rc (drE (va_up S.1 100 (upd (S.1 100) 10 0)) set, S.2.1, ms', S.2.2.2) := by
  refine ⟨h.gi.map (by have := h.ep; omega) (fun x _ => by rw [va_up_n _ _ (by decide)]) hr, h.er.draw, ?_, h.lt, by have := h.ep; show g.ep + 1 ≤ c + 1; omega⟩
  show drE (va_up S.1 100 (upd (S.1 100) 10 0)) set 100 9 = _
  rw [(drE_v _ _).2.2.2.2 100 (by decide), va_up_s, pk_un (by decide)]
  exact h.re
theorem SV.ma {P : Pm} {R c rc : Nat} {g : Gh} {S S' : SS} {x y : Int32} (hc : c + 1 < 2 ^ 30) (h : SV P R c g rc S) (hr : maR P.nn x S y S') : ∃ g', SV P R (c + 1) g' rc S' := by
  obtain ⟨_, ms', z, zr⟩ := hr
  rw [z]
  exact ⟨_, h.draw hc zr⟩
theorem SV.rp {P : Pm} {R c rc : Nat} {g : Gh} {S S' : SS} {x y : Int32} (hC : P.C = nI R) (hR : R < 2 ^ 31) (hc : c + 1 < 2 ^ 30) (h : SV P R c g rc S) (hr : rpR P.nn P.C x S y S') : ∃ g' rc', SV P R (c + 1) g' rc' S' := by
  rcases hr with ⟨_, _, z⟩ | ⟨j, j1, _, j2, j3, _, ms', z, zr⟩
  · rw [z]; exact ⟨g, rc, h.up⟩
  · have hlt := h.lt
    have hj3 : rc < R - 1 := by
      rw [h.re, hC, show nI R - 1 = nI (R - 1) by rw [show R = (R - 1) + 1 by omega, ← nI_1, show R - 1 + 1 - 1 = R - 1 by omega]; exact Int32.add_sub_cancel _ _] at j3
      exact (nI_ltI (by omega) (by omega)).mp j3
    refine ⟨g.draw (S.1 4 14) (fup g.er j (g.ep + 1)), rc + 1, ?_, h.er.rep h.gi.ep.2, ?_, by omega, by have := h.ep; show g.ep + 1 ≤ c + 1; omega⟩
    · rw [z]
      exact h.gi.replace (by have := h.ep; omega) j1 j2 (fun x _ => by rw [va_up_n _ _ (by decide)]) zr
    · rw [z]
      show drE (va_up S.1 100 (upd (upd (S.1 100) 9 (S.1 100 9 + 1)) 10 0)) (S.1 4 14) 100 9 = _
      rw [(drE_v _ _).2.2.2.2 100 (by decide), va_up_s, pk_un (by decide), pk_us, h.re, nI_1]
theorem opE_v (E : Nat → Nat → Int32) (k : Int32) (bg : Nat) : opE E k bg 4 8 = nI (bg + 1) ∧ (∀ x, 9 ≤ x → opE E k bg 4 x = E 4 x) ∧ ∀ q, q ≠ 4 → opE E k bg q = E q := by
  unfold opE
  refine ⟨?_, fun x hx => ?_, fun q hq => by rw [va_up_n _ _ hq]⟩
  · rw [va_up_s]; split
    · rw [pk_us]
    · rw [pk_us]
  · rw [va_up_s]; split
    · rw [pk_un (by omega), pk_un (by omega)]
    · rw [pk_un (by omega)]
theorem inR_of {N : Nat} {x : Int32} (hN : N < 2 ^ 31) (h1 : ¬ x < 0) (h2 : x ≤ nI N) : inR (N + 1) x := by
  have e := nI_cl h1
  refine ⟨x.toNatClampNeg, ?_, e⟩
  rw [e] at h2
  have h3 : ¬ nI N < nI x.toNatClampNeg := Int32.not_lt.mpr h2
  have h4 := Int32.toNatClampNeg_lt x
  rcases Nat.lt_or_ge N x.toNatClampNeg with z | z
  · exact absurd ((nI_ltI (by omega) (by omega)).mpr z) h3
  · omega
theorem mayA.aq {l0 l1 k a b l : Int32} (h : mayA l0 l1 k a b) (h0 : inR 201 l0) (h1 : inR 201 l1) (hl : inR 2049 l) : AQ k a b l0 l1 l := by
  obtain ⟨m1, m2, _, _, m5, m6⟩ := h
  exact ⟨inR_of (by decide) m1 (Int32.not_lt.mp m2), fun z => inR_of (by decide) (m5 z).1 (m5 z).2, fun z => inR_of (by decide) (m6 z).1 (Int32.not_lt.mp (m6 z).2), h0, h1, hl⟩
theorem opQ_v (E : Nat → Nat → Int32) (A : Mg) (k a b : Int32) : (opQ E A k a b).1 0 = k ∧ (opQ E A k a b).1 1 = a ∧ (opQ E A k a b).1 2 = b ∧ (opQ E A k a b).1 3 = E 7 0 ∧ (opQ E A k a b).1 4 = E 7 1 ∧ (opQ E A k a b).1 5 = opL E k := by
  unfold opQ
  refine ⟨?_, ?_, ?_, ?_, ?_, ?_⟩
  · show upd (upd (upd (upd (upd (upd (upd A.1 0 k) 1 a) 2 b) 3 (E 7 0)) 4 (E 7 1)) 5 (opL E k)) 6 0 0 = _
    rw [pk_un (by decide), pk_un (by decide), pk_un (by decide), pk_un (by decide), pk_un (by decide), pk_un (by decide), pk_us]
  · show upd (upd (upd (upd (upd (upd (upd A.1 0 k) 1 a) 2 b) 3 (E 7 0)) 4 (E 7 1)) 5 (opL E k)) 6 0 1 = _
    rw [pk_un (by decide), pk_un (by decide), pk_un (by decide), pk_un (by decide), pk_un (by decide), pk_us]
  · show upd (upd (upd (upd (upd (upd (upd A.1 0 k) 1 a) 2 b) 3 (E 7 0)) 4 (E 7 1)) 5 (opL E k)) 6 0 2 = _
    rw [pk_un (by decide), pk_un (by decide), pk_un (by decide), pk_un (by decide), pk_us]
  · show upd (upd (upd (upd (upd (upd (upd A.1 0 k) 1 a) 2 b) 3 (E 7 0)) 4 (E 7 1)) 5 (opL E k)) 6 0 3 = _
    rw [pk_un (by decide), pk_un (by decide), pk_un (by decide), pk_us]
  · show upd (upd (upd (upd (upd (upd (upd A.1 0 k) 1 a) 2 b) 3 (E 7 0)) 4 (E 7 1)) 5 (opL E k)) 6 0 4 = _
    rw [pk_un (by decide), pk_un (by decide), pk_us]
  · show upd (upd (upd (upd (upd (upd (upd A.1 0 k) 1 a) 2 b) 3 (E 7 0)) 4 (E 7 1)) 5 (opL E k)) 6 0 5 = _
    rw [pk_un (by decide), pk_us]
/-- begin -/
theorem SV.bg {P : Pm} {R c rc : Nat} {g : Gh} {S S' : SS} {kd a b0 y : Int32} (hl : inR 2049 (S.1 4 3)) (h0 : inR 201 (S.1 7 0)) (h1 : inR 201 (S.1 7 1)) (h : SV P R c g rc S) (hr : bgR P.nn P.f kd a b0 S y S') : ∃ g', SV P R c g' rc S' := by
  obtain ⟨bg, he, se, e8, e9, e10, o1, o2, o3, o4, hr⟩ := hr
  rcases hr with ⟨_, _, z⟩ | ⟨_, _, _, z⟩ | ⟨m, n1, n2, _, ms', z, zr⟩
  · rw [z]; exact ⟨g, h⟩
  · rw [z]; exact ⟨g, h⟩
  · obtain ⟨he', ha⟩ := h.gi.as
    have h5 := h.gi.go.1
    have hb : bg = g.bg := nI_inj (by omega) (by omega) (by rw [← e8, ha.bg])
    have hs : se = g.sn := nI_inj (by omega) (by have := ha.se; have := ha.h1; omega) (by rw [← e10, ha.se.2.2])
    subst hb
    have E100 : ∀ q, q ≠ 100 → va_up S.1 100 (upd (S.1 100) 10 0) q = S.1 q := fun q hq => va_up_n _ _ hq
    obtain ⟨v1, v2, v3⟩ := opE_v (va_up S.1 100 (upd (S.1 100) 10 0)) kd g.bg
    refine ⟨g.beg (opQ (va_up S.1 100 (upd (S.1 100) 10 0)) (S.2.1 (g.bg % 24)) kd a b0), ?_, ?_, ?_, h.lt, h.ep⟩
    · rw [z] at zr ⊢
      refine h.gi.begin n2 ?_ ⟨fun x _ => by rw [va_up_s], fun x _ => by rw [va_up_s]⟩ (fun i _ hi => va_up_n _ _ hi) v1 (fun x hx => by rw [v2 x hx, E100 4 (by decide)]) (by omega) ?_
      · obtain ⟨q0, q1, q2, q3, q4, q5⟩ := opQ_v (va_up S.1 100 (upd (S.1 100) 10 0)) (S.2.1 (g.bg % 24)) kd a b0
        rw [q0, q1, q2, q3, q4, q5]
        rw [E100 7 (by decide)]
        refine m.aq h0 h1 ?_
        unfold opL
        rw [E100 4 (by decide)]
        split
        · exact hl
        · exact ⟨0, by decide, rfl⟩
      · rcases zr with ⟨y1, y2⟩ | ⟨_, y2⟩
        · exact Or.inl ⟨by rw [e9, y1], y2⟩
        · exact Or.inr y2
    · exact ⟨h.er.c1, h.er.c2, h.er.c3⟩
    · rw [z]
      show opE (va_up S.1 100 (upd (S.1 100) 10 0)) kd g.bg 100 9 = _
      rw [v3 100 (by decide), va_up_s, pk_un (by decide)]
      exact h.re
/-- settle up to its end -/
theorem GI.dr {P : Pm} {g : Gh} {S S' : SS} (hP : PmO P) (h : GI P g S) (hr : drR P.nn P.gg P.C P.f S S') : ∃ g', Gs g g' ∧ GI P g' S' ∧ S'.1 100 = S.1 100 := by
  obtain ⟨k, _, z, _⟩ := hr
  exact GI.it (fun g S S' a b => a.th hP b) k h z
theorem GI.stl {P : Pm} (hP : PmO P) : ∀ (k t : Nat) {g : Gh} {S S' : SS}, GI P g S → stl P.nn P.gg P.C P.f k t S S' → ∃ g', Gs g g' ∧ GI P g' S' ∧ S'.1 100 = S.1 100
  | 0, t, g, S, S', h, hr => by
    have hr : S' = S := hr
    rw [hr]; exact ⟨g, Gs.rf g, h, rfl⟩
  | k + 1, t, g, S, S', h, hr => by
    rcases hr with ⟨_, z⟩ | ⟨_, S1, S2, z1, z2, z3⟩
    · rw [z]; exact ⟨g, Gs.rf g, h, rfl⟩
    · have h1 : ∃ g', Gs g g' ∧ GI P g' S1 ∧ S1.1 100 = S.1 100 := by
        rcases z1 with ⟨_, w⟩ | ⟨_, w⟩
        · rw [w]; exact ⟨g, Gs.rf g, h, rfl⟩
        · exact h.tick hP w
      obtain ⟨g1, a1, a2, a3⟩ := h1
      obtain ⟨g2, b1, b2, b3⟩ := a2.dr hP z2
      obtain ⟨g3, c1, c2, c3⟩ := GI.stl hP k (t + 1) b2 z3
      exact ⟨g3, a1.tr (b1.tr c1), c2, by rw [c3, b3, a3]⟩
theorem SV.se {P : Pm} {R c rc : Nat} {g : Gh} {S Sf : SS} (hP : PmO P) (hc : c + 1 < 2 ^ 30) (h : SV P R c g rc S) (hr : seR P.nn P.gg P.C P.f S Sf) : ∃ g', Gs (g.draw (allN P.nn) g.er) g' ∧ SV P R (c + 1) g' rc Sf := by
  obtain ⟨ms2, S1, z1, z2, z3⟩ := hr
  have h1 := h.draw hc z1
  obtain ⟨a, b⟩ := GI.wk P.nn 0 (by omega) h1.gi z2
  obtain ⟨g2, d1, d2, d3⟩ := GI.stl hP _ _ a z3
  exact ⟨g2, d1, d2, h1.er.gs d1, by rw [d3, b]; exact h1.re, h.lt, by rw [d1.ep]; have := h.ep; show g.ep + 1 ≤ c + 1; omega⟩

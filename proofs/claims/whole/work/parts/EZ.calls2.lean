/-! each call keeps the store's invariant -/
structure SV (P : Pm) (R c : Nat) (g : Gh) (rc : Nat) (S : SS) : Prop where
  gi : GI P g S
  er : ER P g rc
  re : S.1 100 9 = nI rc
  lt : rc < R
  ep : g.ep ≤ c
theorem ER.gs {P : Pm} {g g' : Gh} {rc : Nat} (h : ER P g rc) (hg : Gs g g') : ER P g' rc := ⟨by rw [hg.le.es, hg.er]; exact h.c1, fun n => by rw [hg.le.es, hg.er]; exact h.c2 n, fun n => by rw [hg.er, hg.ep]; exact h.c3 n⟩
theorem ER.draw {P : Pm} {g : Gh} {rc : Nat} {set : Int32} (h : ER P g rc) : ER P (g.draw set g.er) rc := ⟨h.c1, h.c2, fun n => Nat.le_trans (h.c3 n) (Nat.le_succ _)⟩
theorem Sm_up1 {f g : Nat → Nat} {j : Nat} (h1 : ∀ i, i ≠ j → f i = g i) (h2 : f j ≤ g j + 1) : ∀ n, Sm f n ≤ Sm g n + (if j < n then 1 else 0)
  | 0 => by show 0 ≤ 0 + _; omega
  | n + 1 => by
    have ih := Sm_up1 h1 h2 n
    show Sm f n + f n ≤ Sm g n + g n + _
    by_cases e : n = j
    · subst e
      rw [if_neg (by omega)] at ih
      rw [if_pos (by omega)]
      omega
    · rw [h1 n e]
      by_cases c : j < n
      · rw [if_pos c] at ih; rw [if_pos (by omega)]; omega
      · rw [if_neg c] at ih; rw [if_neg (by omega)]; omega
theorem ER.rep {P : Pm} {g : Gh} {rc j : Nat} {set : Int32} (h : ER P g rc) (hes : g.es ≤ g.ep) : ER P (g.draw set (fup g.er j (g.ep + 1))) (rc + 1) := by
  refine ⟨?_, fun n => ?_, fun n => ?_⟩
  · have h1 := h.c1
    have h2 := Sm_up1 (f := fun n => if g.es < fup g.er j (g.ep + 1) n then 1 else 0) (g := fun n => if g.es < g.er n then 1 else 0) (j := j) (fun i hi => by simp only [fup_n hi]) (by
      show (if g.es < fup g.er j (g.ep + 1) j then 1 else 0) ≤ (if g.es < g.er j then 1 else 0) + 1
      split <;> split <;> omega) P.nn
    show Sm (fun n => if g.es < fup g.er j (g.ep + 1) n then 1 else 0) P.nn ≤ rc + 1
    have h3 : (if j < P.nn then 1 else 0) ≤ 1 := by split <;> omega
    omega
  · show fup g.er j (g.ep + 1) n < g.es ∨ g.es < fup g.er j (g.ep + 1) n
    by_cases e : n = j
    · subst e; rw [fup_s]; omega
    · rw [fup_n e]; exact h.c2 n
  · show fup g.er j (g.ep + 1) n ≤ g.ep + 1
    by_cases e : n = j
    · subst e; rw [fup_s]; omega
    · rw [fup_n e]; exact Nat.le_trans (h.c3 n) (Nat.le_succ _)
theorem SV.ncm {P : Pm} {R c rc : Nat} {g : Gh} {S : SS} (h : SV P R c g rc S) : SV P R c g rc (ncm S) := ⟨h.gi.ncm, h.er, by show va_up S.1 100 (upd (S.1 100) 10 0) 100 9 = _; rw [va_up_s, pk_un (by decide)]; exact h.re, h.lt, h.ep⟩
theorem SV.up {P : Pm} {R c rc : Nat} {g : Gh} {S : SS} (h : SV P R c g rc S) : SV P R (c + 1) g rc S := ⟨h.gi, h.er, h.re, h.lt, Nat.le_trans h.ep (Nat.le_succ _)⟩
theorem SV.mk2 {P : Pm} {R c rc : Nat} {g : Gh} {S S' : SS} (h : SV P R c g rc S) (hx : ∃ g', Gs g g' ∧ GI P g' S' ∧ S'.1 100 = S.1 100) : ∃ g', Gs g g' ∧ SV P R c g' rc S' := by
  obtain ⟨g', a, b, d⟩ := hx
  exact ⟨g', a, b, h.er.gs a, by rw [d]; exact h.re, h.lt, by rw [a.ep]; exact h.ep⟩
/-- of the TAPE, the NAMES -/
theorem SV.own {P : Pm} {R c rc : Nat} {g : Gh} {S : SS} {E' : Nat → Nat → Int32} (h : SV P R c g rc S) (hE : ∀ x, 8 ≤ x → E' 4 x = S.1 4 x) (h9 : E' 100 = S.1 100) : SV P R c g rc (E', S.2) := ⟨h.gi.own hE, h.er, by show E' 100 9 = _; rw [h9]; exact h.re, h.lt, h.ep⟩
theorem SV.de {P : Pm} {R c rc : Nat} {g : Gh} {S S' : SS} (hP : PmO P) (h : SV P R c g rc S) (hr : deR P.nn P.gg P.C P.f S S') : ∃ g', SV P R c g' rc S' := by
  rcases hr with ⟨_, z⟩ | ⟨x, S1, z1, z2⟩
  · rw [z]; exact ⟨g, h.ncm⟩
  · obtain ⟨a, b, d⟩ := h.ncm.gi.take z1
    obtain ⟨g', h1, h2, h3⟩ := a.hand hP b z2
    obtain ⟨g2, _, k2⟩ := h.ncm.mk2 ⟨g', h1, h2, by rw [h3, d]⟩
    exact ⟨g2, k2⟩
theorem SV.lo {P : Pm} {R c rc : Nat} {g : Gh} {S S' : SS} (h : SV P R c g rc S) (hr : loR S S') : ∃ g', SV P R c g' rc S' := by
  rcases hr with ⟨_, z⟩ | ⟨x, z1⟩
  · rw [z]; exact ⟨g, h.ncm⟩
  · obtain ⟨a, b, d⟩ := h.ncm.gi.take z1
    obtain ⟨g2, _, k2⟩ := h.ncm.mk2 ⟨g, Gs.rf g, a, d⟩
    exact ⟨g2, k2⟩
theorem SV.tw {P : Pm} {R c rc : Nat} {g : Gh} {S S' : SS} (hP : PmO P) (h : SV P R c g rc S) (hr : twR P.nn P.gg P.C P.f S S') : ∃ g', SV P R c g' rc S' := by
  rcases hr with ⟨_, z⟩ | ⟨x, z1, z2⟩
  · rw [z]; exact ⟨g, h.ncm⟩
  · obtain ⟨g2, _, k2⟩ := h.ncm.mk2 (h.ncm.gi.hand hP (h.gi.ms x z1) z2)
    exact ⟨g2, k2⟩
theorem SV.si {P : Pm} {R c rc : Nat} {g : Gh} {S S' : SS} {x y : Int32} (hP : PmO P) (h : SV P R c g rc S) (hr : siR P.nn P.gg P.C P.f x S y S') : ∃ g', SV P R c g' rc S' := by
  rcases hr with ⟨_, _, z⟩ | ⟨_, _, _, k, z⟩
  · rw [z]; exact ⟨g, h⟩
  · obtain ⟨g2, _, k2⟩ := h.ncm.mk2 (GI.it (fun g S S' a b => a.mv hP b) k h.ncm.gi z)
    exact ⟨g2, k2⟩
theorem SV.ti {P : Pm} {R c rc : Nat} {g : Gh} {S S' : SS} {x y : Int32} (hP : PmO P) (h : SV P R c g rc S) (hr : tiR P.nn P.gg P.C P.f x S y S') : ∃ g', SV P R c g' rc S' := by
  rcases hr with ⟨_, _, z⟩ | ⟨_, _, _, k, z⟩
  · rw [z]; exact ⟨g, h⟩
  · obtain ⟨g2, _, k2⟩ := h.ncm.mk2 (GI.it (fun g S S' a b => a.tick hP b) k h.ncm.gi z)
    exact ⟨g2, k2⟩
theorem SV.cr {P : Pm} {R c rc : Nat} {g : Gh} {S S' : SS} {x y0 z0 y : Int32} (h : SV P R c g rc S) (hr : crR P.nn P.gg P.C P.f x y0 z0 S y S') : ∃ g', SV P R c g' rc S' := by
  rcases hr with ⟨_, _, z⟩ | ⟨j, j1, _, j2, _, u, b, z⟩
  · rw [z]; exact ⟨g, h⟩
  · have := h.ncm.gi.sleep j1 j2 z
    obtain ⟨g2, _, k2⟩ := h.ncm.mk2 ⟨g, Gs.rf g, this, by obtain ⟨_, _, w⟩ := z; rw [w]⟩
    exact ⟨g2, k2⟩
theorem ncm_4 (S : SS) : (ncm S).1 4 = S.1 4 := by
  show va_up S.1 100 (upd (S.1 100) 10 0) 4 = _
  rw [va_up_n _ _ (by decide)]
theorem SV.re' {P : Pm} {R c rc : Nat} {g : Gh} {S S' : SS} {x y : Int32} (h : SV P R c g rc S) (hr : reR P.nn P.gg P.C P.f x S y S') : ∃ g', SV P R c g' rc S' := by
  rcases hr with ⟨_, _, z⟩ | ⟨j, j1, _, j2, _, u, b, z⟩
  · rw [z]; exact ⟨g, h⟩
  · have := h.ncm.gi.wake (u := u) (b := b) j1 j2 (by rw [ncm_4]; exact z)
    obtain ⟨g2, _, k2⟩ := h.ncm.mk2 ⟨g, Gs.rf g, this, by obtain ⟨_, _, w⟩ := z; rw [w]⟩
    exact ⟨g2, k2⟩
theorem SV.draw {P : Pm} {R c rc : Nat} {g : Gh} {S : SS} {ms' : List Mg} {set : Int32} (hc : c + 1 < 2 ^ 30) (h : SV P R c g rc S) (hr : tmR P.nn 0 (S.1 4 13 + 1) set P.nn 0 S.2.2.1 ms') : SV P R (c + 1) (g.draw set g.er) rc (drE (va_up S.1 100 (upd (S.1 100) 10 0)) set, S.2.1, ms', S.2.2.2) := by
  refine ⟨h.gi.map (by have := h.ep; omega) (fun x _ => by rw [va_up_n _ _ (by decide)]) hr, h.er.draw, ?_, h.lt, by have := h.ep; show g.ep + 1 ≤ c + 1; omega⟩
  show drE (va_up S.1 100 (upd (S.1 100) 10 0)) set 100 9 = _
  rw [(drE_v _ _).2.2.2 100 (by decide), va_up_s, pk_un (by decide)]
  exact h.re
theorem SV.ma {P : Pm} {R c rc : Nat} {g : Gh} {S S' : SS} {x y : Int32} (hc : c + 1 < 2 ^ 30) (h : SV P R c g rc S) (hr : maR P.nn x S y S') : ∃ g', SV P R (c + 1) g' rc S' := by
  obtain ⟨_, ms', z, zr⟩ := hr
  rw [z]
  exact ⟨_, h.draw hc zr⟩
theorem SV.rp {P : Pm} {R c rc : Nat} {g : Gh} {S S' : SS} {x y : Int32} (hC : P.C = nI R) (hR : R < 2 ^ 31) (hc : c + 1 < 2 ^ 30) (h : SV P R c g rc S) (hr : rpR P.nn P.C x S y S') : ∃ g' rc', SV P R (c + 1) g' rc' S' := by
  rcases hr with ⟨_, _, z⟩ | ⟨j, j1, _, j2, j3, _, ms', z, zr⟩
  · rw [z]; exact ⟨g, rc, h.up⟩
  · have hlt := h.lt
    have hj3 : rc < R - 1 := by
      rw [h.re, hC, show nI R - 1 = nI (R - 1) by rw [show R = (R - 1) + 1 by omega, ← nI_1, show R - 1 + 1 - 1 = R - 1 by omega]; exact Int32.add_sub_cancel _ _] at j3
      exact (nI_ltI (by omega) (by omega)).mp j3
    refine ⟨g.draw (S.1 4 14) (fup g.er j (g.ep + 1)), rc + 1, ?_, h.er.rep h.gi.ep.2, ?_, by omega, by have := h.ep; show g.ep + 1 ≤ c + 1; omega⟩
    · rw [z]
      exact h.gi.replace (by have := h.ep; omega) j1 j2 (fun x _ => by rw [va_up_n _ _ (by decide)]) zr
    · rw [z]
      show drE (va_up S.1 100 (upd (upd (S.1 100) 9 (S.1 100 9 + 1)) 10 0)) (S.1 4 14) 100 9 = _
      rw [(drE_v _ _).2.2.2 100 (by decide), va_up_s, pk_un (by decide), pk_us, h.re, nI_1]

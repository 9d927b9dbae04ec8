/-! the store's calls once more, with the NODES that are UP; holds and audit -/
theorem CX.fr {s0 n nn gg : Nat} {C : Int32} {f : Nat → Int32} {h h' : ax_H} {TK : Int64} {S : SS} (hP : CX s0 n nn gg C f h TK S) (hs : s0 < n) (hf : ax_fr (fun x => n + 329 + 22 * nn ≤ x) h h') : CX s0 n nn gg C f h' TK S := by
  obtain ⟨Z, q, u, b, hG⟩ := hP
  exact ⟨Z, q, u, b, hG.fr hs hf⟩
theorem CX.cell {s0 n nn gg : Nat} {C : Int32} {f : Nat → Int32} {h : ax_H} {TK : Int64} {S : SS} (hP : CX s0 n nn gg C f h TK S) : ∃ fs : List Value, ax_g h s0 = some (.inr (0, fs)) := by
  obtain ⟨Z, q, u, b, hG⟩ := hP
  exact ⟨_, hG.1.1.at 0 rfl⟩
theorem RP.cell {nn cc gg cl m p al AL : Nat} {h : ax_H} {M : Nat → Nat → Int32} (hP : RP nn cc gg cl m p h al AL M) : ∃ fs : List Value, ax_g h m = some (.inr (11, fs)) := ⟨_, hP.1.1.at 0 rfl⟩
theorem RP.fr {nn cc gg cl m p al AL : Nat} {h h' : ax_H} {M : Nat → Nat → Int32} (hP : RP nn cc gg cl m p h al AL M) (hz : SZ m h h') : RP nn cc gg cl m p h' al AL M := ⟨hP.1.fr hP.2.1 hz, hP.2⟩
def crU (nn : Nat) (x : Int32) (S : SS) (y : Int32) (S' : SS) : Prop := ((x < 0 ∨ nI nn ≤ x ∨ ∃ j : Nat, j < nn ∧ x = nI j ∧ S.2.2.2.1 j 0 6 = 0) ∧ y = 0 ∧ S' = S) ∨ ∃ j : Nat, j < nn ∧ x = nI j ∧ ¬ S.2.2.2.1 j 0 6 = 0 ∧ y = 1 ∧ S'.1 = (ncm S).1 ∧ ∃ D' : Nat → Nat → Int32, D' 0 6 = 0 ∧ S'.2.2.2.1 = va_up S.2.2.2.1 j D'
def reU (nn : Nat) (x : Int32) (S : SS) (y : Int32) (S' : SS) : Prop := ((x < 0 ∨ nI nn ≤ x ∨ ∃ j : Nat, j < nn ∧ x = nI j ∧ ¬ S.2.2.2.1 j 0 6 = 0) ∧ y = 0 ∧ S' = S) ∨ ∃ j : Nat, j < nn ∧ x = nI j ∧ S.2.2.2.1 j 0 6 = 0 ∧ y = 1 ∧ S'.1 = (ncm S).1 ∧ ∃ D' : Nat → Nat → Int32, D' 0 6 = 1 ∧ S'.2.2.2.1 = va_up S.2.2.2.1 j D'
theorem cz_49 {L : Nat} {xs : Nat → Int32} {fr lo : Nat} {s0 n nn gg : Nat} {C : Int32} {f : Nat → Int32} {h : ax_H} {TK : Int64} {S : SS} {x : Int32} (hfr : 10 ≤ fr) (hlo : 330 ≤ lo) (hC : CG s0 n nn gg f) (hP : CX s0 n nn gg C f h TK S) : ax_M L xs 49 fr lo [.ref s0, .int x] h (fun r h' => ∃ (S' : SS), r = none ∧ CX s0 n nn gg C f h' TK S' ∧ SZ (n + 329 + 22 * nn) h h' ∧ deR nn gg C f S S' ∧ GR nn S.2.2.2.1 S'.2.2.2.1) := by
  have hC0 := hC
  obtain ⟨hs0, hsn, hnn3, hnn, hgg1, hgg, hRg⟩ := hC
  obtain ⟨E, Q, ms, D, K, A⟩ := S
  obtain ⟨Z, q, u, b, hG⟩ := hP
  replace hG : GS Z s0 n nn gg C f q u b h h E TK Q ms D K A := hG
  refine ax_A.post (g_49 hfr hlo hC0 hG) (fun r h' hq => ?_)
  obtain ⟨rfl, q', u', b', E', Q', ms', D', K', A', hG2, hR, -, hrl⟩ := hq
  exact ⟨_, rfl, hG2.cx, hG2.2.2.2.2.2, hrl, hR⟩
theorem cz_129 {L : Nat} {xs : Nat → Int32} {fr lo : Nat} {s0 n nn gg : Nat} {C : Int32} {f : Nat → Int32} {h : ax_H} {TK : Int64} {S : SS} {x : Int32} (hfr : 10 ≤ fr) (hlo : 330 ≤ lo) (hC : CG s0 n nn gg f) (hP : CX s0 n nn gg C f h TK S) : ax_M L xs 129 fr lo [.ref s0, .int x] h (fun r h' => ∃ (S' : SS), r = none ∧ CX s0 n nn gg C f h' TK S' ∧ SZ (n + 329 + 22 * nn) h h' ∧ loR S S' ∧ GR nn S.2.2.2.1 S'.2.2.2.1) := by
  have hC0 := hC
  obtain ⟨hs0, hsn, hnn3, hnn, hgg1, hgg, hRg⟩ := hC
  obtain ⟨E, Q, ms, D, K, A⟩ := S
  obtain ⟨Z, q, u, b, hG⟩ := hP
  replace hG : GS Z s0 n nn gg C f q u b h h E TK Q ms D K A := hG
  refine ax_A.post (g_129 hfr hlo hC0 hG) (fun r h' hq => ?_)
  obtain ⟨rfl, q', u', b', E', Q', ms', D', K', A', hG2, hR, -, hrl⟩ := hq
  exact ⟨_, rfl, hG2.cx, hG2.2.2.2.2.2, hrl, hR⟩
theorem cz_130 {L : Nat} {xs : Nat → Int32} {fr lo : Nat} {s0 n nn gg : Nat} {C : Int32} {f : Nat → Int32} {h : ax_H} {TK : Int64} {S : SS} {x : Int32} (hfr : 10 ≤ fr) (hlo : 330 ≤ lo) (hC : CG s0 n nn gg f) (hP : CX s0 n nn gg C f h TK S) : ax_M L xs 130 fr lo [.ref s0, .int x] h (fun r h' => ∃ (S' : SS), r = none ∧ CX s0 n nn gg C f h' TK S' ∧ SZ (n + 329 + 22 * nn) h h' ∧ twR nn gg C f S S' ∧ GR nn S.2.2.2.1 S'.2.2.2.1) := by
  have hC0 := hC
  obtain ⟨hs0, hsn, hnn3, hnn, hgg1, hgg, hRg⟩ := hC
  obtain ⟨E, Q, ms, D, K, A⟩ := S
  obtain ⟨Z, q, u, b, hG⟩ := hP
  replace hG : GS Z s0 n nn gg C f q u b h h E TK Q ms D K A := hG
  refine ax_A.post (g_130 hfr hlo hC0 hG) (fun r h' hq => ?_)
  obtain ⟨rfl, q', u', b', E', Q', ms', D', K', A', hG2, hR, -, hrl⟩ := hq
  exact ⟨_, rfl, hG2.cx, hG2.2.2.2.2.2, hrl, hR⟩
theorem cz_131 {L : Nat} {xs : Nat → Int32} {fr lo : Nat} {s0 n nn gg : Nat} {C : Int32} {f : Nat → Int32} {h : ax_H} {TK : Int64} {S : SS} {x y0 : Int32} (hfr : 10 ≤ fr) (hlo : 350 ≤ lo) (hC : CG s0 n nn gg f) (hP : CX s0 n nn gg C f h TK S) : ax_M L xs 131 fr lo [.ref s0, .int x, .int y0] h (fun r h' => ∃ (y : Int32) (S' : SS), r = some (.int y) ∧ CX s0 n nn gg C f h' TK S' ∧ SZ (n + 329 + 22 * nn) h h' ∧ siR nn gg C f x S y S' ∧ GR nn S.2.2.2.1 S'.2.2.2.1) := by
  have hC0 := hC
  obtain ⟨hs0, hsn, hnn3, hnn, hgg1, hgg, hRg⟩ := hC
  obtain ⟨E, Q, ms, D, K, A⟩ := S
  obtain ⟨Z, q, u, b, hG⟩ := hP
  replace hG : GS Z s0 n nn gg C f q u b h h E TK Q ms D K A := hG
  refine ax_A.post (g_131 hfr hlo hC0 hG) (fun r h' hq => ?_)
  rcases hq with ⟨hx, rfl, q', u', b', E', Q', ms', D', K', A', hG2, hR, -, hrl⟩ | ⟨x1, x2, rfl, q', u', b', E', Q', ms', D', K', A', hG2, hR, -, hrl⟩
  · exact ⟨_, _, rfl, hG2.cx, hG2.2.2.2.2.2, Or.inl ⟨hx, rfl, hrl⟩, hR⟩
  · exact ⟨_, _, rfl, hG2.cx, hG2.2.2.2.2.2, Or.inr ⟨x1, x2, rfl, hrl⟩, hR⟩
theorem cz_132 {L : Nat} {xs : Nat → Int32} {fr lo : Nat} {s0 n nn gg : Nat} {C : Int32} {f : Nat → Int32} {h : ax_H} {TK : Int64} {S : SS} {x : Int32} (hfr : 10 ≤ fr) (hlo : 350 ≤ lo) (hC : CG s0 n nn gg f) (hP : CX s0 n nn gg C f h TK S) : ax_M L xs 132 fr lo [.ref s0, .int x] h (fun r h' => ∃ (y : Int32) (S' : SS), r = some (.int y) ∧ CX s0 n nn gg C f h' TK S' ∧ SZ (n + 329 + 22 * nn) h h' ∧ tiR nn gg C f x S y S' ∧ GR nn S.2.2.2.1 S'.2.2.2.1) := by
  have hC0 := hC
  obtain ⟨hs0, hsn, hnn3, hnn, hgg1, hgg, hRg⟩ := hC
  obtain ⟨E, Q, ms, D, K, A⟩ := S
  obtain ⟨Z, q, u, b, hG⟩ := hP
  replace hG : GS Z s0 n nn gg C f q u b h h E TK Q ms D K A := hG
  refine ax_A.post (g_132 hfr hlo hC0 hG) (fun r h' hq => ?_)
  rcases hq with ⟨hx, rfl, q', u', b', E', Q', ms', D', K', A', hG2, hR, -, hrl⟩ | ⟨x1, x2, rfl, q', u', b', E', Q', ms', D', K', A', hG2, hR, -, hrl⟩
  · exact ⟨_, _, rfl, hG2.cx, hG2.2.2.2.2.2, Or.inl ⟨hx, rfl, hrl⟩, hR⟩
  · exact ⟨_, _, rfl, hG2.cx, hG2.2.2.2.2.2, Or.inr ⟨x1, x2, rfl, hrl⟩, hR⟩
theorem cz_141 {L : Nat} {xs : Nat → Int32} {fr lo : Nat} {s0 n nn gg : Nat} {C : Int32} {f : Nat → Int32} {h : ax_H} {TK : Int64} {S : SS} {x y0 z : Int32} (hfr : 7 ≤ fr) (hlo : 220 ≤ lo) (hC : CG s0 n nn gg f) (hP : CX s0 n nn gg C f h TK S) : ax_M L xs 141 fr lo [.ref s0, .int x, .int y0, .int z] h (fun r h' => ∃ (y : Int32) (S' : SS), r = some (.int y) ∧ CX s0 n nn gg C f h' TK S' ∧ SZ (n + 329 + 22 * nn) h h' ∧ crR nn gg C f x y0 z S y S' ∧ crU nn x S y S') := by
  have hC0 := hC
  obtain ⟨hs0, hsn, hnn3, hnn, hgg1, hgg, hRg⟩ := hC
  obtain ⟨E, Q, ms, D, K, A⟩ := S
  obtain ⟨Z, q, u, b, hG⟩ := hP
  replace hG : GS Z s0 n nn gg C f q u b h h E TK Q ms D K A := hG
  refine ax_A.post (g_141 hfr hlo hC0 hG) (fun r h' hq => ?_)
  rcases hq with ⟨hx, rfl, hG2⟩ | ⟨j, hj, rfl, hd, rfl, ms', D', K', A', hG2, hu, hrl⟩
  · exact ⟨_, _, rfl, hG2.cx, hG2.2.2.2.2.2, Or.inl ⟨hx, rfl, rfl⟩, Or.inl ⟨hx, rfl, rfl⟩⟩
  · exact ⟨_, _, rfl, hG2.cx, hG2.2.2.2.2.2, Or.inr ⟨j, hj, rfl, hd, rfl, u, b, hrl⟩, Or.inr ⟨j, hj, rfl, hd, rfl, rfl, D', hu, rfl⟩⟩
theorem cz_144 {L : Nat} {xs : Nat → Int32} {fr lo : Nat} {s0 n nn gg : Nat} {C : Int32} {f : Nat → Int32} {h : ax_H} {TK : Int64} {S : SS} {x : Int32} (hfr : 7 ≤ fr) (hlo : 220 ≤ lo) (hC : CG s0 n nn gg f) (hP : CX s0 n nn gg C f h TK S) : ax_M L xs 144 fr lo [.ref s0, .int x] h (fun r h' => ∃ (y : Int32) (S' : SS), r = some (.int y) ∧ CX s0 n nn gg C f h' TK S' ∧ SZ (n + 329 + 22 * nn) h h' ∧ reR nn gg C f x S y S' ∧ reU nn x S y S') := by
  have hC0 := hC
  obtain ⟨hs0, hsn, hnn3, hnn, hgg1, hgg, hRg⟩ := hC
  obtain ⟨E, Q, ms, D, K, A⟩ := S
  obtain ⟨Z, q, u, b, hG⟩ := hP
  replace hG : GS Z s0 n nn gg C f q u b h h E TK Q ms D K A := hG
  refine ax_A.post (g_144 hfr hlo hC0 hG) (fun r h' hq => ?_)
  rcases hq with ⟨hx, rfl, hG2⟩ | ⟨j, hj, rfl, hd, rfl, ms', D', K', A', hG2, hu, hrl⟩
  · exact ⟨_, _, rfl, hG2.cx, hG2.2.2.2.2.2, Or.inl ⟨hx, rfl, rfl⟩, Or.inl ⟨hx, rfl, rfl⟩⟩
  · exact ⟨_, _, rfl, hG2.cx, hG2.2.2.2.2.2, Or.inr ⟨j, hj, rfl, hd, rfl, u, b, hrl⟩, Or.inr ⟨j, hj, rfl, hd, rfl, rfl, D', hu, rfl⟩⟩
theorem cz_167 {L : Nat} {xs : Nat → Int32} {fr lo : Nat} {s0 n nn gg : Nat} {C : Int32} {f : Nat → Int32} {h : ax_H} {TK : Int64} {S : SS} {x : Int32} (hfr : 1 ≤ fr) (hlo : 40 ≤ lo) (hC : CG s0 n nn gg f) (hP : CX s0 n nn gg C f h TK S) : ax_M L xs 167 fr lo [.ref s0, .int x] h (fun r h' => ∃ (y : Int32) (S' : SS), r = some (.int y) ∧ CX s0 n nn gg C f h' TK S' ∧ SZ (n + 329 + 22 * nn) h h' ∧ y = hlV nn S.1 S.2.2.2.1 x ∧ S' = S) := by
  have hC0 := hC
  obtain ⟨hs0, hsn, hnn3, hnn, hgg1, hgg, hRg⟩ := hC
  obtain ⟨E, Q, ms, D, K, A⟩ := S
  obtain ⟨Z, q, u, b, hG⟩ := hP
  replace hG : GS Z s0 n nn gg C f q u b h h E TK Q ms D K A := hG
  refine ax_A.post (gh_167 hfr hlo hC0 hG) (fun r h' hq => ?_)
  obtain ⟨y, rfl, rfl, rfl⟩ := hq
  exact ⟨_, _, rfl, hG.cx, SZ.rf, rfl, rfl⟩
theorem cz_169 {L : Nat} {xs : Nat → Int32} {fr lo : Nat} {s0 n nn gg : Nat} {C : Int32} {f : Nat → Int32} {h : ax_H} {TK : Int64} {S : SS} (hfr : 3 ≤ fr) (hlo : 130 ≤ lo) (hC : CG s0 n nn gg f) (hP : CX s0 n nn gg C f h TK S) (hAU : ¬ S.1 100 10 = 0 → AUD nn gg C f S.1 S.2.2.2.1) : ax_M L xs 169 fr lo [.ref s0] h (fun r h' => ∃ (y : Int32) (S' : SS), r = some (.int y) ∧ CX s0 n nn gg C f h' TK S' ∧ SZ (n + 329 + 22 * nn) h h' ∧ y = (if S.1 100 10 = 0 then -6 else 0) ∧ ∃ sf hv : Nat → Int32, S' = (va_up (va_up S.1 1 sf) 65 hv, S.2)) := by
  have hC0 := hC
  obtain ⟨hs0, hsn, hnn3, hnn, hgg1, hgg, hRg⟩ := hC
  obtain ⟨E, Q, ms, D, K, A⟩ := S
  obtain ⟨Z, q, u, b, hG⟩ := hP
  replace hG : GS Z s0 n nn gg C f q u b h h E TK Q ms D K A := hG
  refine ax_A.post (g_169X hfr hlo hC0 hG hAU) (fun r h' hq => ?_)
  obtain ⟨y, sf, hv, rfl, hG2, hy⟩ := hq
  exact ⟨_, _, rfl, hG2.cx, hG2.2.2.2.2.2, hy, sf, hv, rfl⟩
/-! one call on both sides -/
def HPm (P : Pm) (R : Nat) : Prop := PmO P ∧ 3 ≤ P.nn ∧ RwA P.nn P.gg P.f ∧ P.C = nI R ∧ R ≤ P.nn ∧ 1 ≤ R
theorem HPm.rk {P : Pm} {R : Nat} (h : HPm P R) : RK P := RwA.rk (C := P.C) h.2.2.1
/-- what is true of both, before each call -/
def JST (P : Pm) (R c : Nat) (S : SS) (M : Nat → Nat → Int32) : Prop := ∃ g rc c', c' ≤ c ∧ SVT P R c' g rc S ∧ SIM P g S M
theorem JST.up {P : Pm} {R c : Nat} {S : SS} {M : Nat → Nat → Int32} (h : JST P R c S M) : JST P R (c + 1) S M := by
  obtain ⟨g, rc, c', hc, h⟩ := h
  exact ⟨g, rc, c', by omega, h⟩
theorem st_fe {P : Pm} {R k : Nat} {S S' : SS} {M M' : Nat → Nat → Int32} {a b c d e y y' : Int32} (h : JST P R k S M) (h1 : feR a b c d e S y S') (h2 : feM a b c d e M y' M') : y = y' ∧ JST P R (k + 1) S' M' := by
  obtain ⟨g, rc, c', hc, hv, hs⟩ := h
  obtain ⟨x1, x2, x3⟩ := hs.fe h1 h2
  refine ⟨x1, g, rc, c', by omega, ?_, x2⟩
  rcases x3 with q | ⟨l, q⟩
  · rw [q]; exact hv
  · rw [q]
    refine hv.own (fun x hx => ?_) ?_ ?_ <;> unfold fdE
    · rw [va_up_n _ _ (by decide), va_up_s, pk_un (by omega)]
    · rw [va_up_n _ _ (by decide), va_up_n _ _ (by decide)]
    · rw [va_up_n _ _ (by decide), va_up_n _ _ (by decide)]
theorem st_en {P : Pm} {R k : Nat} {S S' : SS} {M M' : Nat → Nat → Int32} {x y y' : Int32} (h : JST P R k S M) (h1 : enR x S y S') (h2 : enM x M y' M') : y = y' ∧ JST P R (k + 1) S' M' := by
  obtain ⟨g, rc, c', hc, hv, hs⟩ := h
  obtain ⟨x1, x2, x3⟩ := hs.en h1 h2
  refine ⟨x1, g, rc, c', by omega, ?_, x2⟩
  rcases x3 with q | ⟨l, q⟩
  · rw [q]; exact hv
  · rw [q]
    refine hv.own (fun x hx => ?_) ?_ ?_
    · rw [va_up_s, pk_un (by omega)]
    · rw [va_up_n _ _ (by decide)]
    · rw [va_up_n _ _ (by decide)]
theorem st_na {P : Pm} {R k : Nat} {S S' : SS} {M M' : Nat → Nat → Int32} {x y y' : Int32} (h : JST P R k S M) (h1 : naR x S y S') (h2 : naM x M y' M') : y = y' ∧ JST P R (k + 1) S' M' := by
  obtain ⟨g, rc, c', hc, hv, hs⟩ := h
  obtain ⟨x1, x2, x3⟩ := hs.na h1 h2
  refine ⟨x1, g, rc, c', by omega, ?_, x2⟩
  rcases x3 with q | ⟨j, l, q⟩
  · rw [q]; exact hv
  · rw [q]
    refine hv.own (fun x hx => ?_) ?_ ?_ <;> unfold nmE
    · rw [va_up_n _ _ (by decide), va_up_n _ _ (by decide), va_up_s, pk_un (by omega)]
    · rw [va_up_n _ _ (by decide), va_up_n _ _ (by decide), va_up_n _ _ (by decide)]
    · rw [va_up_n _ _ (by decide), va_up_n _ _ (by decide), va_up_n _ _ (by decide)]
theorem st_bg {P : Pm} {R k : Nat} {S S' : SS} {M M' : Nat → Nat → Int32} {kd a b0 y y' : Int32} (h : JST P R k S M) (h1 : bgR P.nn P.f kd a b0 S y S') (h2 : beM kd a b0 M y' M') : y = y' ∧ JST P R (k + 1) S' M' := by
  obtain ⟨g, rc, c', hc, hv, hs⟩ := h
  obtain ⟨he, ha⟩ := hv.1.1.gi.as
  have hG := hv.1.1.gi.go
  have h5 := hG.1
  have hh := ha.h1
  have hse := ha.se
  obtain ⟨_, _, ⟨l, t1, t2, t3, t4⟩, ⟨n0, n1⟩, ⟨u1, u2, _⟩, _⟩ := id hs
  obtain ⟨la, la1, la2, la3, _⟩ := n1 0 (by decide)
  obtain ⟨lb, lb1, lb2, lb3, _⟩ := n1 1 (by decide)
  obtain ⟨l2, op, wt, m1, m2, m3, m4, m5, m6, h2⟩ := h2
  have eo : op = g.bg := nI_inj (by omega) (by omega) (m3.symm.trans u1)
  subst eo
  have ew : wt = g.bg - g.sn := nI_inj (by omega) (by omega) (m5.symm.trans u2)
  subst ew
  rw [la3, ← la2, lb3, ← lb2] at h2
  rcases hv.bg (by rw [t2]; exact ⟨l, by omega, rfl⟩) (by rw [la2]; exact ⟨la, by omega, rfl⟩) (by rw [lb2]; exact ⟨lb, by omega, rfl⟩) n0 h1 with ⟨q1, rfl, rfl⟩ | ⟨q1, q2, rfl, rfl⟩ | ⟨q1, q2, q3, rfl, q5, q6, q7⟩
  · rcases h2 with ⟨_, rfl, rfl⟩ | ⟨z, _⟩ | ⟨z, _⟩
    · exact ⟨rfl, g, rc, c', by omega, hv, hs⟩
    · exact absurd z q1
    · exact absurd z q1
  · rcases h2 with ⟨z, _⟩ | ⟨_, _, rfl, rfl⟩ | ⟨_, z, _⟩
    · exact absurd q1 z
    · exact ⟨rfl, g, rc, c', by omega, hv, hs⟩
    · omega
  · rcases h2 with ⟨z, _⟩ | ⟨_, z, _⟩ | ⟨_, _, rfl, rfl⟩
    · exact absurd q1 z
    · omega
    · exact ⟨rfl, _, rc, c', by omega, q7, hs.bg hG (by omega) q2 q3 q1.k.1 m2 m1 q5 q6⟩
theorem st_de {P : Pm} {R k : Nat} {S S' : SS} {M M' : Nat → Nat → Int32} (hP : HPm P R) (h : JST P R k S M) (h1 : deR P.nn P.gg P.C P.f S S' ∧ GR P.nn S.2.2.2.1 S'.2.2.2.1) (h2 : M' = ncM M) : JST P R (k + 1) S' M' := by
  obtain ⟨g, rc, c', hc, hv, hs⟩ := h
  obtain ⟨g', eg, hv'⟩ := hv.de hP.1 h1.1
  refine ⟨g', rc, c', by omega, hv', ?_⟩
  rw [h2]
  refine hs.nop eg ?_ h1.2
  rcases h1.1 with ⟨_, z⟩ | ⟨x, S1, z1, z2⟩
  · rw [z]; exact EK.rf _
  · exact (EK.tm z1).tr (EK.ho z2)
theorem st_lo {P : Pm} {R k : Nat} {S S' : SS} {M M' : Nat → Nat → Int32} (h : JST P R k S M) (h1 : loR S S' ∧ GR P.nn S.2.2.2.1 S'.2.2.2.1) (h2 : M' = ncM M) : JST P R (k + 1) S' M' := by
  obtain ⟨g, rc, c', hc, hv, hs⟩ := h
  obtain ⟨g', eg, hv'⟩ := hv.lo h1.1
  refine ⟨g', rc, c', by omega, hv', ?_⟩
  rw [h2]
  refine hs.nop eg ?_ h1.2
  rcases h1.1 with ⟨_, z⟩ | ⟨x, z1⟩
  · rw [z]; exact EK.rf _
  · exact EK.tm z1
theorem st_tw {P : Pm} {R k : Nat} {S S' : SS} {M M' : Nat → Nat → Int32} (hP : HPm P R) (h : JST P R k S M) (h1 : twR P.nn P.gg P.C P.f S S' ∧ GR P.nn S.2.2.2.1 S'.2.2.2.1) (h2 : M' = ncM M) : JST P R (k + 1) S' M' := by
  obtain ⟨g, rc, c', hc, hv, hs⟩ := h
  obtain ⟨g', eg, hv'⟩ := hv.tw hP.1 h1.1
  refine ⟨g', rc, c', by omega, hv', ?_⟩
  rw [h2]
  refine hs.nop eg ?_ h1.2
  rcases h1.1 with ⟨_, z⟩ | ⟨x, _, z1⟩
  · rw [z]; exact EK.rf _
  · exact EK.ho z1
theorem st_si {P : Pm} {R k : Nat} {S S' : SS} {M M' : Nat → Nat → Int32} {x y y' : Int32} (hP : HPm P R) (h : JST P R k S M) (h1 : siR P.nn P.gg P.C P.f x S y S' ∧ GR P.nn S.2.2.2.1 S'.2.2.2.1) (h2 : siM 500 x M y' M') : y = y' ∧ JST P R (k + 1) S' M' := by
  obtain ⟨h1, hR⟩ := h1
  rcases h1 with ⟨z, rfl, rfl⟩ | ⟨z1, z2, rfl, j, z3⟩
  · rcases h2 with ⟨_, rfl, rfl⟩ | ⟨w1, w2, _⟩
    · exact ⟨rfl, h.up⟩
    · exact absurd z (fun q => q.elim w1 (fun q => q w2))
  · rcases h2 with ⟨w, _⟩ | ⟨_, _, rfl, rfl⟩
    · exact absurd w (fun q => q.elim z1 (fun q => q z2))
    · obtain ⟨g, rc, c', hc, hv, hs⟩ := h
      obtain ⟨g', eg, hv'⟩ := hv.si (y := y') hP.1 (Or.inr ⟨z1, z2, rfl, j, z3⟩)
      exact ⟨rfl, g', rc, c', by omega, hv', hs.nop eg (EK.it (fun _ _ => EK.mv) j z3) hR⟩
theorem st_ti {P : Pm} {R k : Nat} {S S' : SS} {M M' : Nat → Nat → Int32} {x y y' : Int32} (hP : HPm P R) (h : JST P R k S M) (h1 : tiR P.nn P.gg P.C P.f x S y S' ∧ GR P.nn S.2.2.2.1 S'.2.2.2.1) (h2 : siM 50 x M y' M') : y = y' ∧ JST P R (k + 1) S' M' := by
  obtain ⟨h1, hR⟩ := h1
  rcases h1 with ⟨z, rfl, rfl⟩ | ⟨z1, z2, rfl, j, z3⟩
  · rcases h2 with ⟨_, rfl, rfl⟩ | ⟨w1, w2, _⟩
    · exact ⟨rfl, h.up⟩
    · exact absurd z (fun q => q.elim w1 (fun q => q w2))
  · rcases h2 with ⟨w, _⟩ | ⟨_, _, rfl, rfl⟩
    · exact absurd w (fun q => q.elim z1 (fun q => q z2))
    · obtain ⟨g, rc, c', hc, hv, hs⟩ := h
      obtain ⟨g', eg, hv'⟩ := hv.ti (y := y') hP.1 (Or.inr ⟨z1, z2, rfl, j, z3⟩)
      exact ⟨rfl, g', rc, c', by omega, hv', hs.nop eg (EK.it (fun _ _ => EK.tk) j z3) hR⟩
theorem st_cr {P : Pm} {R k : Nat} {S S' : SS} {M M' : Nat → Nat → Int32} {x y0 z0 y y' : Int32} (hP : HPm P R) (e0 : M 0 0 = nI P.nn) (h : JST P R k S M) (h1 : crR P.nn P.gg P.C P.f x y0 z0 S y S' ∧ crU P.nn x S y S') (h2 : crM x M y' M') : y = y' ∧ JST P R (k + 1) S' M' := by
  obtain ⟨h1, hu⟩ := h1
  obtain ⟨g, rc, c', hc, hv, hs⟩ := h
  rcases hu with ⟨z, e1, e2⟩ | ⟨j, j1, j2, j3, j4, j5, D', j6, j7⟩
  · obtain ⟨q1, q2⟩ := hs.cr hP.1.nn e0 (GE.rf g) (Or.inl ⟨z, e1, e2⟩) (fun _ => rfl) h2
    refine ⟨q1, g, rc, c', by omega, ?_, q2⟩
    rw [e2]; exact hv
  · obtain ⟨g', eg, hv'⟩ := hv.cr h1
    obtain ⟨q1, q2⟩ := hs.cr hP.1.nn e0 eg (Or.inr ⟨j, j1, j2, j3, j4, j5, D', j6, j7⟩) (fun e => by
      exfalso
      rw [e] at j7
      have : S.2.2.2.1 j 0 6 = va_up S.2.2.2.1 j D' j 0 6 := by rw [← j7]
      rw [va_up_s, j6] at this
      exact j3 this) h2
    exact ⟨q1, g', rc, c', by omega, hv', q2⟩
theorem st_re {P : Pm} {R k : Nat} {S S' : SS} {M M' : Nat → Nat → Int32} {x y y' : Int32} (hP : HPm P R) (e0 : M 0 0 = nI P.nn) (h : JST P R k S M) (h1 : reR P.nn P.gg P.C P.f x S y S' ∧ reU P.nn x S y S') (h2 : reM x M y' M') : y = y' ∧ JST P R (k + 1) S' M' := by
  obtain ⟨h1, hu⟩ := h1
  obtain ⟨g, rc, c', hc, hv, hs⟩ := h
  rcases hu with ⟨z, e1, e2⟩ | ⟨j, j1, j2, j3, j4, j5, D', j6, j7⟩
  · obtain ⟨q1, q2⟩ := hs.re hP.1.nn e0 (GE.rf g) (Or.inl ⟨z, e1, e2⟩) (fun _ => rfl) h2
    refine ⟨q1, g, rc, c', by omega, ?_, q2⟩
    rw [e2]; exact hv
  · obtain ⟨g', eg, hv'⟩ := hv.re' hP.1 h1
    obtain ⟨q1, q2⟩ := hs.re hP.1.nn e0 eg (Or.inr ⟨j, j1, j2, j3, j4, j5, D', j6, j7⟩) (fun e => by
      exfalso
      rw [e] at j7
      have : S.2.2.2.1 j 0 6 = va_up S.2.2.2.1 j D' j 0 6 := by rw [← j7]
      rw [va_up_s, j6, j3] at this
      exact absurd this (by decide)) h2
    exact ⟨q1, g', rc, c', by omega, hv', q2⟩
theorem st_ma {P : Pm} {R k : Nat} {S S' : SS} {M M' : Nat → Nat → Int32} {x y y' : Int32} (hP : HPm P R) (hk : k < 1000) (e0 : M 0 0 = nI P.nn) (h : JST P R k S M) (h1 : maR P.nn x S y S') (h2 : maM x M y' M') : y = y' ∧ JST P R (k + 1) S' M' := by
  obtain ⟨g, rc, c', hc, hv, hs⟩ := h
  obtain ⟨g', eg, hv'⟩ := hv.ma hP.1 (by omega) h1
  obtain ⟨q1, q2⟩ := hs.ma e0 eg h1 h2
  exact ⟨q1, g', rc, c' + 1, by omega, hv', q2⟩
theorem st_rp {P : Pm} {R k : Nat} {S S' : SS} {M M' : Nat → Nat → Int32} {x y y' : Int32} (hP : HPm P R) (hk : k < 1000) (e0 : M 0 0 = nI P.nn) (e1 : M 0 1 = nI R) (h : JST P R k S M) (h1 : rpR P.nn P.C x S y S') (h2 : rpM x M y' M') : y = y' ∧ JST P R (k + 1) S' M' := by
  obtain ⟨hO, _, _, hC, hR, _⟩ := id hP
  have hnn := hO.nn
  obtain ⟨g, rc, c', hc, hv, hs⟩ := h
  have hlt := hv.1.1.lt
  rcases id h1 with ⟨z, e2, e3⟩ | ⟨j, j1, j2, j3, j4, j5, ms', j6, j7⟩
  · obtain ⟨q1, q2⟩ := hs.rp hnn (by omega) e0 e1 hC hlt hv.1.1.re (GE.rf g) (fun _ => rfl) h1 h2
    refine ⟨q1, g, rc, c', by omega, ?_, q2⟩
    rw [e3]; exact hv
  · obtain ⟨g', rc', eg, hv'⟩ := hv.rp hO hC (by omega) (by omega) h1
    obtain ⟨q1, q2⟩ := hs.rp hnn (by omega) e0 e1 hC hlt hv.1.1.re eg (fun e => by
      exfalso
      have e9 : S'.1 100 9 = S.1 100 9 + 1 := by
        rw [j6]
        show drE (va_up S.1 100 (upd (upd (S.1 100) 9 (S.1 100 9 + 1)) 10 0)) (S.1 4 14) 100 9 = _
        rw [(drE_v _ _).2.2.2.2 100 (by decide), va_up_s, pk_un (by decide), pk_us]
      rw [e, hv.1.1.re, nI_1] at e9
      have := nI_inj (by omega) (by omega) e9
      omega) h1 h2
    exact ⟨q1, g', rc', c' + 1, by omega, hv', q2⟩
/-- what the reference's settle wants to know -/
theorem JST.se {P : Pm} {R k : Nat} {S : SS} {M : Nat → Nat → Int32} (h : JST P R k S M) : ∃ (ops : Nat → Mg) (sn wt : Nat), M 0 25 = nI (sn + wt) ∧ M 0 26 = nI wt ∧ wt ≤ 12 ∧ sn + wt ≤ 512 ∧ opsOK ops (sn + wt) ∧ (∀ o, o < sn + wt → OZ (ops o)) ∧ JJ ops sn wt 0 M ∧ ∃ g rc c', c' ≤ k ∧ SVT P R c' g rc S ∧ SIM P g S M ∧ ops = g.ops ∧ sn = g.sn ∧ wt = g.bg - g.sn := by
  obtain ⟨g, rc, c', hc, hv, hs⟩ := h
  obtain ⟨he, ha⟩ := hv.1.1.gi.as
  have hG := hv.1.1.gi.go
  have hh := ha.h1
  have hse := ha.se
  have h5 := hG.1
  obtain ⟨u1, u2, u3⟩ := hs.2.2.2.2.1
  have hb : g.sn + (g.bg - g.sn) = g.bg := by omega
  exact ⟨g.ops, g.sn, g.bg - g.sn, by rw [hb]; exact u1, u2, by omega, by omega, fun o ho => hG.2 o (by omega), fun o ho => hv.2.1 o (by omega), u3, g, rc, c', hc, hv, hs, rfl, rfl, rfl⟩
theorem st_sl {P : Pm} {R k : Nat} {S S' : SS} {M M' : Nat → Nat → Int32} {TK : Int64} {y y' : Int32} {ops : Nat → Mg} {sn wt : Nat} (hP : HPm P R) (hk : k < 1000) (hJ : ∃ g rc c', c' ≤ k ∧ SVT P R c' g rc S ∧ SIM P g S M ∧ ops = g.ops ∧ sn = g.sn ∧ wt = g.bg - g.sn) (h1 : slR P.nn P.gg P.C P.f TK S y S') (h2 : y' = nI wt ∧ SMr P.nn wt sn M M' ∧ ∃ (M1 : Nat → Nat → Int32) (cc : Nat), JJ ops sn wt wt M1 ∧ M' 0 20 = nI cc ∧ cc ≤ 48 ∧ SMx cc M1 M') : y = y' ∧ JST P R (k + 1) S' M' := by
  obtain ⟨g, rc, c', hc, hv, hs, rfl, rfl, rfl⟩ := hJ
  obtain ⟨hO, h3, hA, hC, hR, hR1⟩ := id hP
  obtain ⟨q1, g', q2, q3⟩ := hs.sl hO (by omega) h3 hP.rk hC hR hR1 (by omega) hv h1 h2
  exact ⟨q1, g', 0, c' + 1, by omega, q2, q3⟩
theorem st_an {P : Pm} {R k : Nat} {S S' : SS} {M M' : Nat → Nat → Int32} {x y y' : Int32} (h : JST P R k S M) (h1 : y = ansV S.1 x ∧ S' = S) (h2 : y' = ranV M x ∧ M' = M) : y = y' ∧ JST P R (k + 1) S' M' := by
  obtain ⟨rfl, rfl⟩ := h1
  obtain ⟨rfl, rfl⟩ := h2
  refine ⟨?_, h.up⟩
  obtain ⟨g, rc, c', hc, hv, hs⟩ := h
  exact hs.an hv
theorem st_td {P : Pm} {R k : Nat} {S S' : SS} {M M' : Nat → Nat → Int32} {x i y y' : Int32} (h : JST P R k S M) (h1 : y = tldV S.1 S.2.1 x i ∧ S' = S) (h2 : rtlQ M x i y' ∧ M' = M) : y = y' ∧ JST P R (k + 1) S' M' := by
  obtain ⟨rfl, rfl⟩ := h1
  obtain ⟨q, rfl⟩ := h2
  refine ⟨?_, h.up⟩
  obtain ⟨g, rc, c', hc, hv, hs⟩ := h
  exact hs.td hv q
/-- CALM on both sides -/
theorem JST.cb {P : Pm} {R k : Nat} {S : SS} {M : Nat → Nat → Int32} (h : JST P R k S M) : ∃ g, GO g ∧ M 0 7 = S.1 100 10 ∧ (¬ S.1 100 10 = 0 → CBO P g S.1 M S.2.2.2.1) := by
  obtain ⟨g, rc, c', hc, hv, hs⟩ := h
  refine ⟨g, hv.1.1.gi.go, hs.1.2.2.2, fun z => ?_⟩
  rcases hs.2.2.2.2.2.2.2 with q | ⟨_, q⟩
  · exact absurd q z
  · exact q
theorem st_fi {P : Pm} {R k : Nat} {S S' : SS} {M M' : Nat → Nat → Int32} {x w y y' : Int32} (h : JST P R k S M) (h1 : y = filV S.1 x w ∧ S' = S) (h2 : y' = rfiV M x w ∧ M' = M) : y = y' ∧ JST P R (k + 1) S' M' := by
  obtain ⟨rfl, rfl⟩ := h1
  obtain ⟨rfl, rfl⟩ := h2
  refine ⟨?_, h.up⟩
  obtain ⟨g, hG, h7, hc⟩ := h.cb
  exact fil_eq (T := tsp g.ops g.bg) (r := efv g.ops g.bg) hG.1 h7 (fun z => ⟨hG.tok (Nat.le_refl g.bg), (hc z).2.1, (hc z).2.2.1⟩)
theorem st_wh {P : Pm} {R k : Nat} {S S' : SS} {M M' : Nat → Nat → Int32} {x s r y y' : Int32} (hP : HPm P R) (e1 : M 0 1 = nI R) (h : JST P R k S M) (h1 : y = whrV P.f P.nn P.gg P.C S.1 x s r ∧ S' = S) (h2 : rwhQ P.nn P.gg M x s r y' ∧ M' = M) : y = y' ∧ JST P R (k + 1) S' M' := by
  obtain ⟨rfl, rfl⟩ := h1
  obtain ⟨q, rfl⟩ := h2
  obtain ⟨hO, _, hA, hC, hR, _⟩ := hP
  refine ⟨?_, h.up⟩
  obtain ⟨g, hG, h7, hc⟩ := h.cb
  exact whr_eq hO hG hA hC hR e1 h7 hc q
theorem st_od {P : Pm} {R k : Nat} {S S' : SS} {M M' : Nat → Nat → Int32} {x s r i y y' : Int32} (hP : HPm P R) (e1 : M 0 1 = nI R) (h : JST P R k S M) (h1 : y = odV P.f P.nn P.gg P.C S.1 S.2.2.2.1 x s r i ∧ S' = S) (h2 : rodQ P.nn P.gg M x s r i y' ∧ M' = M) : y = y' ∧ JST P R (k + 1) S' M' := by
  obtain ⟨rfl, rfl⟩ := h1
  obtain ⟨q, rfl⟩ := h2
  obtain ⟨hO, _, hA, hC, hR, hR1⟩ := hP
  refine ⟨?_, h.up⟩
  obtain ⟨g, hG, h7, hc⟩ := h.cb
  exact od_eq hO hG hA hC hR hR1 e1 h7 hc q
theorem st_ho {P : Pm} {R k : Nat} {S S' : SS} {M M' : Nat → Nat → Int32} {x y y' : Int32} (hP : HPm P R) (e0 : M 0 0 = nI P.nn) (e1 : M 0 1 = nI R) (h : JST P R k S M) (h1 : y = hlV P.nn S.1 S.2.2.2.1 x ∧ S' = S) (h2 : y' = rhoV P.nn P.gg M x ∧ M' = M) : y = y' ∧ JST P R (k + 1) S' M' := by
  obtain ⟨rfl, rfl⟩ := h1
  obtain ⟨rfl, rfl⟩ := h2
  obtain ⟨hO, _, hA, hC, hR, hR1⟩ := hP
  refine ⟨?_, h.up⟩
  obtain ⟨g, hG, h7, hc⟩ := h.cb
  exact hl_eq hO hG hA hC hR hR1 e0 e1 h7 hc
theorem JST.au {P : Pm} {R k : Nat} {S : SS} {M : Nat → Nat → Int32} (hP : HPm P R) (h : JST P R k S M) : ¬ S.1 100 10 = 0 → AUD P.nn P.gg P.C P.f S.1 S.2.2.2.1 := fun z => by
  obtain ⟨hO, _, hA, hC, hR, hR1⟩ := hP
  obtain ⟨g, hG, h7, hc⟩ := h.cb
  exact aud_ok hO hG hA hC hR hR1 (hc z)
theorem st_au {P : Pm} {R k : Nat} {S S' : SS} {M M' : Nat → Nat → Int32} {y y' : Int32} (h : JST P R k S M) (h1 : y = (if S.1 100 10 = 0 then -6 else 0) ∧ ∃ sf hv : Nat → Int32, S' = (va_up (va_up S.1 1 sf) 65 hv, S.2)) (h2 : y' = (if M 0 7 = 0 then -6 else 0) ∧ M' = M) : y = y' ∧ JST P R (k + 1) S' M' := by
  obtain ⟨rfl, sf, hv0, rfl⟩ := h1
  obtain ⟨rfl, rfl⟩ := h2
  obtain ⟨g, rc, c', hc, hv, hs⟩ := h
  have hq : ∀ q, ¬ q = 1 → ¬ q = 65 → va_up (va_up S.1 1 sf) 65 hv0 q = S.1 q := fun q a b => by rw [va_up_n _ _ b, va_up_n _ _ a]
  refine ⟨by rw [hs.1.2.2.2], g, rc, c', by omega, hv.own (fun x _ => by rw [hq 4 (by decide) (by decide)]) (hq 100 (by decide) (by decide)) (hq 9 (by decide) (by decide)), ?_⟩
  obtain ⟨⟨a1, a2, a3, a4⟩, hU, ⟨l, t1, t2, t3, t4⟩, ⟨n0, n1⟩, hH, hD, hC, hK⟩ := hs
  exact ⟨⟨a1, a2, a3, a4⟩, hU, ⟨l, t1, t2, t3, t4⟩, ⟨n0, n1⟩, hH, hD, hC, hK.mf (fun q hq0 => hq q (by omega) (by omega)) rfl ⟨fun _ _ _ => rfl, rfl, rfl⟩⟩
theorem st_ct {P : Pm} {R k : Nat} {S S' : SS} {M M' : Nat → Nat → Int32} {x y y' : Int32} (hP : HPm P R) (h : JST P R k S M) (h1 : y = cntV P.nn S.1 S.2.2.2.1 x ∧ S' = S) (h2 : y' = rcnV M x (nI (popN (uN (M 0 3)))) ∧ M' = M) : y = y' ∧ JST P R (k + 1) S' M' := by
  obtain ⟨rfl, rfl⟩ := h1
  obtain ⟨rfl, rfl⟩ := h2
  refine ⟨?_, h.up⟩
  obtain ⟨g, rc, c', hc, hv, hs⟩ := h
  exact hs.ct hP.1.nn hv
theorem JST.pu {P : Pm} {R k : Nat} {S : SS} {M : Nat → Nat → Int32} (hP : HPm P R) (h : JST P R k S M) : uN (M 0 3) < 64 ∧ M 0 3 = nI (uN (M 0 3)) := by
  obtain ⟨g, rc, c', hc, hv, hs⟩ := h
  obtain ⟨a, b, _⟩ := hs.2.1.pop hP.1.nn
  exact ⟨a, b⟩

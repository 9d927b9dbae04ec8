/-! the store as a whole: its own cells, its NODES, the MESSAGES; what every state keeps -/
def ZT.le (Z Z' : ZT) : Prop := (∀ o, Z.y o → Z'.y o) ∧ ∀ o, Z.x o → Z'.x o
theorem gd.mono {Z Z' : ZT} {b : Nat → Int32} {o : Nat} (hz : Z.le Z') (h : gd Z b o) : gd Z' b o := fun k hk e => ⟨fun z => hz.1 _ ((h k hk e).1 z), (h k hk e).2⟩
theorem opC.mono {Z Z' : ZT} {t k : Int32} (hz : Z.le Z') (h : opC Z t k) : opC Z' t k := by
  obtain ⟨o, h1, h2, h3, h4⟩ := h
  exact ⟨o, h1, h2, fun z => hz.2 _ (h3 z), h4.imp_right (fun z => z.imp_right (fun z => z.imp_right (hz.1 o)))⟩
theorem MI.mono {Z Z' : ZT} {x : Mg} (hz : Z.le Z') (h : MI Z x) : MI Z' x := ⟨h.1, h.2.1, fun z z2 => ⟨(h.2.2.1 z z2).1, (h.2.2.1 z z2).2.mono hz⟩, fun z => ⟨(h.2.2.2 z).1, (h.2.2.2 z).2.mono hz⟩⟩
theorem TI.mono {Z Z' : ZT} {fl : Int32} {jf zf nf fo vf : Nat → Int32} (hz : Z.le Z') (h : TI Z fl jf zf nf fo vf) : TI Z' fl jf zf nf fo vf := ⟨h.1, h.2.1, h.2.2.1, h.2.2.2.1, h.2.2.2.2.1, fun v hv e => hz.1 _ (h.2.2.2.2.2 v hv e)⟩
theorem WI.mono {Z Z' : ZT} {fl : Int32} {jf W Q B : Nat → Int32} (hz : Z.le Z') (h : WI Z fl jf W Q B) : WI Z' fl jf W Q B := by
  obtain ⟨h1, h2, h3, h4, h5, h6, h7, h8⟩ := h
  exact ⟨h1, h2, h3, fun z => (h4 z).mono hz, h5, fun z => by
    obtain ⟨o, o1, o2, o3⟩ := h6 z
    exact ⟨o, o1, o2, hz.1 _ o3⟩, h7, fun i hi z => (h8 i hi z).mono hz⟩
theorem DI.mono {Z Z' : ZT} {up dc : Int32} {ff rf sw ow tf : Nat → Int32} (hz : Z.le Z') (h : DI Z up dc ff rf sw ow tf) : DI Z' up dc ff rf sw ow tf := by
  obtain ⟨⟨c, c1, c2, c3, c4⟩, h2, h3, h4⟩ := h
  refine ⟨⟨c, c1, c2, fun j hj => ?_, c4⟩, fun s hs w => (h2 s hs w).mono hz, fun s hs w1 w2 => ⟨(h3 s hs w1 w2).1, (h3 s hs w1 w2).2.mono hz⟩, h4⟩
  obtain ⟨s, s1, s2, s3, s4, s5⟩ := c3 j hj
  exact ⟨s, s1, s2, s3, s4.mono hz, s5⟩
theorem NI.mono {Z Z' : ZT} {nn : Nat} {D : Nat → Nat → Int32} (hz : Z.le Z') (h : NI Z nn D) : NI Z' nn D := ⟨h.1.mono hz, h.2.1.mono hz, h.2.2.1.mono hz, h.2.2.2⟩
theorem smM.rf {x : Mg} : smM x x := ⟨rfl, fun _ _ => rfl⟩
theorem smL.rf : ∀ {xs : List Mg}, smL xs xs
  | [] => trivial
  | _ :: _ => ⟨smM.rf, smL.rf⟩
theorem NeX.t {Z : ZT} {h : ax_H} {n q : Nat} {ms : List Mg} {u b : Nat → Int32} (hN : NeX h n ms q u b) (hM : ∀ x ∈ ms, MI Z x) : NeT Z h n q u b ms := by
  obtain ⟨ids, k⟩ := hN
  exact ⟨ids, ms, k, hM, smL.rf⟩
theorem NeT.xx {Z : ZT} {h : ax_H} {n q : Nat} {u b : Nat → Int32} {Y : List Mg} (hN : NeT Z h n q u b Y) : ∃ ms : List Mg, NeX h n ms q u b ∧ (∀ x ∈ ms, MI Z x) ∧ smL ms Y := by
  obtain ⟨ids, ms, k, hM⟩ := hN
  exact ⟨ms, ⟨ids, k⟩, hM⟩
/-- all NODES -/
def GN (Z : ZT) (n nn gg : Nat) (C : Int32) (f : Nat → Int32) (h : ax_H) (D : Nat → Nat → Nat → Int32) (K A : Nat → Int64) : Prop := ∀ j, j < nn → ax_hs h (NW n (n + 329 + 22 * j) nn gg C (nI j) f (D j) (K j) (A j)) ∧ NI Z nn (D j) ∧ (D j 0 6 = 0 ∨ D j 0 6 = 1)
theorem NWf {n nd nn gg : Nat} {C me : Int32} {f : Nat → Int32} {D : Nat → Nat → Int32} {K A : Int64} {P : Nat → Prop} (hP : ∀ x, (x = n + 264 ∨ x = n + 265 ∨ (nd ≤ x ∧ x < nd + 22)) → ¬ P x) : ∀ p ∈ NW n nd nn gg C me f D K A, ¬ P p.1 := by
  intro p hp
  have h1 : p.1 ∈ (NW n nd nn gg C me f D K A).map (·.1) := List.mem_map_of_mem hp
  have e : (NW n nd nn gg C me f D K A).map (·.1) = NWa n nd := rfl
  rw [e] at h1
  unfold NWa at h1
  simp only [List.mem_cons, List.not_mem_nil, or_false] at h1
  exact hP _ (by omega)
theorem GN.fr {P : Nat → Prop} {Z : ZT} {n nn gg : Nat} {C : Int32} {f : Nat → Int32} {h h' : ax_H} {D : Nat → Nat → Nat → Int32} {K A : Nat → Int64} (hG : GN Z n nn gg C f h D K A) (hf : ax_fr P h h') (hP : ∀ x, (x = n + 264 ∨ x = n + 265 ∨ (n + 329 ≤ x ∧ x < n + 329 + 22 * nn)) → ¬ P x) : GN Z n nn gg C f h' D K A := fun j hj => ⟨(hG j hj).1.fr hf (NWf (fun x hx => hP x (by omega))), (hG j hj).2⟩
theorem GN.mono {Z Z' : ZT} {n nn gg : Nat} {C : Int32} {f : Nat → Int32} {h : ax_H} {D : Nat → Nat → Nat → Int32} {K A : Nat → Int64} (hz : Z.le Z') (hG : GN Z n nn gg C f h D K A) : GN Z' n nn gg C f h D K A := fun j hj => ⟨(hG j hj).1, (hG j hj).2.1.mono hz, (hG j hj).2.2⟩
theorem GN.upd {Z : ZT} {n nn gg j : Nat} {C : Int32} {f : Nat → Int32} {h h' : ax_H} {D : Nat → Nat → Nat → Int32} {K A : Nat → Int64} {D' : Nat → Nat → Int32} {K' A' : Int64} (hG : GN Z n nn gg C f h D K A) (hf : ax_fr (NDA n (n + 329 + 22 * j)) h h') (hF : ax_hs h' (NW n (n + 329 + 22 * j) nn gg C (nI j) f D' K' A')) (hI : NI Z nn D') (hu : D' 0 6 = 0 ∨ D' 0 6 = 1) : GN Z n nn gg C f h' (va_up D j D') (va_up K j K') (va_up A j A') := by
  intro i hi
  by_cases e : i = j
  · subst e
    rw [va_up_s, va_up_s, va_up_s]
    exact ⟨hF, hI, hu⟩
  · rw [va_up_n _ _ e, va_up_n _ _ e, va_up_n _ _ e]
    refine ⟨(hG i hi).1.fr hf (NWf (fun x hx z => ?_)), (hG i hi).2⟩
    unfold NDA NTA at z
    omega
def EI (Z : ZT) (E : Nat → Nat → Int32) (Q : Nat → Mg) : Prop := ∃ bg he se si : Nat, (E 4 8 = nI bg ∧ E 4 9 = nI he ∧ E 4 10 = nI se ∧ E 4 11 = nI si) ∧ (si ≤ se ∧ se ≤ si + 12 ∧ se ≤ he ∧ he ≤ bg ∧ bg ≤ se + 12 ∧ bg ≤ 512) ∧ (inR 2049 (E 4 3) ∧ inR 201 (E 7 0) ∧ inR 201 (E 7 1)) ∧ (∀ o, he ≤ o → o < bg → AQ ((Q (o % 24)).1 0) ((Q (o % 24)).1 1) ((Q (o % 24)).1 2) ((Q (o % 24)).1 3) ((Q (o % 24)).1 4) ((Q (o % 24)).1 5) ∧ opC Z (nI o) ((Q (o % 24)).1 0)) ∧ (∀ j, j < 24 → inR 2049 ((Q j).1 6)) ∧ (∀ o, Z.y o ∨ Z.x o → o < bg)
/-- the catalogue of a CALM store -/
def CI (Z : ZT) (E : Nat → Nat → Int32) : Prop := TI Z (E 58 9) (E 59) (E 60) (E 61) (E 63) (E 64) ∧ (∀ k, k < 48 → inR 48 (E 0 k)) ∧ (E 100 10 = 0 ∨ E 100 10 = 1)
def GS (Z : ZT) (s0 n nn gg : Nat) (C : Int32) (f : Nat → Int32) (q : Nat) (u b : Nat → Int32) (h0 h : ax_H) (E : Nat → Nat → Int32) (TK : Int64) (Q : Nat → Mg) (ms : List Mg) (D : Nat → Nat → Nat → Int32) (K A : Nat → Int64) : Prop :=
  AS s0 n nn gg C f q u b h h E TK Q ms ∧ GN Z n nn gg C f h D K A ∧ (∀ x ∈ ms, MI Z x) ∧ EI Z E Q ∧ CI Z E ∧ SZ (n + 329 + 22 * nn) h0 h
theorem ASA_lt {s0 n nn x : Nat} (hs : s0 < n) (h : ASA s0 n x) : x < n + 329 + 22 * nn := by
  unfold ASA NTA at h
  omega
theorem GN.as {Z : ZT} {s0 n nn gg : Nat} {C : Int32} {f : Nat → Int32} {h h' : ax_H} {D : Nat → Nat → Nat → Int32} {K A : Nat → Int64} (hG : GN Z n nn gg C f h D K A) (hs : s0 < n) (hf : ax_fr (ASA s0 n) h h') : GN Z n nn gg C f h' D K A := hG.fr hf (fun x hx z => by
  unfold ASA NTA at z
  omega)
theorem AS.re {s0 n nn gg : Nat} {C : Int32} {f : Nat → Int32} {q : Nat} {u b : Nat → Int32} {h0 h : ax_H} {E : Nat → Nat → Int32} {TK : Int64} {Q : Nat → Mg} {ms : List Mg} (hS : AS s0 n nn gg C f q u b h0 h E TK Q ms) : AS s0 n nn gg C f q u b h h E TK Q ms := ⟨hS.1, hS.2.1, hS.2.2.1, ax_fr.rf, rfl, rfl, by have := hS.2.2.2.2.1; have := hS.2.2.2.2.2.2; omega⟩
theorem SZ.as {s0 n nn gg : Nat} {C : Int32} {f : Nat → Int32} {q : Nat} {u b : Nat → Int32} {h0 hb h : ax_H} {E : Nat → Nat → Int32} {TK : Int64} {Q : Nat → Mg} {ms : List Mg} (hz : SZ (n + 329 + 22 * nn) h0 hb) (hs : s0 < n) (hS : AS s0 n nn gg C f q u b hb h E TK Q ms) : SZ (n + 329 + 22 * nn) h0 h := hz.tr ⟨hS.2.2.2.2.1, hS.2.2.2.2.2.1, hS.2.2.2.1.mono (fun x hx => ASA_lt hs hx)⟩
/-- behind a call that leaves the NODES -/
theorem GS.as {Z : ZT} {s0 n nn gg : Nat} {C : Int32} {f : Nat → Int32} {q : Nat} {u b : Nat → Int32} {h0 hb h : ax_H} {E : Nat → Nat → Int32} {TK : Int64} {Q : Nat → Mg} {ms : List Mg} {D : Nat → Nat → Nat → Int32} {K A : Nat → Int64} (hs : s0 < n) (hz : SZ (n + 329 + 22 * nn) h0 hb) (hG : GN Z n nn gg C f hb D K A) (hS : AS s0 n nn gg C f q u b hb h E TK Q ms) (hM : ∀ x ∈ ms, MI Z x) (hE : EI Z E Q) (hK : CI Z E) : GS Z s0 n nn gg C f q u b h0 h E TK Q ms D K A := ⟨hS.re, hG.as hs hS.2.2.2.1, hM, hE, hK, hz.as hs hS⟩
theorem GS.ns {Z : ZT} {s0 n nn gg j : Nat} {C : Int32} {f : Nat → Int32} {q : Nat} {u b : Nat → Int32} {h0 h : ax_H} {E : Nat → Nat → Int32} {TK : Int64} {Q : Nat → Mg} {ms : List Mg} {D : Nat → Nat → Nat → Int32} {K A : Nat → Int64} (hG : GS Z s0 n nn gg C f q u b h0 h E TK Q ms D K A) (hj : j < nn) : NS Z n (n + 329 + 22 * j) nn gg C (nI j) f q u b (D j 0 6) h h (D j) (K j) (A j) ms := ⟨(hG.2.1 j hj).1, hG.1.2.2.1.t hG.2.2.1, ax_fr.rf, rfl, rfl, hG.1.2.2.2.2.2.2, rfl⟩
theorem CG.cs {s0 n nn gg j : Nat} {f : Nat → Int32} (hC : CG s0 n nn gg f) : CS n (n + 329 + 22 * j) nn gg f := ⟨by omega, by have := hC.1; have := hC.2.1; omega, hC.2.2⟩
/-- behind a call of a NODE -/
theorem GS.nd {Z : ZT} {s0 n nn gg j : Nat} {C uv : Int32} {f : Nat → Int32} {q : Nat} {u b : Nat → Int32} {h0 h h' : ax_H} {E : Nat → Nat → Int32} {TK : Int64} {Q : Nat → Mg} {ms : List Mg} {D : Nat → Nat → Nat → Int32} {K A : Nat → Int64} {D' : Nat → Nat → Int32} {K' A' : Int64} {Y' : List Mg} (hs : s0 < n) (hG : GS Z s0 n nn gg C f q u b h0 h E TK Q ms D K A) (hj : j < nn) (hS : NS Z n (n + 329 + 22 * j) nn gg C (nI j) f q u b uv h h' D' K' A' Y') (hI : NI Z nn D') (hu : uv = 0 ∨ uv = 1) : ∃ ms' : List Mg, smL ms' Y' ∧ GS Z s0 n nn gg C f q u b h0 h' E TK Q ms' (va_up D j D') (va_up K j K') (va_up A j A') := by
  obtain ⟨k1, k2, k3, k4, k5, k6, k7⟩ := hS
  obtain ⟨ms', m1, m2, m3⟩ := k2.xx
  obtain ⟨g1, g2, g3, g4, g5, g6⟩ := hG
  refine ⟨ms', m3, ⟨g1.1.fr k3 (fun p hp z => ?_), g1.2.1.fr k3 (fun x hx z => ?_), m1, ax_fr.rf, rfl, rfl, by omega⟩, g2.upd k3 k1 hI (by rw [k7]; exact hu), m2, g4, g5, g6.tr ⟨k4, k5, k3.mono (fun x hx => ?_)⟩⟩
  · have h1 : p.1 ∈ (EW s0 n nn gg C f E TK).map (·.1) := List.mem_map_of_mem hp
    rw [show (EW s0 n nn gg C f E TK).map (·.1) = EWa s0 n from rfl] at h1
    unfold EWa at h1
    simp only [List.mem_cons, List.not_mem_nil, or_false] at h1
    unfold NDA NTA at z
    omega
  · unfold NDA NTA at z
    omega
  · unfold NDA NTA at hx
    omega
/-- a state of the store: E, Q, MESSAGES, NODES -/
abbrev SS : Type := (Nat → Nat → Int32) × (Nat → Mg) × List Mg × (Nat → Nat → Nat → Int32) × (Nat → Int64) × (Nat → Int64)
/-- NODE j comes to state s -/
def nodR (s : St) (j : Nat) (S S' : SS) : Prop := ∃ ms' : List Mg, smL ms' s.2.2.2 ∧ S' = (S.1, S.2.1, ms', va_up S.2.2.2.1 j s.1, va_up S.2.2.2.2.1 j s.2.1, va_up S.2.2.2.2.2 j s.2.2.1)
/-- those who ask hear MESSAGE x -/
def ahR (nn : Nat) (f : Nat → Int32) (x : Mg) (S S' : SS) : Prop :=
  ((x.1 0 = 1 ∧ x.1 3 = S.1 4 13) ∧ S' = (va_up S.1 4 (upd (S.1 4) 15 ((S.1 4 15) ||| ((1 : Int32) <<< (x.1 1 &&& 31)))), S.2)) ∨
  (¬ (x.1 0 = 1 ∧ x.1 3 = S.1 4 13) ∧ ¬ (x.1 0 = 3 ∧ x.1 5 = S.1 4 9 ∧ S.1 4 9 < S.1 4 8) ∧ S' = S) ∨
  (¬ (x.1 0 = 1 ∧ x.1 3 = S.1 4 13) ∧ (x.1 0 = 3 ∧ x.1 5 = S.1 4 9 ∧ S.1 4 9 < S.1 4 8) ∧ ∃ ms' : List Mg, S' = (heE S.1 ((S.2.1 ((S.1 4 9).toNatClampNeg % 24)).1 0) (S.1 4 9).toNatClampNeg (x.1 6), va_up S.2.1 ((S.1 4 9).toNatClampNeg % 24) (heQ (S.2.1 ((S.1 4 9).toNatClampNeg % 24)) x.1 x.2), ms', S.2.2.2) ∧ askR nn f S'.1 S'.2.1 S.2.2.1 ms')
/-- a MESSAGE x is handed over -/
def hoR (nn gg : Nat) (C : Int32) (f : Nat → Int32) (x : Mg) (S S' : SS) : Prop :=
  (x.1 2 = nI nn ∧ ahR nn f x S S') ∨
  (∃ j : Nat, j < nn ∧ x.1 2 = nI j ∧ ¬ S.2.2.2.1 j 0 6 = 0 ∧ nodR (F_55 nn gg C (nI j) f x.1 x.2 (S.2.2.2.1 j) (S.2.2.2.2.1 j) (S.2.2.2.2.2 j) S.2.2.1) j S S') ∨
  (¬ x.1 2 = nI nn ∧ (∀ j : Nat, j < nn → x.1 2 = nI j → S.2.2.2.1 j 0 6 = 0) ∧ S' = S)
/-- the NODES from i on do what a TICK asks of them -/
def nwR (nn gg : Nat) (C : Int32) (f u b : Nat → Int32) : Nat → Nat → SS → SS → Prop
  | 0, _, S, S' => S' = S
  | k + 1, i, S, S' => (S.2.2.2.1 i 0 6 = 0 ∧ nwR nn gg C f u b k (i + 1) S S') ∨ (¬ S.2.2.2.1 i 0 6 = 0 ∧ ∃ S1 : SS, nodR (F_136 nn gg C (nI i) f u b (S.2.2.2.1 i) (S.2.2.2.2.1 i) (S.2.2.2.2.2 i) S.2.2.1) i S S1 ∧ nwR nn gg C f u b k (i + 1) S1 S')
/-- a TICK -/
def tkR (nn gg : Nat) (C : Int32) (f : Nat → Int32) (S S' : SS) : Prop := ∃ (u b : Nat → Int32) (ms1 ms2 : List Mg), tmR nn (S.1 4 15) (S.1 4 13) (S.1 4 14) nn 0 S.2.2.1 ms1 ∧ askR nn f S.1 S.2.1 ms1 ms2 ∧ nwR nn gg C f u b nn 0 (S.1, S.2.1, ms2, S.2.2.2) S'
theorem nodR_mk {s : St} {j : Nat} {E : Nat → Nat → Int32} {Q : Nat → Mg} {ms ms' : List Mg} {D : Nat → Nat → Nat → Int32} {K A : Nat → Int64} {Dx : Nat → Nat → Int32} {Kx Ax : Int64} {Yx : List Mg} (h : (Dx, Kx, Ax, Yx) = s) (hs : smL ms' Yx) : nodR s j (E, Q, ms, D, K, A) (E, Q, ms', va_up D j Dx, va_up K j Kx, va_up A j Ax) := by
  subst h
  exact ⟨ms', hs, rfl⟩
/-- calm no more -/
def ncm (S : SS) : SS := (va_up S.1 100 (upd (S.1 100) 10 0), S.2)
/-- a MESSAGE is taken from among those under way -/
def tkM (x : Mg) (S S' : SS) : Prop := ∃ ms', (x :: ms').Perm S.2.2.1 ∧ S' = (S.1, S.2.1, ms', S.2.2.2)

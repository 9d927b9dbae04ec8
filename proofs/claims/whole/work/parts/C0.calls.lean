/-! each call of the store and of the reference from every state: it returns, and the state is one of those again -/
theorem GS.self {Z : ZT} {s0 n nn gg : Nat} {C : Int32} {f : Nat → Int32} {q : Nat} {u b : Nat → Int32} {h0 h : ax_H} {E : Nat → Nat → Int32} {TK : Int64} {Q : Nat → Mg} {ms : List Mg} {D : Nat → Nat → Nat → Int32} {K A : Nat → Int64} (hG : GS Z s0 n nn gg C f q u b h0 h E TK Q ms D K A) : GS Z s0 n nn gg C f q u b h h E TK Q ms D K A := ⟨hG.1, hG.2.1, hG.2.2.1, hG.2.2.2.1, hG.2.2.2.2.1, SZ.rf⟩
theorem GS.fr {Z : ZT} {s0 n nn gg : Nat} {C : Int32} {f : Nat → Int32} {q : Nat} {u b : Nat → Int32} {h0 h h' : ax_H} {E : Nat → Nat → Int32} {TK : Int64} {Q : Nat → Mg} {ms : List Mg} {D : Nat → Nat → Nat → Int32} {K A : Nat → Int64} (hs : s0 < n) (hG : GS Z s0 n nn gg C f q u b h0 h E TK Q ms D K A) (hf : ax_fr (fun x => n + 329 + 22 * nn ≤ x) h h') : GS Z s0 n nn gg C f q u b h' h' E TK Q ms D K A := by
  obtain ⟨⟨k1, k2, k3, k4, k5, k6, k7⟩, g2, g3, g4, g5, g6⟩ := hG
  refine ⟨⟨k1.fr hf (fun p hp z => ?_), k2.fr hf (fun x hx z => by omega), k3.fr hf (fun x hx z => by unfold NTA at hx; omega), ax_fr.rf, rfl, rfl, Nat.lt_of_lt_of_le k7 hf.1.1⟩, g2.fr hf (fun x hx z => by omega), g3, g4, g5, SZ.rf⟩
  have := farL (F := EW s0 n nn gg C f E TK) (s0 := s0) rfl hs p hp
  omega
theorem RS.fr {m p al AL : Nat} {h0 h h' : ax_H} {M : Nat → Nat → Int32} (hC : RC m p al) (hS : RS m p al AL h0 h M) (hz : SZ m h h') : RS m p al AL h' h' M := by
  obtain ⟨k1, k2, k3, k4, k5⟩ := hS
  refine ⟨k1.fr hz.2.2 (fun q hq z => ?_), ax_fr.rf, rfl, rfl, by have := hz.1; omega⟩
  have h1 : q.1 ∈ (RW m p al AL M).map (·.1) := List.mem_map_of_mem hq
  have e : (RW m p al AL M).map (·.1) = [m, p, p + 1, p + 2, p + 3, p + 4, p + 5, p + 6, p + 7, p + 8, p + 9, p + 10, p + 11, p + 12, p + 13, p + 14, p + 15, p + 16, p + 17, al, p + 19, p + 20] := rfl
  rw [e] at h1
  simp only [List.mem_cons, List.not_mem_nil, or_false] at h1
  obtain ⟨c1, c2, c3⟩ := hC
  omega
def CP (s0 n nn gg : Nat) (C : Int32) (f : Nat → Int32) (h : ax_H) (D : Nat → Nat → Nat → Int32) : Prop := ∃ (Z : ZT) (q : Nat) (u b : Nat → Int32) (E : Nat → Nat → Int32) (TK : Int64) (Q : Nat → Mg) (ms : List Mg) (K A : Nat → Int64), GS Z s0 n nn gg C f q u b h h E TK Q ms D K A
theorem CP.fr {s0 n nn gg : Nat} {C : Int32} {f : Nat → Int32} {h h' : ax_H} {D : Nat → Nat → Nat → Int32} (hP : CP s0 n nn gg C f h D) (hs : s0 < n) (hf : ax_fr (fun x => n + 329 + 22 * nn ≤ x) h h') : CP s0 n nn gg C f h' D := by
  obtain ⟨Z, q, u, b, E, TK, Q, ms, K, A, hG⟩ := hP
  exact ⟨Z, q, u, b, E, TK, Q, ms, K, A, hG.fr hs hf⟩
theorem CP.gr {Z : ZT} {s0 n nn gg : Nat} {C : Int32} {f : Nat → Int32} {q : Nat} {u b : Nat → Int32} {h0 h : ax_H} {E : Nat → Nat → Int32} {TK : Int64} {Q : Nat → Mg} {ms : List Mg} {D : Nat → Nat → Nat → Int32} {K A : Nat → Int64} (hG : GS Z s0 n nn gg C f q u b h0 h E TK Q ms D K A) : CP s0 n nn gg C f h D := ⟨Z, q, u, b, E, TK, Q, ms, K, A, hG.self⟩
/-- begin: OPERATION bg is one more that is known of -/
def ZT.add (Z : ZT) (bg : Nat) (k : Int32) (hz : ∀ o, Z.y o ∨ Z.x o → o < bg) : ZT := ⟨(fun o => Z.y o ∨ (o = bg ∧ ¬ (k = 4 ∨ k = 8 ∨ k = 9)), fun o => Z.x o ∨ (o = bg ∧ (k = 4 ∨ k = 8 ∨ k = 9))), fun o h1 h2 => by
  rcases h1 with h1 | ⟨h1, h3⟩ <;> rcases h2 with h2 | ⟨h2, h4⟩
  · exact Z.2 o h1 h2
  · exact absurd (hz o (Or.inl h1)) (by omega)
  · exact absurd (hz o (Or.inr h2)) (by omega)
  · exact h3 h4⟩
theorem ZT.le_add {Z : ZT} {bg : Nat} {k : Int32} {hz : ∀ o, Z.y o ∨ Z.x o → o < bg} : Z.le (Z.add bg k hz) := ⟨fun _ h => Or.inl h, fun _ h => Or.inl h⟩
theorem mayA.k {l0 l1 k a b : Int32} (h : mayA l0 l1 k a b) : inR 10 k ∧ (k = 1 ∨ k = 3 ∨ k = 4 → inR 8193 a) ∧ (k = 4 → inR 2049 b) := by
  obtain ⟨h1, h2, -, -, h5, h6⟩ := h
  refine ⟨?_, fun z => ?_, fun z => ?_⟩
  · obtain ⟨j, hj, rfl⟩ := natOf h1
    have : ¬ 9 < j := fun z => h2 (show nI 9 < nI j from nI_lt z hj)
    exact ⟨j, by omega, rfl⟩
  · obtain ⟨q1, q2⟩ := h5 z
    obtain ⟨j, hj, rfl⟩ := natOf q1
    exact ⟨j, by have := (nI_leI hj (show 8192 < 2 ^ 31 by decide)).mp q2; omega, rfl⟩
  · obtain ⟨q1, q2⟩ := h6 z
    obtain ⟨j, hj, rfl⟩ := natOf q1
    have : ¬ 2048 < j := fun z => q2 (show nI 2048 < nI j from nI_lt z hj)
    exact ⟨j, by omega, rfl⟩
theorem EI.op {Z : ZT} {E : Nat → Nat → Int32} {Q : Nat → Mg} {bg : Nat} {k a b : Int32} {hz : ∀ o, Z.y o ∨ Z.x o → o < bg} (h : EI Z E Q) (e8 : E 4 8 = nI bg) (hb : bg < 512) (hm : mayA (E 7 0) (E 7 1) k a b) (hs : ∀ se, E 4 10 = nI se → se ≤ 512 → ¬ 12 ≤ bg - se) : EI (Z.add bg k hz) (opE (va_up E 100 (upd (E 100) 10 0)) k bg) (va_up Q (bg % 24) (opQ (va_up E 100 (upd (E 100) 10 0)) (Q (bg % 24)) k a b)) := by
  obtain ⟨bg', he, se, si, ⟨a1, a2, a3, a4⟩, ⟨b1, b2, b3, b4, b5, b6⟩, ⟨c1, c2, c3⟩, d, e, g⟩ := h
  have q1 : bg = bg' := nI_inj (by omega) (by omega) (e8.symm.trans a1)
  subst q1
  have hs2 := hs se a3 (by omega)
  have hl : inR 2049 (opL E k) := by
    unfold opL
    split
    · exact c1
    · exact ⟨0, by decide, rfl⟩
  have f4 : ∀ j, ¬ j = 3 → ¬ j = 8 → opE (va_up E 100 (upd (E 100) 10 0)) k bg 4 j = E 4 j := fun j h3 h8 => by
    unfold opE
    rw [va_up_s]
    split
    · show upd (upd (E 4) 3 0) 8 _ j = _
      rw [pk_un h8, pk_un h3]
    · show upd (E 4) 8 _ j = _
      rw [pk_un h8]
  have f3 : inR 2049 (opE (va_up E 100 (upd (E 100) 10 0)) k bg 4 3) := by
    unfold opE
    rw [va_up_s]
    split
    · exact ⟨0, by decide, rfl⟩
    · exact c1
  refine ⟨bg + 1, he, se, si, ⟨opE_8, (f4 9 (by decide) (by decide)).trans a2, (f4 10 (by decide) (by decide)).trans a3, (f4 11 (by decide) (by decide)).trans a4⟩, ⟨b1, b2, b3, by omega, by omega, by omega⟩, ⟨f3, c2, c3⟩, fun o h1 h2 => ?_, fun j hj => ?_, fun o ho => ?_⟩
  · by_cases z : o = bg
    · rw [z, va_up_s]
      obtain ⟨m1, m2, m3⟩ := hm.k
      refine ⟨⟨m1, m2, m3, c2, c3, hl⟩, bg, hb, rfl, fun y => Or.inr ⟨rfl, ?_⟩, ?_⟩
      · rcases y with y | y
        · exact Or.inl y
        · exact Or.inr (Or.inr y)
      · by_cases y : k = 4 ∨ k = 8 ∨ k = 9
        · rcases y with y | y | y
          · exact Or.inl y
          · exact Or.inr (Or.inl y)
          · exact Or.inr (Or.inr (Or.inl y))
        · exact Or.inr (Or.inr (Or.inr (Or.inr ⟨rfl, y⟩)))
    · have hne : ¬ o % 24 = bg % 24 := by omega
      rw [va_up_n _ _ hne]
      exact ⟨(d o h1 (by omega)).1, (d o h1 (by omega)).2.mono ZT.le_add⟩
  · by_cases z : j = bg % 24
    · rw [z, va_up_s]
      exact ⟨0, by decide, rfl⟩
    · rw [va_up_n _ _ z]
      exact e j hj
  · rcases ho with (h | ⟨h, -⟩) | (h | ⟨h, -⟩)
    · have := g o (Or.inl h); omega
    · omega
    · have := g o (Or.inr h); omega
    · omega
theorem cp_37 {L : Nat} {xs : Nat → Int32} {fr lo : Nat} {s0 n nn gg : Nat} {C : Int32} {f : Nat → Int32} {h : ax_H} {D : Nat → Nat → Nat → Int32} {xa xb xc xd xe : Int32} (hfr : 2 ≤ fr) (hlo : 60 ≤ lo) (hC : CG s0 n nn gg f) (hP : CP s0 n nn gg C f h D) : ax_M L xs 37 fr lo [.ref s0, .int xa, .int xb, .int xc, .int xd, .int xe] h (fun r h' => ∃ (y : Int32) (D' : Nat → Nat → Nat → Int32), r = some (.int y) ∧ CP s0 n nn gg C f h' D' ∧ SZ (n + 329 + 22 * nn) h h' ∧ GR nn D D') := by
  have hC0 := hC
  obtain ⟨hs0, hsn, hnn3, hnn, hgg1, hgg, hRg⟩ := hC
  obtain ⟨Z, q, u, b, E, TK, Q, ms, K, A, hG⟩ := hP
  obtain ⟨hS, hG0, hM, hE, hK, hz⟩ := hG
  obtain ⟨l, hl, e3⟩ := hE.len
  refine ax_A.post (ek_37 hfr hlo hC0 hS e3 hl) (fun r h' hq => ?_)
  rcases hq with ⟨-, rfl, hS2⟩ | ⟨h20, rfl, hS2⟩
  · have hG2 := GS.as hsn hz hG0 hS2 hM hE hK
    exact ⟨_, _, rfl, CP.gr hG2, hG2.2.2.2.2.2, GR.rf⟩
  · have hG2 := GS.as hsn hz hG0 hS2 hM (hE.f4 (E' := fdE E l xa xb xc xd xe) rfl rfl rfl rfl ⟨l + 20, by omega, rfl⟩ hE.lens.2) hK
    exact ⟨_, _, rfl, CP.gr hG2, hG2.2.2.2.2.2, GR.rf⟩
theorem cp_40 {L : Nat} {xs : Nat → Int32} {fr lo : Nat} {s0 n nn gg : Nat} {C : Int32} {f : Nat → Int32} {h : ax_H} {D : Nat → Nat → Nat → Int32} {x : Int32} (hfr : 0 ≤ fr) (hlo : 0 ≤ lo) (hC : CG s0 n nn gg f) (hP : CP s0 n nn gg C f h D) : ax_M L xs 40 fr lo [.ref s0, .int x] h (fun r h' => ∃ (y : Int32) (D' : Nat → Nat → Nat → Int32), r = some (.int y) ∧ CP s0 n nn gg C f h' D' ∧ SZ (n + 329 + 22 * nn) h h' ∧ GR nn D D') := by
  have hC0 := hC
  obtain ⟨hs0, hsn, hnn3, hnn, hgg1, hgg, hRg⟩ := hC
  obtain ⟨Z, q, u, b, E, TK, Q, ms, K, A, hG⟩ := hP
  obtain ⟨hS, hG0, hM, hE, hK, hz⟩ := hG
  obtain ⟨l, hl, e3⟩ := hE.len
  refine ax_A.post (ek_40 hfr hlo hC0 hS e3 hl) (fun r h' hq => ?_)
  rcases hq with ⟨-, rfl, hS2⟩ | ⟨x1, x2, rfl, hS2⟩
  · have hG2 := GS.as hsn hz hG0 hS2 hM hE hK
    exact ⟨_, _, rfl, CP.gr hG2, hG2.2.2.2.2.2, GR.rf⟩
  · obtain ⟨j, hj, rfl⟩ := natOf x1
    have hG2 := GS.as hsn hz hG0 hS2 hM (hE.f4 (E' := va_up E 4 (upd (E 4) 3 (nI j))) rfl rfl rfl rfl ⟨j, by have := (nI_leI hj (show l < 2 ^ 31 by omega)).mp x2; omega, rfl⟩ hE.lens.2) hK
    exact ⟨_, _, rfl, CP.gr hG2, hG2.2.2.2.2.2, GR.rf⟩
theorem cp_41 {L : Nat} {xs : Nat → Int32} {fr lo : Nat} {s0 n nn gg : Nat} {C : Int32} {f : Nat → Int32} {h : ax_H} {D : Nat → Nat → Nat → Int32} {x : Int32} (hfr : 3 ≤ fr) (hlo : 110 ≤ lo) (hC : CG s0 n nn gg f) (hP : CP s0 n nn gg C f h D) : ax_M L xs 41 fr lo [.ref s0, .int x] h (fun r h' => ∃ (y : Int32) (D' : Nat → Nat → Nat → Int32), r = some (.int y) ∧ CP s0 n nn gg C f h' D' ∧ SZ (n + 329 + 22 * nn) h h' ∧ GR nn D D') := by
  have hC0 := hC
  obtain ⟨hs0, hsn, hnn3, hnn, hgg1, hgg, hRg⟩ := hC
  obtain ⟨Z, q, u, b, E, TK, Q, ms, K, A, hG⟩ := hP
  obtain ⟨hS, hG0, hM, hE, hK, hz⟩ := hG
  obtain ⟨l, hl, e3⟩ := hE.len
  refine ax_A.post (ek_41 hfr hlo hC0 hS e3 hl) (fun r h' hq => ?_)
  rcases hq with ⟨-, rfl, hS2⟩ | ⟨k, hk, hl2, rfl, rfl, hS2⟩
  · have hG2 := GS.as hsn hz hG0 hS2 hM hE hK
    exact ⟨_, _, rfl, CP.gr hG2, hG2.2.2.2.2.2, GR.rf⟩
  · have hn : ∀ j, inR 201 (E 7 j) → inR 201 (nmE E k l 7 j) := fun j h1 => by
      show inR 201 (upd (E 7) k (nI l) j)
      by_cases z : j = k
      · rw [z, pk_us]; exact ⟨l, by omega, rfl⟩
      · rw [pk_un z]; exact h1
    have hG2 := GS.as hsn hz hG0 hS2 hM (hE.f4 (E' := nmE E k l) rfl rfl rfl rfl ⟨0, by decide, rfl⟩ ⟨hn 0 hE.lens.2.1, hn 1 hE.lens.2.2⟩) hK
    exact ⟨_, _, rfl, CP.gr hG2, hG2.2.2.2.2.2, GR.rf⟩
theorem cp_44 {L : Nat} {xs : Nat → Int32} {fr lo : Nat} {s0 n nn gg : Nat} {C : Int32} {f : Nat → Int32} {h : ax_H} {D : Nat → Nat → Nat → Int32} {x y0 z : Int32} (hfr : 4 ≤ fr) (hlo : 130 ≤ lo) (hC : CG s0 n nn gg f) (hP : CP s0 n nn gg C f h D) : ax_M L xs 44 fr lo [.ref s0, .int x, .int y0, .int z] h (fun r h' => ∃ (y : Int32) (D' : Nat → Nat → Nat → Int32), r = some (.int y) ∧ CP s0 n nn gg C f h' D' ∧ SZ (n + 329 + 22 * nn) h h' ∧ GR nn D D') := by
  have hC0 := hC
  obtain ⟨hs0, hsn, hnn3, hnn, hgg1, hgg, hRg⟩ := hC
  obtain ⟨Z, q, u, b, E, TK, Q, ms, K, A, hG⟩ := hP
  obtain ⟨hS, hG0, hM, hE, hK, hz⟩ := hG
  obtain ⟨bg, he, se, si, ⟨a1, a2, a3, a4⟩, ⟨b1, b2, b3, b4, b5, b6⟩, c, d, e, g⟩ := id hE
  refine ax_A.post (ek_44 hfr hlo hC0 hS a2 a1 a3 (by omega) b4 b6 c.1) (fun r h' hq => ?_)
  rcases hq with ⟨-, rfl, hS2⟩ | ⟨-, -, rfl, hS2⟩ | ⟨hma, hn12, hb5, rfl, ms', hS2, hr⟩
  · have hG2 := GS.as hsn hz hG0 hS2 hM hE hK
    exact ⟨_, _, rfl, CP.gr hG2, hG2.2.2.2.2.2, GR.rf⟩
  · have hG2 := GS.as hsn hz hG0 hS2 hM hE hK
    exact ⟨_, _, rfl, CP.gr hG2, hG2.2.2.2.2.2, GR.rf⟩
  · have hE2 := hE.op (hz := g) (k := x) (a := y0) (b := z) a1 hb5 hma (fun s h1 h2 => by
      have : s = se := nI_inj (by omega) (by omega) (h1.symm.trans a3)
      omega)
    have hM2 : ∀ y ∈ ms', MI (Z.add bg x g) y := by
      rcases hr with ⟨-, hr⟩ | ⟨-, rfl⟩
      · exact hr.mi hE2 (fun y hy => (hM y hy).mono ZT.le_add)
      · exact fun y hy => (hM y hy).mono ZT.le_add
    have hG2 := GS.as hsn hz (hG0.mono ZT.le_add) hS2 hM2 hE2 ⟨hK.1.mono ZT.le_add, hK.2.1, Or.inl rfl⟩
    exact ⟨_, _, rfl, CP.gr hG2, hG2.2.2.2.2.2, GR.rf⟩
theorem cp_49 {L : Nat} {xs : Nat → Int32} {fr lo : Nat} {s0 n nn gg : Nat} {C : Int32} {f : Nat → Int32} {h : ax_H} {D : Nat → Nat → Nat → Int32} {x : Int32} (hfr : 10 ≤ fr) (hlo : 330 ≤ lo) (hC : CG s0 n nn gg f) (hP : CP s0 n nn gg C f h D) : ax_M L xs 49 fr lo [.ref s0, .int x] h (fun r h' => ∃ (D' : Nat → Nat → Nat → Int32), r = none ∧ CP s0 n nn gg C f h' D' ∧ SZ (n + 329 + 22 * nn) h h' ∧ GR nn D D') := by
  have hC0 := hC
  obtain ⟨hs0, hsn, hnn3, hnn, hgg1, hgg, hRg⟩ := hC
  obtain ⟨Z, q, u, b, E, TK, Q, ms, K, A, hG⟩ := hP
  refine ax_A.post (g_49 hfr hlo hC0 hG) (fun r h' hq => ?_)
  obtain ⟨rfl, q', u', b', E', Q', ms', D', K', A', hG2, hR, -⟩ := hq
  exact ⟨D', rfl, CP.gr hG2, hG2.2.2.2.2.2, hR⟩
theorem cp_129 {L : Nat} {xs : Nat → Int32} {fr lo : Nat} {s0 n nn gg : Nat} {C : Int32} {f : Nat → Int32} {h : ax_H} {D : Nat → Nat → Nat → Int32} {x : Int32} (hfr : 10 ≤ fr) (hlo : 330 ≤ lo) (hC : CG s0 n nn gg f) (hP : CP s0 n nn gg C f h D) : ax_M L xs 129 fr lo [.ref s0, .int x] h (fun r h' => ∃ (D' : Nat → Nat → Nat → Int32), r = none ∧ CP s0 n nn gg C f h' D' ∧ SZ (n + 329 + 22 * nn) h h' ∧ GR nn D D') := by
  have hC0 := hC
  obtain ⟨hs0, hsn, hnn3, hnn, hgg1, hgg, hRg⟩ := hC
  obtain ⟨Z, q, u, b, E, TK, Q, ms, K, A, hG⟩ := hP
  refine ax_A.post (g_129 hfr hlo hC0 hG) (fun r h' hq => ?_)
  obtain ⟨rfl, q', u', b', E', Q', ms', D', K', A', hG2, hR, -⟩ := hq
  exact ⟨D', rfl, CP.gr hG2, hG2.2.2.2.2.2, hR⟩
theorem cp_130 {L : Nat} {xs : Nat → Int32} {fr lo : Nat} {s0 n nn gg : Nat} {C : Int32} {f : Nat → Int32} {h : ax_H} {D : Nat → Nat → Nat → Int32} {x : Int32} (hfr : 10 ≤ fr) (hlo : 330 ≤ lo) (hC : CG s0 n nn gg f) (hP : CP s0 n nn gg C f h D) : ax_M L xs 130 fr lo [.ref s0, .int x] h (fun r h' => ∃ (D' : Nat → Nat → Nat → Int32), r = none ∧ CP s0 n nn gg C f h' D' ∧ SZ (n + 329 + 22 * nn) h h' ∧ GR nn D D') := by
  have hC0 := hC
  obtain ⟨hs0, hsn, hnn3, hnn, hgg1, hgg, hRg⟩ := hC
  obtain ⟨Z, q, u, b, E, TK, Q, ms, K, A, hG⟩ := hP
  refine ax_A.post (g_130 hfr hlo hC0 hG) (fun r h' hq => ?_)
  obtain ⟨rfl, q', u', b', E', Q', ms', D', K', A', hG2, hR, -⟩ := hq
  exact ⟨D', rfl, CP.gr hG2, hG2.2.2.2.2.2, hR⟩
theorem cp_131 {L : Nat} {xs : Nat → Int32} {fr lo : Nat} {s0 n nn gg : Nat} {C : Int32} {f : Nat → Int32} {h : ax_H} {D : Nat → Nat → Nat → Int32} {x y0 : Int32} (hfr : 10 ≤ fr) (hlo : 350 ≤ lo) (hC : CG s0 n nn gg f) (hP : CP s0 n nn gg C f h D) : ax_M L xs 131 fr lo [.ref s0, .int x, .int y0] h (fun r h' => ∃ (y : Int32) (D' : Nat → Nat → Nat → Int32), r = some (.int y) ∧ CP s0 n nn gg C f h' D' ∧ SZ (n + 329 + 22 * nn) h h' ∧ GR nn D D' ∧ y = (if x < 1 ∨ ¬ x ≤ 500 then -1 else x)) := by
  have hC0 := hC
  obtain ⟨hs0, hsn, hnn3, hnn, hgg1, hgg, hRg⟩ := hC
  obtain ⟨Z, q, u, b, E, TK, Q, ms, K, A, hG⟩ := hP
  refine ax_A.post (g_131 hfr hlo hC0 hG) (fun r h' hq => ?_)
  rcases hq with ⟨hx, rfl, q', u', b', E', Q', ms', D', K', A', hG2, hR, -⟩ | ⟨x1, x2, rfl, q', u', b', E', Q', ms', D', K', A', hG2, hR, -⟩
  · exact ⟨_, D', rfl, CP.gr hG2, hG2.2.2.2.2.2, hR, (if_pos hx).symm⟩
  · exact ⟨_, D', rfl, CP.gr hG2, hG2.2.2.2.2.2, hR, (if_neg (fun z => z.elim x1 (fun z => z x2))).symm⟩
theorem cp_132 {L : Nat} {xs : Nat → Int32} {fr lo : Nat} {s0 n nn gg : Nat} {C : Int32} {f : Nat → Int32} {h : ax_H} {D : Nat → Nat → Nat → Int32} {x : Int32} (hfr : 10 ≤ fr) (hlo : 350 ≤ lo) (hC : CG s0 n nn gg f) (hP : CP s0 n nn gg C f h D) : ax_M L xs 132 fr lo [.ref s0, .int x] h (fun r h' => ∃ (y : Int32) (D' : Nat → Nat → Nat → Int32), r = some (.int y) ∧ CP s0 n nn gg C f h' D' ∧ SZ (n + 329 + 22 * nn) h h' ∧ GR nn D D' ∧ y = (if x < 1 ∨ ¬ x ≤ 50 then -1 else x)) := by
  have hC0 := hC
  obtain ⟨hs0, hsn, hnn3, hnn, hgg1, hgg, hRg⟩ := hC
  obtain ⟨Z, q, u, b, E, TK, Q, ms, K, A, hG⟩ := hP
  refine ax_A.post (g_132 hfr hlo hC0 hG) (fun r h' hq => ?_)
  rcases hq with ⟨hx, rfl, q', u', b', E', Q', ms', D', K', A', hG2, hR, -⟩ | ⟨x1, x2, rfl, q', u', b', E', Q', ms', D', K', A', hG2, hR, -⟩
  · exact ⟨_, D', rfl, CP.gr hG2, hG2.2.2.2.2.2, hR, (if_pos hx).symm⟩
  · exact ⟨_, D', rfl, CP.gr hG2, hG2.2.2.2.2.2, hR, (if_neg (fun z => z.elim x1 (fun z => z x2))).symm⟩
theorem cp_141 {L : Nat} {xs : Nat → Int32} {fr lo : Nat} {s0 n nn gg : Nat} {C : Int32} {f : Nat → Int32} {h : ax_H} {D : Nat → Nat → Nat → Int32} {x y0 z : Int32} (hfr : 7 ≤ fr) (hlo : 220 ≤ lo) (hC : CG s0 n nn gg f) (hP : CP s0 n nn gg C f h D) : ax_M L xs 141 fr lo [.ref s0, .int x, .int y0, .int z] h (fun r h' => ∃ (y : Int32) (D' : Nat → Nat → Nat → Int32), r = some (.int y) ∧ CP s0 n nn gg C f h' D' ∧ SZ (n + 329 + 22 * nn) h h' ∧ (((x < 0 ∨ nI nn ≤ x ∨ ∃ j : Nat, j < nn ∧ x = nI j ∧ D j 0 6 = 0) ∧ y = 0 ∧ GR nn D D') ∨ (∃ j : Nat, j < nn ∧ x = nI j ∧ ¬ D j 0 6 = 0 ∧ y = 1 ∧ ∀ i, i < nn → D' i 0 6 = if i = j then 0 else D i 0 6))) := by
  have hC0 := hC
  obtain ⟨hs0, hsn, hnn3, hnn, hgg1, hgg, hRg⟩ := hC
  obtain ⟨Z, q, u, b, E, TK, Q, ms, K, A, hG⟩ := hP
  refine ax_A.post (g_141 hfr hlo hC0 hG) (fun r h' hq => ?_)
  rcases hq with ⟨hx, rfl, hG2⟩ | ⟨j, hj, rfl, hd, rfl, ms', D', K', A', hG2, hu, -⟩
  · exact ⟨_, _, rfl, CP.gr hG2, hG2.2.2.2.2.2, Or.inl ⟨hx, rfl, GR.rf⟩⟩
  · refine ⟨_, _, rfl, CP.gr hG2, hG2.2.2.2.2.2, Or.inr ⟨j, hj, rfl, hd, rfl, fun i hi => ?_⟩⟩
    by_cases z : i = j
    · rw [z, va_up_s, if_pos rfl]; exact hu
    · rw [va_up_n _ _ z, if_neg z]
theorem cp_144 {L : Nat} {xs : Nat → Int32} {fr lo : Nat} {s0 n nn gg : Nat} {C : Int32} {f : Nat → Int32} {h : ax_H} {D : Nat → Nat → Nat → Int32} {x : Int32} (hfr : 7 ≤ fr) (hlo : 220 ≤ lo) (hC : CG s0 n nn gg f) (hP : CP s0 n nn gg C f h D) : ax_M L xs 144 fr lo [.ref s0, .int x] h (fun r h' => ∃ (y : Int32) (D' : Nat → Nat → Nat → Int32), r = some (.int y) ∧ CP s0 n nn gg C f h' D' ∧ SZ (n + 329 + 22 * nn) h h' ∧ (((x < 0 ∨ nI nn ≤ x ∨ ∃ j : Nat, j < nn ∧ x = nI j ∧ ¬ D j 0 6 = 0) ∧ y = 0 ∧ GR nn D D') ∨ (∃ j : Nat, j < nn ∧ x = nI j ∧ D j 0 6 = 0 ∧ y = 1 ∧ ∀ i, i < nn → D' i 0 6 = if i = j then 1 else D i 0 6))) := by
  have hC0 := hC
  obtain ⟨hs0, hsn, hnn3, hnn, hgg1, hgg, hRg⟩ := hC
  obtain ⟨Z, q, u, b, E, TK, Q, ms, K, A, hG⟩ := hP
  refine ax_A.post (g_144 hfr hlo hC0 hG) (fun r h' hq => ?_)
  rcases hq with ⟨hx, rfl, hG2⟩ | ⟨j, hj, rfl, hd, rfl, ms', D', K', A', hG2, hu, -⟩
  · exact ⟨_, _, rfl, CP.gr hG2, hG2.2.2.2.2.2, Or.inl ⟨hx, rfl, GR.rf⟩⟩
  · refine ⟨_, _, rfl, CP.gr hG2, hG2.2.2.2.2.2, Or.inr ⟨j, hj, rfl, hd, rfl, fun i hi => ?_⟩⟩
    by_cases z : i = j
    · rw [z, va_up_s, if_pos rfl]; exact hu
    · rw [va_up_n _ _ z, if_neg z]
theorem cp_145 {L : Nat} {xs : Nat → Int32} {fr lo : Nat} {s0 n nn gg : Nat} {C : Int32} {f : Nat → Int32} {h : ax_H} {D : Nat → Nat → Nat → Int32} {x : Int32} (hfr : 4 ≤ fr) (hlo : 120 ≤ lo) (hC : CG s0 n nn gg f) (hP : CP s0 n nn gg C f h D) : ax_M L xs 145 fr lo [.ref s0, .int x] h (fun r h' => ∃ (y : Int32) (D' : Nat → Nat → Nat → Int32), r = some (.int y) ∧ CP s0 n nn gg C f h' D' ∧ SZ (n + 329 + 22 * nn) h h' ∧ GR nn D D') := by
  have hC0 := hC
  obtain ⟨hs0, hsn, hnn3, hnn, hgg1, hgg, hRg⟩ := hC
  obtain ⟨Z, q, u, b, E, TK, Q, ms, K, A, hG⟩ := hP
  refine ax_A.post (g_145 hfr hlo hC0 hG) (fun r h' hq => ?_)
  obtain ⟨rfl, ms', hG2, -⟩ := hq
  exact ⟨_, _, rfl, CP.gr hG2, hG2.2.2.2.2.2, GR.rf⟩
theorem cp_148 {L : Nat} {xs : Nat → Int32} {fr lo : Nat} {s0 n nn gg : Nat} {C : Int32} {f : Nat → Int32} {h : ax_H} {D : Nat → Nat → Nat → Int32} {x : Int32} (hfr : 4 ≤ fr) (hlo : 120 ≤ lo) (hC : CG s0 n nn gg f) (hP : CP s0 n nn gg C f h D) : ax_M L xs 148 fr lo [.ref s0, .int x] h (fun r h' => ∃ (y : Int32) (D' : Nat → Nat → Nat → Int32), r = some (.int y) ∧ CP s0 n nn gg C f h' D' ∧ SZ (n + 329 + 22 * nn) h h' ∧ GR nn D D') := by
  have hC0 := hC
  obtain ⟨hs0, hsn, hnn3, hnn, hgg1, hgg, hRg⟩ := hC
  obtain ⟨Z, q, u, b, E, TK, Q, ms, K, A, hG⟩ := hP
  refine ax_A.post (g_148 hfr hlo hC0 hG) (fun r h' hq => ?_)
  rcases hq with ⟨-, rfl, hG2⟩ | ⟨j, hj, rfl, hd, -, rfl, ms', hG2, -⟩
  · exact ⟨_, _, rfl, CP.gr hG2, hG2.2.2.2.2.2, GR.rf⟩
  · exact ⟨_, _, rfl, CP.gr hG2, hG2.2.2.2.2.2, fun i hi => upk rfl⟩
theorem cp_150 {L : Nat} {xs : Nat → Int32} {fr lo : Nat} {s0 n nn gg : Nat} {C : Int32} {f : Nat → Int32} {h : ax_H} {D : Nat → Nat → Nat → Int32}  (hfr : 10 ≤ fr) (hlo : 350 ≤ lo) (hC : CG s0 n nn gg f) (hP : CP s0 n nn gg C f h D) : ax_M L xs 150 fr lo [.ref s0] h (fun r h' => ∃ (y : Int32) (D' : Nat → Nat → Nat → Int32), r = some (.int y) ∧ CP s0 n nn gg C f h' D' ∧ SZ (n + 329 + 22 * nn) h h' ∧ allU nn D') := by
  have hC0 := hC
  obtain ⟨hs0, hsn, hnn3, hnn, hgg1, hgg, hRg⟩ := hC
  obtain ⟨Z, q, u, b, E, TK, Q, ms, K, A, hG⟩ := hP
  refine ax_A.post (g_150 hfr hlo hC0 hG) (fun r h' hq => ?_)
  obtain ⟨y, q', u', b', E', TK', Q', ms', D', K', A', rfl, -, hG2, hU⟩ := hq
  exact ⟨_, _, rfl, CP.gr hG2, hG2.2.2.2.2.2, hU⟩
theorem cp_160 {L : Nat} {xs : Nat → Int32} {fr lo : Nat} {s0 n nn gg : Nat} {C : Int32} {f : Nat → Int32} {h : ax_H} {D : Nat → Nat → Nat → Int32} {x : Int32} (hfr : 0 ≤ fr) (hlo : 0 ≤ lo) (hC : CG s0 n nn gg f) (hP : CP s0 n nn gg C f h D) : ax_M L xs 160 fr lo [.ref s0, .int x] h (fun r h' => ∃ (y : Int32) (D' : Nat → Nat → Nat → Int32), r = some (.int y) ∧ CP s0 n nn gg C f h' D' ∧ SZ (n + 329 + 22 * nn) h h' ∧ GR nn D D') := by
  have hC0 := hC
  obtain ⟨hs0, hsn, hnn3, hnn, hgg1, hgg, hRg⟩ := hC
  obtain ⟨Z, q, u, b, E, TK, Q, ms, K, A, hG⟩ := hP
  refine ax_A.post (g_160 hfr hlo hC0 hG) (fun r h' hq => ?_)
  obtain ⟨rfl, rfl⟩ := hq
  exact ⟨_, _, rfl, CP.gr hG, SZ.rf, GR.rf⟩
theorem cp_161 {L : Nat} {xs : Nat → Int32} {fr lo : Nat} {s0 n nn gg : Nat} {C : Int32} {f : Nat → Int32} {h : ax_H} {D : Nat → Nat → Nat → Int32} {x y0 : Int32} (hfr : 1 ≤ fr) (hlo : 40 ≤ lo) (hC : CG s0 n nn gg f) (hP : CP s0 n nn gg C f h D) : ax_M L xs 161 fr lo [.ref s0, .int x, .int y0] h (fun r h' => ∃ (y : Int32) (D' : Nat → Nat → Nat → Int32), r = some (.int y) ∧ CP s0 n nn gg C f h' D' ∧ SZ (n + 329 + 22 * nn) h h' ∧ GR nn D D') := by
  have hC0 := hC
  obtain ⟨hs0, hsn, hnn3, hnn, hgg1, hgg, hRg⟩ := hC
  obtain ⟨Z, q, u, b, E, TK, Q, ms, K, A, hG⟩ := hP
  refine ax_A.post (g_161 hfr hlo hC0 hG) (fun r h' hq => ?_)
  obtain ⟨rfl, rfl⟩ := hq
  exact ⟨_, _, rfl, CP.gr hG, SZ.rf, GR.rf⟩
theorem cp_163 {L : Nat} {xs : Nat → Int32} {fr lo : Nat} {s0 n nn gg : Nat} {C : Int32} {f : Nat → Int32} {h : ax_H} {D : Nat → Nat → Nat → Int32} {x y0 : Int32} (hfr : 1 ≤ fr) (hlo : 40 ≤ lo) (hC : CG s0 n nn gg f) (hP : CP s0 n nn gg C f h D) : ax_M L xs 163 fr lo [.ref s0, .int x, .int y0] h (fun r h' => ∃ (y : Int32) (D' : Nat → Nat → Nat → Int32), r = some (.int y) ∧ CP s0 n nn gg C f h' D' ∧ SZ (n + 329 + 22 * nn) h h' ∧ GR nn D D') := by
  have hC0 := hC
  obtain ⟨hs0, hsn, hnn3, hnn, hgg1, hgg, hRg⟩ := hC
  obtain ⟨Z, q, u, b, E, TK, Q, ms, K, A, hG⟩ := hP
  refine ax_A.post (g_163 hfr hlo hC0 hG) (fun r h' hq => ?_)
  obtain ⟨rfl, rfl⟩ := hq
  exact ⟨_, _, rfl, CP.gr hG, SZ.rf, GR.rf⟩
theorem cp_164 {L : Nat} {xs : Nat → Int32} {fr lo : Nat} {s0 n nn gg : Nat} {C : Int32} {f : Nat → Int32} {h : ax_H} {D : Nat → Nat → Nat → Int32} {x y0 z : Int32} (hfr : 2 ≤ fr) (hlo : 70 ≤ lo) (hC : CG s0 n nn gg f) (hP : CP s0 n nn gg C f h D) : ax_M L xs 164 fr lo [.ref s0, .int x, .int y0, .int z] h (fun r h' => ∃ (y : Int32) (D' : Nat → Nat → Nat → Int32), r = some (.int y) ∧ CP s0 n nn gg C f h' D' ∧ SZ (n + 329 + 22 * nn) h h' ∧ GR nn D D') := by
  have hC0 := hC
  obtain ⟨hs0, hsn, hnn3, hnn, hgg1, hgg, hRg⟩ := hC
  obtain ⟨Z, q, u, b, E, TK, Q, ms, K, A, hG⟩ := hP
  refine ax_A.post (g_164 hfr hlo hC0 hG) (fun r h' hq => ?_)
  obtain ⟨rfl, rfl⟩ := hq
  exact ⟨_, _, rfl, CP.gr hG, SZ.rf, GR.rf⟩
theorem cp_166 {L : Nat} {xs : Nat → Int32} {fr lo : Nat} {s0 n nn gg : Nat} {C : Int32} {f : Nat → Int32} {h : ax_H} {D : Nat → Nat → Nat → Int32} {x y0 z v : Int32} (hfr : 3 ≤ fr) (hlo : 110 ≤ lo) (hC : CG s0 n nn gg f) (hP : CP s0 n nn gg C f h D) : ax_M L xs 166 fr lo [.ref s0, .int x, .int y0, .int z, .int v] h (fun r h' => ∃ (y : Int32) (D' : Nat → Nat → Nat → Int32), r = some (.int y) ∧ CP s0 n nn gg C f h' D' ∧ SZ (n + 329 + 22 * nn) h h' ∧ GR nn D D') := by
  have hC0 := hC
  obtain ⟨hs0, hsn, hnn3, hnn, hgg1, hgg, hRg⟩ := hC
  obtain ⟨Z, q, u, b, E, TK, Q, ms, K, A, hG⟩ := hP
  refine ax_A.post (g_166 hfr hlo hC0 hG) (fun r h' hq => ?_)
  obtain ⟨rfl, rfl⟩ := hq
  exact ⟨_, _, rfl, CP.gr hG, SZ.rf, GR.rf⟩
theorem cp_172 {L : Nat} {xs : Nat → Int32} {fr lo : Nat} {s0 n nn gg : Nat} {C : Int32} {f : Nat → Int32} {h : ax_H} {D : Nat → Nat → Nat → Int32} {x : Int32} (hfr : 1 ≤ fr) (hlo : 40 ≤ lo) (hC : CG s0 n nn gg f) (hP : CP s0 n nn gg C f h D) : ax_M L xs 172 fr lo [.ref s0, .int x] h (fun r h' => ∃ (y : Int32) (D' : Nat → Nat → Nat → Int32), r = some (.int y) ∧ CP s0 n nn gg C f h' D' ∧ SZ (n + 329 + 22 * nn) h h' ∧ GR nn D D') := by
  have hC0 := hC
  obtain ⟨hs0, hsn, hnn3, hnn, hgg1, hgg, hRg⟩ := hC
  obtain ⟨Z, q, u, b, E, TK, Q, ms, K, A, hG⟩ := hP
  refine ax_A.post (g_172 hfr hlo hC0 hG) (fun r h' hq => ?_)
  obtain ⟨rfl, rfl⟩ := hq
  exact ⟨_, _, rfl, CP.gr hG, SZ.rf, GR.rf⟩
theorem cp_167 {L : Nat} {xs : Nat → Int32} {fr lo : Nat} {s0 n nn gg : Nat} {C : Int32} {f : Nat → Int32} {h : ax_H} {D : Nat → Nat → Nat → Int32} {x : Int32} (hfr : 1 ≤ fr) (hlo : 40 ≤ lo) (hC : CG s0 n nn gg f) (hP : CP s0 n nn gg C f h D) : ax_M L xs 167 fr lo [.ref s0, .int x] h (fun r h' => ∃ (y : Int32) (D' : Nat → Nat → Nat → Int32), r = some (.int y) ∧ CP s0 n nn gg C f h' D' ∧ SZ (n + 329 + 22 * nn) h h' ∧ GR nn D D') := by
  have hC0 := hC
  obtain ⟨hs0, hsn, hnn3, hnn, hgg1, hgg, hRg⟩ := hC
  obtain ⟨Z, q, u, b, E, TK, Q, ms, K, A, hG⟩ := hP
  refine ax_A.post (g_167 hfr hlo hC0 hG) (fun r h' hq => ?_)
  obtain ⟨y, rfl, rfl⟩ := hq
  exact ⟨_, _, rfl, CP.gr hG, SZ.rf, GR.rf⟩
theorem cp_169 {L : Nat} {xs : Nat → Int32} {fr lo : Nat} {s0 n nn gg : Nat} {C : Int32} {f : Nat → Int32} {h : ax_H} {D : Nat → Nat → Nat → Int32}  (hfr : 3 ≤ fr) (hlo : 130 ≤ lo) (hC : CG s0 n nn gg f) (hP : CP s0 n nn gg C f h D) : ax_M L xs 169 fr lo [.ref s0] h (fun r h' => ∃ (y : Int32) (D' : Nat → Nat → Nat → Int32), r = some (.int y) ∧ CP s0 n nn gg C f h' D' ∧ SZ (n + 329 + 22 * nn) h h' ∧ GR nn D D') := by
  have hC0 := hC
  obtain ⟨hs0, hsn, hnn3, hnn, hgg1, hgg, hRg⟩ := hC
  obtain ⟨Z, q, u, b, E, TK, Q, ms, K, A, hG⟩ := hP
  refine ax_A.post (g_169 hfr hlo hC0 hG) (fun r h' hq => ?_)
  obtain ⟨y, sf, hv, rfl, hG2⟩ := hq
  exact ⟨_, _, rfl, CP.gr hG2, hG2.2.2.2.2.2, GR.rf⟩
def RI (nn cc gg cl AL : Nat) (M : Nat → Nat → Int32) : Prop := (M 0 0 = nI nn ∧ M 0 1 = nI cc ∧ M 0 2 = nI gg) ∧ inR 2049 (M 0 9) ∧ (inR 201 (M 11 0) ∧ inR 201 (M 11 1)) ∧ FLM M ∧ (∃ op wt : Nat, M 0 25 = nI op ∧ M 0 26 = nI wt ∧ wt ≤ 12 ∧ wt ≤ op ∧ op ≤ cl ∧ op ≤ AL + wt ∧ ∀ w, w < wt → OPI w M) ∧ (∃ tc : Nat, M 0 38 = nI tc ∧ tc ≤ 12) ∧ (∀ x, x < 12 → inR 2049 (M 36 x)) ∧ (M 0 7 = 0 ∨ M 0 7 = 1) ∧ AOK AL
def RP (nn cc gg cl m p : Nat) (h : ax_H) (al AL : Nat) (M : Nat → Nat → Int32) : Prop := RS m p al AL h h M ∧ RC m p al ∧ RI nn cc gg cl AL M
theorem RI.up {nn cc gg cl cl' AL : Nat} {M : Nat → Nat → Int32} (h : RI nn cc gg cl AL M) (hc : cl ≤ cl') : RI nn cc gg cl' AL M := by
  obtain ⟨h1, h2, h3, h4, ⟨op, wt, a1, a2, a3, a4, a5, a6⟩, h6⟩ := h
  exact ⟨h1, h2, h3, h4, ⟨op, wt, a1, a2, a3, a4, by omega, a6⟩, h6⟩
/-- only fields that nothing hangs on -/
theorem RI.f0 {nn cc gg cl AL : Nat} {M M' : Nat → Nat → Int32} (h : RI nn cc gg cl AL M) (e : ∀ k, k = 0 ∨ k = 1 ∨ k = 2 ∨ k = 20 ∨ k = 21 ∨ k = 25 ∨ k = 26 ∨ k = 38 → M' 0 k = M 0 k) (ea : ∀ k, k ≠ 0 → k ≠ 8 → k ≠ 10 → k ≠ 11 → M' k = M k) (e9 : inR 2049 (M' 0 9)) (e11 : inR 201 (M' 11 0) ∧ inR 201 (M' 11 1)) (e7 : M' 0 7 = 0 ∨ M' 0 7 = 1) : RI nn cc gg cl AL M' := by
  obtain ⟨⟨h0, h1, h2⟩, -, -, ⟨c, to, f1, f2, f3⟩, ⟨op, wt, a1, a2, a3, a4, a5, a6, a7⟩, ⟨tc, t1, t2⟩, h7, -, h9⟩ := h
  refine ⟨⟨(e 0 (by omega)).trans h0, (e 1 (by omega)).trans h1, (e 2 (by omega)).trans h2⟩, e9, e11, ⟨c, to, (e 20 (by omega)).trans f1, (e 21 (by omega)).trans f2, ?_⟩, ⟨op, wt, (e 25 (by omega)).trans a1, (e 26 (by omega)).trans a2, a3, a4, a5, a6, fun w hw => ?_⟩, ⟨tc, (e 38 (by omega)).trans t1, t2⟩, ?_, e7, h9⟩
  · rw [ea 12 (by decide) (by decide) (by decide) (by decide), ea 13 (by decide) (by decide) (by decide) (by decide), ea 15 (by decide) (by decide) (by decide) (by decide), ea 16 (by decide) (by decide) (by decide) (by decide), ea 17 (by decide) (by decide) (by decide) (by decide)]
    exact f3
  · have := a7 w hw
    unfold OPI
    rw [ea 27 (by decide) (by decide) (by decide) (by decide), ea 28 (by decide) (by decide) (by decide) (by decide), ea 29 (by decide) (by decide) (by decide) (by decide), ea 31 (by decide) (by decide) (by decide) (by decide), ea 33 (by decide) (by decide) (by decide) (by decide)]
    exact this
  · rw [ea 36 (by decide) (by decide) (by decide) (by decide)]
    exact h7
theorem ea0 {M : Nat → Nat → Int32} {g : Nat → Int32} : ∀ k, k ≠ 0 → k ≠ 8 → k ≠ 10 → k ≠ 11 → va_up M 0 g k = M k := fun k h _ _ _ => va_up_n _ _ h
theorem RI.calm {nn cc gg cl AL : Nat} {M : Nat → Nat → Int32} (h : RI nn cc gg cl AL M) : RI nn cc gg cl AL (va_up M 0 (upd (M 0) 7 0)) := h.f0 (fun k hk => by show upd (M 0) 7 0 k = _; exact pk_un (by omega)) ea0 h.2.1 h.2.2.1 (Or.inl rfl)
theorem RI.len {nn cc gg cl AL : Nat} {M : Nat → Nat → Int32} (h : RI nn cc gg cl AL M) : ∃ l : Nat, l ≤ 2048 ∧ M 0 9 = nI l := by
  obtain ⟨l, hl, e⟩ := h.2.1
  exact ⟨l, by omega, e⟩
def SZr (m AL : Nat) (h h' : ax_H) (AL' : Nat) : Prop := ax_fr (fun x => m ≤ x) h h' ∧ h'.1 + AL ≤ h.1 + AL' ∧ h'.2.1 + 2 * AL = h.2.1 + 2 * AL'
theorem RS.szr {m p al AL : Nat} {h h' : ax_H} {M : Nat → Nat → Int32} (hS : RS m p al AL h h' M) : SZr m AL h h' AL := ⟨hS.2.1, by have := hS.2.2.1; omega, by have := hS.2.2.2.1; omega⟩
theorem RS.self {m p al AL : Nat} {h0 h : ax_H} {M : Nat → Nat → Int32} (hS : RS m p al AL h0 h M) : RS m p al AL h h M := ⟨hS.1, ax_fr.rf, rfl, rfl, by have := hS.2.2.1; have := hS.2.2.2.2; omega⟩
theorem ptM_k {M : Nat → Nat → Int32} {l k : Nat} {x : Int32} (h0 : k ≠ 0) (h8 : k ≠ 8) : ptM M l x k = M k := by
  unfold ptM
  rw [va_up_n _ _ h8, va_up_n _ _ h0]
theorem fdM_k {M : Nat → Nat → Int32} {l k : Nat} {a b c d e : Int32} (h0 : k ≠ 0) (h8 : k ≠ 8) : fdM M l a b c d e k = M k := by
  unfold fdM
  rw [ptM_k h0 h8, ptM_k h0 h8, ptM_k h0 h8, ptM_k h0 h8, ptM_k h0 h8]
theorem rp_176 {L : Nat} {xs : Nat → Int32} {fr lo : Nat} {nn cc gg cl m p al AL : Nat} {h : ax_H} {M : Nat → Nat → Int32} {xa xb xc xd xe : Int32} (hfr : 1 ≤ fr) (hlo : 40 ≤ lo) (hcc : cc ≤ nn) (hnn : nn ≤ 6) (hgg1 : 1 ≤ gg) (hgg : gg ≤ 16) (hcl : cl < 512) (hP : RP nn cc gg cl m p h al AL M) : ax_M L xs 176 fr lo [.ref m, .int xa, .int xb, .int xc, .int xd, .int xe] h (fun r h' => ∃ (y : Int32) (al' AL' : Nat) (M' : Nat → Nat → Int32), r = some (.int y) ∧ RP nn cc gg (cl + 1) m p h' al' AL' M' ∧ SZr m AL h h' AL' ∧ M' 0 3 = M 0 3) := by
  obtain ⟨hS, hC, hI⟩ := hP
  have hI1 := hI.up (Nat.le_succ cl)
  obtain ⟨l, hl, e9⟩ := hI.len
  refine ax_A.post (r_176 hfr hlo hC hS e9 hl) (fun r h' hq => ?_)
  rcases hq with ⟨-, rfl, hS2⟩ | ⟨h20, rfl, hS2⟩
  · exact ⟨_, _, _, _, rfl, ⟨hS2.self, hC, hI1⟩, hS2.szr, rfl⟩
  · exact ⟨_, _, _, _, rfl, ⟨hS2.self, hC, hI1.f0 (M' := fdM M l xa xb xc xd xe) (fun k hk => by rcases hk with rfl | rfl | rfl | rfl | rfl | rfl | rfl | rfl <;> rfl) (fun k k0 k8 _ _ => fdM_k k0 k8) ⟨l + 20, by omega, rfl⟩ hI1.2.2.1 hI1.2.2.2.2.2.2.2.1⟩, hS2.szr, rfl⟩
theorem rp_178 {L : Nat} {xs : Nat → Int32} {fr lo : Nat} {nn cc gg cl m p al AL : Nat} {h : ax_H} {M : Nat → Nat → Int32} {x : Int32} (hfr : 0 ≤ fr) (hlo : 0 ≤ lo) (hcc : cc ≤ nn) (hnn : nn ≤ 6) (hgg1 : 1 ≤ gg) (hgg : gg ≤ 16) (hcl : cl < 512) (hP : RP nn cc gg cl m p h al AL M) : ax_M L xs 178 fr lo [.ref m, .int x] h (fun r h' => ∃ (y : Int32) (al' AL' : Nat) (M' : Nat → Nat → Int32), r = some (.int y) ∧ RP nn cc gg (cl + 1) m p h' al' AL' M' ∧ SZr m AL h h' AL' ∧ M' 0 3 = M 0 3) := by
  obtain ⟨hS, hC, hI⟩ := hP
  have hI1 := hI.up (Nat.le_succ cl)
  obtain ⟨l, hl, e9⟩ := hI.len
  refine ax_A.post (r_178 hfr hlo hC hS e9 hl) (fun r h' hq => ?_)
  rcases hq with ⟨-, rfl, hS2⟩ | ⟨x1, x2, rfl, hS2⟩
  · exact ⟨_, _, _, _, rfl, ⟨hS2.self, hC, hI1⟩, hS2.szr, rfl⟩
  · obtain ⟨j, hj, rfl⟩ := natOf x1
    exact ⟨_, _, _, _, rfl, ⟨hS2.self, hC, hI1.f0 (fun k hk => by show upd (M 0) 9 _ k = _; exact pk_un (by omega)) ea0 ⟨j, by have := (nI_leI hj (show l < 2 ^ 31 by omega)).mp x2; omega, rfl⟩ hI1.2.2.1 hI1.2.2.2.2.2.2.2.1⟩, hS2.szr, rfl⟩
theorem rp_179 {L : Nat} {xs : Nat → Int32} {fr lo : Nat} {nn cc gg cl m p al AL : Nat} {h : ax_H} {M : Nat → Nat → Int32} {x : Int32} (hfr : 0 ≤ fr) (hlo : 0 ≤ lo) (hcc : cc ≤ nn) (hnn : nn ≤ 6) (hgg1 : 1 ≤ gg) (hgg : gg ≤ 16) (hcl : cl < 512) (hP : RP nn cc gg cl m p h al AL M) : ax_M L xs 179 fr lo [.ref m, .int x] h (fun r h' => ∃ (y : Int32) (al' AL' : Nat) (M' : Nat → Nat → Int32), r = some (.int y) ∧ RP nn cc gg (cl + 1) m p h' al' AL' M' ∧ SZr m AL h h' AL' ∧ M' 0 3 = M 0 3) := by
  obtain ⟨hS, hC, hI⟩ := hP
  have hI1 := hI.up (Nat.le_succ cl)
  obtain ⟨l, hl, e9⟩ := hI.len
  refine ax_A.post (r_179 hfr hlo hC hS e9 hl) (fun r h' hq => ?_)
  rcases hq with ⟨-, rfl, hS2⟩ | ⟨k, hk, hl2, rfl, rfl, hS2⟩
  · exact ⟨_, _, _, _, rfl, ⟨hS2.self, hC, hI1⟩, hS2.szr, rfl⟩
  · have hn : ∀ j, inR 201 (M 11 j) → inR 201 (nmM M k l 11 j) := fun j h1 => by
      show inR 201 (upd (M 11) k (nI l) j)
      by_cases z : j = k
      · rw [z, pk_us]; exact ⟨l, by omega, rfl⟩
      · rw [pk_un z]; exact h1
    exact ⟨_, _, _, _, rfl, ⟨hS2.self, hC, hI1.f0 (M' := nmM M k l) (fun k hk => by show upd (M 0) 9 _ k = _; exact pk_un (by omega)) (fun k k0 k8 k10 k11 => by unfold nmM; rw [va_up_n _ _ k11, va_up_n _ _ k10, va_up_n _ _ k0]) ⟨0, by decide, rfl⟩ ⟨hn 0 hI1.2.2.1.1, hn 1 hI1.2.2.1.2⟩ hI1.2.2.2.2.2.2.2.1⟩, hS2.szr, rfl⟩
theorem RI.bg {nn cc gg cl AL wt op l : Nat} {M : Nat → Nat → Int32} {k a b : Int32} (h : RI nn cc gg cl AL M) (hop : op < 2 ^ 31) (e25 : M 0 25 = nI op) (e26 : M 0 26 = nI wt) (hw : wt < 12) (hl : l ≤ 2048) (hcl : cl < 512) (hm : mayA (M 11 0) (M 11 1) k a b) : RI nn cc gg (cl + 1) AL (bgM M wt op l k a b) := by
  obtain ⟨⟨h0, h1, h2⟩, h9, h11, ⟨c, to, f1, f2, f3⟩, ⟨op', wt', a1, a2, a3, a4, a5, a6, a7⟩, ⟨tc, t1, t2⟩, h7, -, hA⟩ := h
  have q1 : op = op' := nI_inj hop (by omega) (e25.symm.trans a1)
  subst q1
  have q2 : wt = wt' := nI_inj (by omega) (by omega) (e26.symm.trans a2)
  subst q2
  have g0 : ∀ j, ¬ j = 9 → ¬ j = 26 → ¬ j = 25 → ¬ j = 7 → bgM M wt op l k a b 0 j = M 0 j := fun j n9 n26 n25 n7 => by
    show upd (upd (upd (if k = 1 ∨ k = 2 then upd (M 0) 9 0 else M 0) 26 (nI (wt + 1))) 25 (nI (op + 1))) 7 0 j = _
    rw [pk_un n7, pk_un n25, pk_un n26]
    split
    · exact pk_un n9
    · rfl
  refine ⟨⟨(g0 0 (by decide) (by decide) (by decide) (by decide)).trans h0, (g0 1 (by decide) (by decide) (by decide) (by decide)).trans h1, (g0 2 (by decide) (by decide) (by decide) (by decide)).trans h2⟩, ?_, h11, ⟨c, to, (g0 20 (by decide) (by decide) (by decide) (by decide)).trans f1, (g0 21 (by decide) (by decide) (by decide) (by decide)).trans f2, f3⟩, ⟨op + 1, wt + 1, rfl, rfl, by omega, by omega, by omega, by omega, fun w hw2 => ?_⟩, ⟨tc, (g0 38 (by decide) (by decide) (by decide) (by decide)).trans t1, t2⟩, h7, Or.inl rfl, hA⟩
  · show inR 2049 (upd (upd (upd (if k = 1 ∨ k = 2 then upd (M 0) 9 0 else M 0) 26 (nI (wt + 1))) 25 (nI (op + 1))) 7 0 9)
    rw [pk_un (by decide), pk_un (by decide), pk_un (by decide)]
    split
    · exact ⟨0, by decide, rfl⟩
    · exact h9
  · by_cases z : w = wt
    · subst z
      obtain ⟨m1, m2, m3⟩ := hm.k
      show inR 10 (upd (M 27) w k w) ∧ (upd (M 27) w k w = 1 ∨ upd (M 27) w k w = 3 ∨ upd (M 27) w k w = 4 → inR 8193 (upd (M 28) w a w)) ∧ (upd (M 27) w k w = 4 → inR 2049 (upd (M 29) w b w)) ∧ inR 201 (upd (upd (M 31) (2 * w) (M 11 0)) (2 * w + 1) (M 11 1) (2 * w)) ∧ inR 201 (upd (upd (M 31) (2 * w) (M 11 0)) (2 * w + 1) (M 11 1) (2 * w + 1)) ∧ inR 2049 (upd (M 33) w (nI l) w)
      rw [pk_us, pk_us, pk_us, pk_us, pk_us, pk_un (by omega), pk_us]
      exact ⟨m1, m2, m3, h11.1, h11.2, l, by omega, rfl⟩
    · have := a7 w (by omega)
      show inR 10 (upd (M 27) wt k w) ∧ (upd (M 27) wt k w = 1 ∨ upd (M 27) wt k w = 3 ∨ upd (M 27) wt k w = 4 → inR 8193 (upd (M 28) wt a w)) ∧ (upd (M 27) wt k w = 4 → inR 2049 (upd (M 29) wt b w)) ∧ inR 201 (upd (upd (M 31) (2 * wt) (M 11 0)) (2 * wt + 1) (M 11 1) (2 * w)) ∧ inR 201 (upd (upd (M 31) (2 * wt) (M 11 0)) (2 * wt + 1) (M 11 1) (2 * w + 1)) ∧ inR 2049 (upd (M 33) wt (nI l) w)
      rw [pk_un z, pk_un z, pk_un z, pk_un z, pk_un (show ¬ 2 * w = 2 * wt + 1 by omega), pk_un (show ¬ 2 * w = 2 * wt by omega), pk_un (show ¬ 2 * w + 1 = 2 * wt + 1 by omega), pk_un (show ¬ 2 * w + 1 = 2 * wt by omega)]
      exact this
theorem rp_180 {L : Nat} {xs : Nat → Int32} {fr lo : Nat} {nn cc gg cl m p al AL : Nat} {h : ax_H} {M : Nat → Nat → Int32} {x y0 z : Int32} (hfr : 0 ≤ fr) (hlo : 0 ≤ lo) (hcc : cc ≤ nn) (hnn : nn ≤ 6) (hgg1 : 1 ≤ gg) (hgg : gg ≤ 16) (hcl : cl < 512) (hP : RP nn cc gg cl m p h al AL M) : ax_M L xs 180 fr lo [.ref m, .int x, .int y0, .int z] h (fun r h' => ∃ (y : Int32) (al' AL' : Nat) (M' : Nat → Nat → Int32), r = some (.int y) ∧ RP nn cc gg (cl + 1) m p h' al' AL' M' ∧ SZr m AL h h' AL' ∧ M' 0 3 = M 0 3) := by
  obtain ⟨hS, hC, hI⟩ := hP
  have hI1 := hI.up (Nat.le_succ cl)
  obtain ⟨l, hl, e9⟩ := hI.len
  obtain ⟨op, wt, a1, a2, a3, a4, a5, a6, a7⟩ := id hI.2.2.2.2.1
  refine ax_A.post (r_180 hfr hlo hC hS e9 hl a2 a3 a1 (by omega)) (fun r h' hq => ?_)
  rcases hq with ⟨-, rfl, hS2⟩ | ⟨-, -, rfl, hS2⟩ | ⟨hma, hw, rfl, hS2⟩
  · exact ⟨_, _, _, _, rfl, ⟨hS2.self, hC, hI1⟩, hS2.szr, rfl⟩
  · exact ⟨_, _, _, _, rfl, ⟨hS2.self, hC, hI1⟩, hS2.szr, rfl⟩
  · refine ⟨_, _, _, _, rfl, ⟨hS2.self, hC, hI.bg (by omega) a1 a2 (by omega) hl hcl hma⟩, hS2.szr, ?_⟩
    show upd (upd (upd (if x = 1 ∨ x = 2 then upd (M 0) 9 0 else M 0) 26 (nI (wt + 1))) 25 (nI (op + 1))) 7 0 3 = _
    rw [pk_un (by decide), pk_un (by decide), pk_un (by decide)]
    split <;> rfl
theorem rp_181 {L : Nat} {xs : Nat → Int32} {fr lo : Nat} {nn cc gg cl m p al AL : Nat} {h : ax_H} {M : Nat → Nat → Int32} {x : Int32} (hfr : 0 ≤ fr) (hlo : 0 ≤ lo) (hcc : cc ≤ nn) (hnn : nn ≤ 6) (hgg1 : 1 ≤ gg) (hgg : gg ≤ 16) (hcl : cl < 512) (hP : RP nn cc gg cl m p h al AL M) : ax_M L xs 181 fr lo [.ref m, .int x] h (fun r h' => ∃ (al' AL' : Nat) (M' : Nat → Nat → Int32), r = none ∧ RP nn cc gg (cl + 1) m p h' al' AL' M' ∧ SZr m AL h h' AL' ∧ M' 0 3 = M 0 3) := by
  obtain ⟨hS, hC, hI⟩ := hP
  have hI1 := hI.up (Nat.le_succ cl)
  refine ax_A.post (r_181 hfr hlo hC hS) (fun r h' hq => ?_)
  obtain ⟨rfl, hS2⟩ := hq
  exact ⟨_, _, _, rfl, ⟨hS2.self, hC, hI1.calm⟩, hS2.szr, rfl⟩
theorem rp_182 {L : Nat} {xs : Nat → Int32} {fr lo : Nat} {nn cc gg cl m p al AL : Nat} {h : ax_H} {M : Nat → Nat → Int32} {x : Int32} (hfr : 0 ≤ fr) (hlo : 0 ≤ lo) (hcc : cc ≤ nn) (hnn : nn ≤ 6) (hgg1 : 1 ≤ gg) (hgg : gg ≤ 16) (hcl : cl < 512) (hP : RP nn cc gg cl m p h al AL M) : ax_M L xs 182 fr lo [.ref m, .int x] h (fun r h' => ∃ (al' AL' : Nat) (M' : Nat → Nat → Int32), r = none ∧ RP nn cc gg (cl + 1) m p h' al' AL' M' ∧ SZr m AL h h' AL' ∧ M' 0 3 = M 0 3) := by
  obtain ⟨hS, hC, hI⟩ := hP
  have hI1 := hI.up (Nat.le_succ cl)
  refine ax_A.post (r_182 hfr hlo hC hS) (fun r h' hq => ?_)
  obtain ⟨rfl, hS2⟩ := hq
  exact ⟨_, _, _, rfl, ⟨hS2.self, hC, hI1.calm⟩, hS2.szr, rfl⟩
theorem rp_183 {L : Nat} {xs : Nat → Int32} {fr lo : Nat} {nn cc gg cl m p al AL : Nat} {h : ax_H} {M : Nat → Nat → Int32} {x : Int32} (hfr : 0 ≤ fr) (hlo : 0 ≤ lo) (hcc : cc ≤ nn) (hnn : nn ≤ 6) (hgg1 : 1 ≤ gg) (hgg : gg ≤ 16) (hcl : cl < 512) (hP : RP nn cc gg cl m p h al AL M) : ax_M L xs 183 fr lo [.ref m, .int x] h (fun r h' => ∃ (al' AL' : Nat) (M' : Nat → Nat → Int32), r = none ∧ RP nn cc gg (cl + 1) m p h' al' AL' M' ∧ SZr m AL h h' AL' ∧ M' 0 3 = M 0 3) := by
  obtain ⟨hS, hC, hI⟩ := hP
  have hI1 := hI.up (Nat.le_succ cl)
  refine ax_A.post (r_183 hfr hlo hC hS) (fun r h' hq => ?_)
  obtain ⟨rfl, hS2⟩ := hq
  exact ⟨_, _, _, rfl, ⟨hS2.self, hC, hI1.calm⟩, hS2.szr, rfl⟩
theorem rp_184 {L : Nat} {xs : Nat → Int32} {fr lo : Nat} {nn cc gg cl m p al AL : Nat} {h : ax_H} {M : Nat → Nat → Int32} {x y0 : Int32} (hfr : 0 ≤ fr) (hlo : 0 ≤ lo) (hcc : cc ≤ nn) (hnn : nn ≤ 6) (hgg1 : 1 ≤ gg) (hgg : gg ≤ 16) (hcl : cl < 512) (hP : RP nn cc gg cl m p h al AL M) : ax_M L xs 184 fr lo [.ref m, .int x, .int y0] h (fun r h' => ∃ (y : Int32) (al' AL' : Nat) (M' : Nat → Nat → Int32), r = some (.int y) ∧ RP nn cc gg (cl + 1) m p h' al' AL' M' ∧ SZr m AL h h' AL' ∧ M' 0 3 = M 0 3 ∧ y = (if x < 1 ∨ ¬ x ≤ 500 then -1 else x)) := by
  obtain ⟨hS, hC, hI⟩ := hP
  have hI1 := hI.up (Nat.le_succ cl)
  refine ax_A.post (r_184 hfr hlo hC hS) (fun r h' hq => ?_)
  rcases hq with ⟨hx, rfl, hS2⟩ | ⟨x1, x2, rfl, hS2⟩
  · exact ⟨_, _, _, _, rfl, ⟨hS2.self, hC, hI1⟩, hS2.szr, ⟨rfl, (if_pos hx).symm⟩⟩
  · exact ⟨_, _, _, _, rfl, ⟨hS2.self, hC, hI1.calm⟩, hS2.szr, ⟨rfl, (if_neg (fun z => z.elim x1 (fun z => z x2))).symm⟩⟩
theorem rp_185 {L : Nat} {xs : Nat → Int32} {fr lo : Nat} {nn cc gg cl m p al AL : Nat} {h : ax_H} {M : Nat → Nat → Int32} {x : Int32} (hfr : 0 ≤ fr) (hlo : 0 ≤ lo) (hcc : cc ≤ nn) (hnn : nn ≤ 6) (hgg1 : 1 ≤ gg) (hgg : gg ≤ 16) (hcl : cl < 512) (hP : RP nn cc gg cl m p h al AL M) : ax_M L xs 185 fr lo [.ref m, .int x] h (fun r h' => ∃ (y : Int32) (al' AL' : Nat) (M' : Nat → Nat → Int32), r = some (.int y) ∧ RP nn cc gg (cl + 1) m p h' al' AL' M' ∧ SZr m AL h h' AL' ∧ M' 0 3 = M 0 3 ∧ y = (if x < 1 ∨ ¬ x ≤ 50 then -1 else x)) := by
  obtain ⟨hS, hC, hI⟩ := hP
  have hI1 := hI.up (Nat.le_succ cl)
  refine ax_A.post (r_185 hfr hlo hC hS) (fun r h' hq => ?_)
  rcases hq with ⟨hx, rfl, hS2⟩ | ⟨x1, x2, rfl, hS2⟩
  · exact ⟨_, _, _, _, rfl, ⟨hS2.self, hC, hI1⟩, hS2.szr, ⟨rfl, (if_pos hx).symm⟩⟩
  · exact ⟨_, _, _, _, rfl, ⟨hS2.self, hC, hI1.calm⟩, hS2.szr, ⟨rfl, (if_neg (fun z => z.elim x1 (fun z => z x2))).symm⟩⟩
theorem rp_186 {L : Nat} {xs : Nat → Int32} {fr lo : Nat} {nn cc gg cl m p al AL : Nat} {h : ax_H} {M : Nat → Nat → Int32} {x y0 z : Int32} (hfr : 1 ≤ fr) (hlo : 40 ≤ lo) (hcc : cc ≤ nn) (hnn : nn ≤ 6) (hgg1 : 1 ≤ gg) (hgg : gg ≤ 16) (hcl : cl < 512) (hP : RP nn cc gg cl m p h al AL M) : ax_M L xs 186 fr lo [.ref m, .int x, .int y0, .int z] h (fun r h' => ∃ (y : Int32) (al' AL' : Nat) (M' : Nat → Nat → Int32), r = some (.int y) ∧ RP nn cc gg (cl + 1) m p h' al' AL' M' ∧ SZr m AL h h' AL' ∧ ((¬ upQ M x ∧ y = 0 ∧ M' 0 3 = M 0 3) ∨ (upQ M x ∧ y = 1 ∧ M' 0 3 = (M 0 3) ^^^ ((1 : Int32) <<< (x &&& 31))))) := by
  obtain ⟨hS, hC, hI⟩ := hP
  have hI1 := hI.up (Nat.le_succ cl)
  refine ax_A.post (r_186 hfr hlo hC hS) (fun r h' hq => ?_)
  rcases hq with ⟨hx, rfl, hS2⟩ | ⟨hx, rfl, hS2⟩
  · exact ⟨_, _, _, _, rfl, ⟨hS2.self, hC, hI1⟩, hS2.szr, Or.inl ⟨hx, rfl, rfl⟩⟩
  · exact ⟨_, _, _, _, rfl, ⟨hS2.self, hC, hI1.f0 (fun k hk => by show upd (upd (M 0) 3 _) 7 0 k = _; rw [pk_un (by omega), pk_un (by omega)]) ea0 hI1.2.1 hI1.2.2.1 (Or.inl rfl)⟩, hS2.szr, Or.inr ⟨hx, rfl, rfl⟩⟩
theorem rp_188 {L : Nat} {xs : Nat → Int32} {fr lo : Nat} {nn cc gg cl m p al AL : Nat} {h : ax_H} {M : Nat → Nat → Int32} {x : Int32} (hfr : 1 ≤ fr) (hlo : 40 ≤ lo) (hcc : cc ≤ nn) (hnn : nn ≤ 6) (hgg1 : 1 ≤ gg) (hgg : gg ≤ 16) (hcl : cl < 512) (hP : RP nn cc gg cl m p h al AL M) : ax_M L xs 188 fr lo [.ref m, .int x] h (fun r h' => ∃ (y : Int32) (al' AL' : Nat) (M' : Nat → Nat → Int32), r = some (.int y) ∧ RP nn cc gg (cl + 1) m p h' al' AL' M' ∧ SZr m AL h h' AL' ∧ ((¬ dnQ M x ∧ y = 0 ∧ M' 0 3 = M 0 3) ∨ (dnQ M x ∧ y = 1 ∧ M' 0 3 = (M 0 3) ^^^ ((1 : Int32) <<< (x &&& 31))))) := by
  obtain ⟨hS, hC, hI⟩ := hP
  have hI1 := hI.up (Nat.le_succ cl)
  refine ax_A.post (r_188 hfr hlo hC hS) (fun r h' hq => ?_)
  rcases hq with ⟨hx, rfl, hS2⟩ | ⟨hx, rfl, hS2⟩
  · exact ⟨_, _, _, _, rfl, ⟨hS2.self, hC, hI1⟩, hS2.szr, Or.inl ⟨hx, rfl, rfl⟩⟩
  · exact ⟨_, _, _, _, rfl, ⟨hS2.self, hC, hI1.f0 (fun k hk => by show upd (upd (M 0) 3 _) 7 0 k = _; rw [pk_un (by omega), pk_un (by omega)]) ea0 hI1.2.1 hI1.2.2.1 (Or.inl rfl)⟩, hS2.szr, Or.inr ⟨hx, rfl, rfl⟩⟩
theorem rp_190 {L : Nat} {xs : Nat → Int32} {fr lo : Nat} {nn cc gg cl m p al AL : Nat} {h : ax_H} {M : Nat → Nat → Int32} {x : Int32} (hfr : 0 ≤ fr) (hlo : 0 ≤ lo) (hcc : cc ≤ nn) (hnn : nn ≤ 6) (hgg1 : 1 ≤ gg) (hgg : gg ≤ 16) (hcl : cl < 512) (hP : RP nn cc gg cl m p h al AL M) : ax_M L xs 190 fr lo [.ref m, .int x] h (fun r h' => ∃ (y : Int32) (al' AL' : Nat) (M' : Nat → Nat → Int32), r = some (.int y) ∧ RP nn cc gg (cl + 1) m p h' al' AL' M' ∧ SZr m AL h h' AL' ∧ M' 0 3 = M 0 3) := by
  obtain ⟨hS, hC, hI⟩ := hP
  have hI1 := hI.up (Nat.le_succ cl)
  refine ax_A.post (r_190 hfr hlo hC hS) (fun r h' hq => ?_)
  obtain ⟨rfl, hS2⟩ := hq
  exact ⟨_, _, _, _, rfl, ⟨hS2.self, hC, hI1.f0 (fun k hk => by show upd (upd (upd (M 0) 4 _) 5 _) 7 0 k = _; rw [pk_un (by omega), pk_un (by omega), pk_un (by omega)]) ea0 hI1.2.1 hI1.2.2.1 (Or.inl rfl)⟩, hS2.szr, rfl⟩
theorem rp_191 {L : Nat} {xs : Nat → Int32} {fr lo : Nat} {nn cc gg cl m p al AL : Nat} {h : ax_H} {M : Nat → Nat → Int32} {x : Int32} (hfr : 1 ≤ fr) (hlo : 40 ≤ lo) (hcc : cc ≤ nn) (hnn : nn ≤ 6) (hgg1 : 1 ≤ gg) (hgg : gg ≤ 16) (hcl : cl < 512) (hP : RP nn cc gg cl m p h al AL M) : ax_M L xs 191 fr lo [.ref m, .int x] h (fun r h' => ∃ (y : Int32) (al' AL' : Nat) (M' : Nat → Nat → Int32), r = some (.int y) ∧ RP nn cc gg (cl + 1) m p h' al' AL' M' ∧ SZr m AL h h' AL' ∧ M' 0 3 = M 0 3) := by
  obtain ⟨hS, hC, hI⟩ := hP
  have hI1 := hI.up (Nat.le_succ cl)
  refine ax_A.post (r_191 hfr hlo hC hS) (fun r h' hq => ?_)
  rcases hq with ⟨-, rfl, hS2⟩ | ⟨-, -, rfl, hS2⟩
  · exact ⟨_, _, _, _, rfl, ⟨hS2.self, hC, hI1⟩, hS2.szr, rfl⟩
  · exact ⟨_, _, _, _, rfl, ⟨hS2.self, hC, hI1.f0 (fun k hk => by show upd (upd (upd (M 0) 6 _) 5 _) 7 0 k = _; rw [pk_un (by omega), pk_un (by omega), pk_un (by omega)]) ea0 hI1.2.1 hI1.2.2.1 (Or.inl rfl)⟩, hS2.szr, rfl⟩
theorem rp_192 {L : Nat} {xs : Nat → Int32} {fr lo : Nat} {nn cc gg cl m p al AL : Nat} {h : ax_H} {M : Nat → Nat → Int32}  (hfr : 6 ≤ fr) (hlo : 210 ≤ lo) (hcc : cc ≤ nn) (hnn : nn ≤ 6) (hgg1 : 1 ≤ gg) (hgg : gg ≤ 16) (hcl : cl < 512) (hP : RP nn cc gg cl m p h al AL M) : ax_M L xs 192 fr lo [.ref m] h (fun r h' => ∃ (y : Int32) (al' AL' : Nat) (M' : Nat → Nat → Int32), r = some (.int y) ∧ RP nn cc gg (cl + 1) m p h' al' AL' M' ∧ SZr m AL h h' AL' ∧ M' 0 3 = allN nn) := by
  obtain ⟨hS, hC, hI⟩ := hP
  have hI1 := hI.up (Nat.le_succ cl)
  obtain ⟨⟨h0, h1, h2⟩, h9, h11, hF, ⟨op, wt, a1, a2, a3, a4, a5, a6, a7⟩, ht, h36, h7, hA⟩ := hI
  refine ax_A.post (r_192 hfr hlo hC hS h0 a1 a2 a4 (by omega) a3 a6 hA hF h36 a7) (fun r h' hq => ?_)
  obtain ⟨al', AL', M', rfl, hC2, hR, hA2, hop, hF2, h362, s1, s2, s3, s4, s5, s6, s7, s8, s9, s10, s11, s12, -, -⟩ := hq
  refine ⟨_, al', AL', M', rfl, ⟨hR.rs, hC2, ⟨(s1 0 (by omega)).trans h0, (s1 1 (by omega)).trans h1, (s1 2 (by omega)).trans h2⟩, by rw [s1 9 (by omega)]; exact h9, by rw [s12]; exact h11, hF2, ⟨op, 0, (s1 25 (by omega)).trans a1, s7, by omega, by omega, by omega, by omega, fun w hw => absurd hw (by omega)⟩, ⟨wt, s9, a3⟩, h362, Or.inr s6, hA2⟩, ⟨hR.2.1, hR.2.2.1, hR.2.2.2.1⟩, s2⟩
theorem rp_208 {L : Nat} {xs : Nat → Int32} {fr lo : Nat} {nn cc gg cl m p al AL : Nat} {h : ax_H} {M : Nat → Nat → Int32} {x : Int32} (hfr : 0 ≤ fr) (hlo : 0 ≤ lo) (hcc : cc ≤ nn) (hnn : nn ≤ 6) (hgg1 : 1 ≤ gg) (hgg : gg ≤ 16) (hcl : cl < 512) (hP : RP nn cc gg cl m p h al AL M) : ax_M L xs 208 fr lo [.ref m, .int x] h (fun r h' => ∃ (y : Int32) (al' AL' : Nat) (M' : Nat → Nat → Int32), r = some (.int y) ∧ RP nn cc gg (cl + 1) m p h' al' AL' M' ∧ SZr m AL h h' AL' ∧ M' 0 3 = M 0 3) := by
  obtain ⟨hS, hC, hI⟩ := hP
  have hI1 := hI.up (Nat.le_succ cl)
  obtain ⟨op, wt, a1, a2, a3, a4, a5, a6, a7⟩ := id hI.2.2.2.2.1
  have hA := hI.2.2.2.2.2.2.2.2
  refine ax_A.post (r_208 hfr hlo hC hS a1 a2 a4 (by omega) a6 (by unfold AOK at hA; omega)) (fun r h' hq => ?_)
  obtain ⟨rfl, hS2⟩ := hq
  exact ⟨_, _, _, _, rfl, ⟨hS2.self, hC, hI1⟩, hS2.szr, rfl⟩
theorem rp_209 {L : Nat} {xs : Nat → Int32} {fr lo : Nat} {nn cc gg cl m p al AL : Nat} {h : ax_H} {M : Nat → Nat → Int32} {x y0 : Int32} (hfr : 0 ≤ fr) (hlo : 0 ≤ lo) (hcc : cc ≤ nn) (hnn : nn ≤ 6) (hgg1 : 1 ≤ gg) (hgg : gg ≤ 16) (hcl : cl < 512) (hP : RP nn cc gg cl m p h al AL M) : ax_M L xs 209 fr lo [.ref m, .int x, .int y0] h (fun r h' => ∃ (y : Int32) (al' AL' : Nat) (M' : Nat → Nat → Int32), r = some (.int y) ∧ RP nn cc gg (cl + 1) m p h' al' AL' M' ∧ SZr m AL h h' AL' ∧ M' 0 3 = M 0 3) := by
  obtain ⟨hS, hC, hI⟩ := hP
  have hI1 := hI.up (Nat.le_succ cl)
  obtain ⟨tc, t1, t2⟩ := hI.2.2.2.2.2.1
  refine ax_A.post (r_209 hfr hlo hC hS t1 t2 hI.2.2.2.2.2.2.1) (fun r h' hq => ?_)
  obtain ⟨y, rfl, hS2⟩ := hq
  exact ⟨_, _, _, _, rfl, ⟨hS2.self, hC, hI1⟩, hS2.szr, rfl⟩
theorem rp_210 {L : Nat} {xs : Nat → Int32} {fr lo : Nat} {nn cc gg cl m p al AL : Nat} {h : ax_H} {M : Nat → Nat → Int32} {x y0 : Int32} (hfr : 1 ≤ fr) (hlo : 40 ≤ lo) (hcc : cc ≤ nn) (hnn : nn ≤ 6) (hgg1 : 1 ≤ gg) (hgg : gg ≤ 16) (hcl : cl < 512) (hP : RP nn cc gg cl m p h al AL M) : ax_M L xs 210 fr lo [.ref m, .int x, .int y0] h (fun r h' => ∃ (y : Int32) (al' AL' : Nat) (M' : Nat → Nat → Int32), r = some (.int y) ∧ RP nn cc gg (cl + 1) m p h' al' AL' M' ∧ SZr m AL h h' AL' ∧ M' 0 3 = M 0 3) := by
  obtain ⟨hS, hC, hI⟩ := hP
  have hI1 := hI.up (Nat.le_succ cl)
  refine ax_A.post (r_210 hfr hlo hC hS hI.2.2.2.1) (fun r h' hq => ?_)
  obtain ⟨y, rfl, hS2⟩ := hq
  exact ⟨_, _, _, _, rfl, ⟨hS2.self, hC, hI1⟩, hS2.szr, rfl⟩
theorem rp_211 {L : Nat} {xs : Nat → Int32} {fr lo : Nat} {nn cc gg cl m p al AL : Nat} {h : ax_H} {M : Nat → Nat → Int32} {x y0 z : Int32} (hfr : 2 ≤ fr) (hlo : 80 ≤ lo) (hcc : cc ≤ nn) (hnn : nn ≤ 6) (hgg1 : 1 ≤ gg) (hgg : gg ≤ 16) (hcl : cl < 512) (hP : RP nn cc gg cl m p h al AL M) : ax_M L xs 211 fr lo [.ref m, .int x, .int y0, .int z] h (fun r h' => ∃ (y : Int32) (al' AL' : Nat) (M' : Nat → Nat → Int32), r = some (.int y) ∧ RP nn cc gg (cl + 1) m p h' al' AL' M' ∧ SZr m AL h h' AL' ∧ M' 0 3 = M 0 3) := by
  obtain ⟨hS, hC, hI⟩ := hP
  have hI1 := hI.up (Nat.le_succ cl)
  refine ax_A.post (r_211 hfr hlo hC hS hI.1.1 hI.1.2.1 hI.1.2.2 hcc hnn hgg1 hgg hI.2.2.2.1) (fun r h' hq => ?_)
  obtain ⟨y, rfl, -, hS2⟩ := hq
  exact ⟨_, _, _, _, rfl, ⟨hS2.self, hC, hI1⟩, hS2.szr, rfl⟩
theorem rp_214 {L : Nat} {xs : Nat → Int32} {fr lo : Nat} {nn cc gg cl m p al AL : Nat} {h : ax_H} {M : Nat → Nat → Int32} {x y0 z v : Int32} (hfr : 3 ≤ fr) (hlo : 110 ≤ lo) (hcc : cc ≤ nn) (hnn : nn ≤ 6) (hgg1 : 1 ≤ gg) (hgg : gg ≤ 16) (hcl : cl < 512) (hP : RP nn cc gg cl m p h al AL M) : ax_M L xs 214 fr lo [.ref m, .int x, .int y0, .int z, .int v] h (fun r h' => ∃ (y : Int32) (al' AL' : Nat) (M' : Nat → Nat → Int32), r = some (.int y) ∧ RP nn cc gg (cl + 1) m p h' al' AL' M' ∧ SZr m AL h h' AL' ∧ M' 0 3 = M 0 3) := by
  obtain ⟨hS, hC, hI⟩ := hP
  have hI1 := hI.up (Nat.le_succ cl)
  refine ax_A.post (r_214 hfr hlo hC hS hI.1.1 hI.1.2.1 hI.1.2.2 hcc hnn hgg1 hgg hI.2.2.2.1) (fun r h' hq => ?_)
  obtain ⟨y, rfl, hS2⟩ := hq
  exact ⟨_, _, _, _, rfl, ⟨hS2.self, hC, hI1⟩, hS2.szr, rfl⟩
theorem rp_215 {L : Nat} {xs : Nat → Int32} {fr lo : Nat} {nn cc gg cl m p al AL : Nat} {h : ax_H} {M : Nat → Nat → Int32} {x : Int32} (hfr : 2 ≤ fr) (hlo : 80 ≤ lo) (hcc : cc ≤ nn) (hnn : nn ≤ 6) (hgg1 : 1 ≤ gg) (hgg : gg ≤ 16) (hcl : cl < 512) (hP : RP nn cc gg cl m p h al AL M) : ax_M L xs 215 fr lo [.ref m, .int x] h (fun r h' => ∃ (y : Int32) (al' AL' : Nat) (M' : Nat → Nat → Int32), r = some (.int y) ∧ RP nn cc gg (cl + 1) m p h' al' AL' M' ∧ SZr m AL h h' AL' ∧ M' 0 3 = M 0 3) := by
  obtain ⟨hS, hC, hI⟩ := hP
  have hI1 := hI.up (Nat.le_succ cl)
  refine ax_A.post (r_215 hfr hlo hC hS hI.1.1 hI.1.2.1 hI.1.2.2 hcc hnn hgg1 hgg hI.2.2.2.1) (fun r h' hq => ?_)
  obtain ⟨y, rfl, hS2⟩ := hq
  exact ⟨_, _, _, _, rfl, ⟨hS2.self, hC, hI1⟩, hS2.szr, rfl⟩
theorem rp_216 {L : Nat} {xs : Nat → Int32} {fr lo : Nat} {nn cc gg cl m p al AL : Nat} {h : ax_H} {M : Nat → Nat → Int32}  (hfr : 0 ≤ fr) (hlo : 0 ≤ lo) (hcc : cc ≤ nn) (hnn : nn ≤ 6) (hgg1 : 1 ≤ gg) (hgg : gg ≤ 16) (hcl : cl < 512) (hP : RP nn cc gg cl m p h al AL M) : ax_M L xs 216 fr lo [.ref m] h (fun r h' => ∃ (y : Int32) (al' AL' : Nat) (M' : Nat → Nat → Int32), r = some (.int y) ∧ RP nn cc gg (cl + 1) m p h' al' AL' M' ∧ SZr m AL h h' AL' ∧ M' 0 3 = M 0 3) := by
  obtain ⟨hS, hC, hI⟩ := hP
  have hI1 := hI.up (Nat.le_succ cl)
  refine ax_A.post (r_216 hfr hlo hC hS) (fun r h' hq => ?_)
  obtain ⟨y, rfl, hS2⟩ := hq
  exact ⟨_, _, _, _, rfl, ⟨hS2.self, hC, hI1⟩, hS2.szr, rfl⟩
theorem rp_217 {L : Nat} {xs : Nat → Int32} {fr lo : Nat} {nn cc gg cl m p al AL : Nat} {h : ax_H} {M : Nat → Nat → Int32} {x : Int32} (hfr : 1 ≤ fr) (hlo : 40 ≤ lo) (hcc : cc ≤ nn) (hnn : nn ≤ 6) (hgg1 : 1 ≤ gg) (hgg : gg ≤ 16) (hcl : cl < 512) (hP : RP nn cc gg cl m p h al AL M) : ax_M L xs 217 fr lo [.ref m, .int x] h (fun r h' => ∃ (y : Int32) (al' AL' : Nat) (M' : Nat → Nat → Int32), r = some (.int y) ∧ RP nn cc gg (cl + 1) m p h' al' AL' M' ∧ SZr m AL h h' AL' ∧ M' 0 3 = M 0 3) := by
  obtain ⟨hS, hC, hI⟩ := hP
  have hI1 := hI.up (Nat.le_succ cl)
  refine ax_A.post (r_217 hfr hlo hC hS hI.2.2.2.2.2.2.2.1) (fun r h' hq => ?_)
  obtain ⟨y, rfl, hS2⟩ := hq
  exact ⟨_, _, _, _, rfl, ⟨hS2.self, hC, hI1⟩, hS2.szr, rfl⟩

/-! a TICK of a NODE -/
def FSH (P : Pm) (n : Nat) (D D1 : Nat → Nat → Int32) (Z : List Mg) : Prop :=
  D1 1 4 = 0 ∧ (∀ q, q ≠ 1 → q ≠ 2 → q ≠ 5 → D1 q = D q) ∧ (∀ s, s < 280 → D1 5 s = -1) ∧
  ((D 1 4 = 0 ∧ D1 = D ∧ Z = []) ∨ (¬ D 1 4 = 0 ∧ ∃ z, Z = [z] ∧ isHV P.nn (nI n) P.f D z ∧ (∀ i, i < (z.1 7).toNatClampNeg → ∃ s, s < 280 ∧ z.2 i = D 6 s ∧ ¬ D 6 s < 0 ∧ ¬ D 5 s = -1) ∧ ∀ s, s < 280 → ¬ D 6 s < 0 → ¬ D 5 s = -1 → hvT z (D 6 s)))
def TKn (P : Pm) (g : Gh) (n e : Nat) (D : Nat → Nat → Int32) (K : Int64) (D' : Nat → Nat → Int32) (K' : Int64) (Z : List Mg) : Prop :=
  ∃ (D1 : Nat → Nat → Int32) (Zf : List Mg), FSH P n D D1 Zf ∧ NU P g n e D1 K ∧
    ((ldB P.f P.nn (nI n) (D 0 8) = 0 ∧ D' = D1 ∧ K' = K ∧ Z = Zf) ∨
     (¬ ldB P.f P.nn (nI n) (D 0 8) = 0 ∧ ∃ (D2 : Nat → Nat → Int32) (Zw Zg : List Mg), LO P g e D2 K ∧ (∀ q, q ≠ 7 → D2 q = D1 q) ∧ (∀ x, x ≠ 12 → x ≠ 13 → x ≠ 14 → D2 7 x = D1 7 x) ∧ WZ P (nI n) D1 K D2 Zw ∧ LO P g e D' K' ∧ (∀ q, q < 7 → D' q = D1 q) ∧ GZ P g e (D2 18 3) D2 K D' K' Zg ∧ Z = Zf ++ (Zw ++ Zg)))
theorem tick_n {P : Pm} {g : Gh} {n e : Nat} {u b : Nat → Int32} {D : Nat → Nat → Int32} {K A : Int64} {Y : List Mg} (hG : GO g) (hgg : 0 < P.gg) (hnn : P.nn ≤ 6) (hf : Rg P.nn P.f) (hn : n < P.nn) (h : NU P g n e D K) :
    ∃ (D' : Nat → Nat → Int32) (K' A' : Int64) (Z : List Mg), F_136 P.nn P.gg P.C (nI n) P.f u b D K A Y = (D', K', A', psl Y Z) ∧ (∀ z ∈ Z, MS P g z ∧ z.1 3 = nI e ∧ ¬ z.1 0 = 5) ∧ TKn P g n e D K D' K' Z ∧ Z.length ≤ 97 ∧ (ldB P.f P.nn (nI n) (D 0 8) = 0 → Z.length ≤ 1) ∧ D' 0 = D 0 := by
  obtain ⟨D1, Zf, r1, r2, r3, r4, r5, r6⟩ := flush_z (nn := P.nn) (gg := P.gg) (C := P.C) (me := nI n) (f := P.f) (u := u) (b := b) (K := K) (A := A) (Bg_X P g) h.du
  have hN : NU P g n e D1 K := h.disk (fun q hq => r4 q (by omega) (by omega) (by omega)) r2 (fun k _ ⟨s, s1, s2, s3⟩ => Or.inl ⟨s, s1, by rw [r4 6 (by decide) (by decide) (by decide)]; exact s2, r5 s s1⟩)
  have e0 : D1 0 = D 0 := r4 0 (by decide) (by decide) (by decide)
  have hfs : FSH P n D D1 Zf := ⟨r3, r4, r5, r6⟩
  have hZf : Zf.length ≤ 1 ∧ ∀ z ∈ Zf, MS P g z ∧ z.1 3 = nI e ∧ ¬ z.1 0 = 5 := by
    rcases r6 with ⟨_, _, q⟩ | ⟨_, z, q, q2, _⟩
    · rw [q]; exact ⟨by decide, fun z hz => by cases hz⟩
    · rw [q]
      refine ⟨Nat.le_refl _, fun y hy => ?_⟩
      rw [List.mem_singleton.mp hy]
      exact ⟨q2.ms, by rw [q2.v.2.2.2.1]; exact h.ep.1, by rw [q2.v.1]; decide⟩
  unfold F_136
  rw [r1 Y, bnS_e]
  by_cases c : ldB P.f P.nn (nI n) (D 0 8) = 0
  · rw [if_pos (by rw [e0]; exact c)]
    exact ⟨D1, K, A, Zf, rfl, hZf.2, ⟨D1, Zf, hfs, hN, Or.inl ⟨c, rfl, rfl, rfl⟩⟩, by have := hZf.1; omega, fun _ => hZf.1, e0⟩
  · rw [if_neg (by rw [e0]; exact c)]
    have hLO := hN.ld (by rw [e0]; exact c)
    obtain ⟨D2, Zw, w1, w2, w3, w4, w5, w6, w7, w8⟩ := work_z (me := nI n) (u := u) (b := b) (A := A) hG hgg hnn (by omega) hf hN.ni hLO
    rw [w1 _, bnS_e]
    obtain ⟨D3, K3, Zg, t1, t2, t3, t4, t5⟩ := goon_z (me := nI n) (u := u) (b := b) (A := 0) (Y := psl (psl Y Zf) Zw) hG hgg hnn w2
    rw [t1, bnS_e]
    obtain ⟨g1, g2, g3, g4, g5, g6⟩ := t5
    refine ⟨D3, K3, 0, Zf ++ (Zw ++ Zg), by rw [psl_app, psl_app], fun z hz => ?_, ⟨D1, Zf, hfs, hN, Or.inr ⟨c, D2, Zw, Zg, w2, w5, w6, w8, t2, fun q hq => by rw [t3 q hq, w3 q hq], ⟨g1, g2, g3, g4, g5, g6⟩, rfl⟩⟩, ?_, fun z => absurd z c, by rw [t3 0 (by decide), w3 0 (by decide), e0]⟩
    · rcases List.mem_append.mp hz with y | y
      · exact hZf.2 z y
      · rcases List.mem_append.mp y with y | y
        · obtain ⟨a1, a2, a3, _⟩ := w7 z y
          exact ⟨a1, a2, a3⟩
        · obtain ⟨a1, a2, a3⟩ := g5 z y
          exact ⟨a1, a2, by rcases a3 with a3 | a3 | a3 <;> rw [a3] <;> decide⟩
    · obtain ⟨Dq, Zp, Zq, Zm, x1, x2, x3, _, ⟨x4, _⟩, _, x6, x7⟩ := w8
      have hs : Dq 18 3 = D2 18 3 := by rw [x2 18 (by decide), w5 18 (by decide)]
      have l0 := hZf.1
      have l6 := g6 (Nn g (D3 16 960))
      rw [if_pos rfl] at g2
      rw [x1, List.length_append, List.length_append, List.length_append, List.length_append]
      have key : Zq.length + Zm.length + Zg.length ≤ 90 := by
        have h18 : D1 18 3 = D2 18 3 := by rw [w5 18 (by decide)]
        rcases x6 with ⟨s, l, _⟩ | ⟨s, l, _⟩ | ⟨s, l, _⟩ | ⟨_, _, _, s⟩
        · have hm : Zm.length = 0 := by
            rcases x7 with ⟨q, _⟩ | ⟨q, _⟩
            · rw [q]; rfl
            · rw [h18, ← hs, s] at q; exact absurd q (by decide)
          rw [← hs, s] at g2
          have : wSt 2 = 109 := rfl
          omega
        · have hm : Zm.length = 0 := by
            rcases x7 with ⟨q, _⟩ | ⟨q, _⟩
            · rw [q]; rfl
            · rw [h18, ← hs, s] at q; exact absurd q (by decide)
          rw [← hs, s] at g2
          have : wSt 3 = 13 := rfl
          omega
        · have hm : Zm.length = 0 := by
            rcases x7 with ⟨q, _⟩ | ⟨q, _⟩
            · rw [q]; rfl
            · rw [h18, ← hs, s] at q; exact absurd q (by decide)
          rw [← hs, s] at g2
          have : wSt 4 = 1 := rfl
          omega
        · have hm : Zm.length ≤ 29 := by
            rcases x7 with ⟨q, _⟩ | ⟨_, _, _, q, _⟩
            · rw [q]; exact Nat.zero_le _
            · exact q.1
          have := wSt_le (D2 18 3)
          rw [s]
          show 0 + _ + _ ≤ 90
          omega
      omega

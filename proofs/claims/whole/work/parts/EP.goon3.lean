/-! goOn -/
theorem commit_all {P : Pm} {g : Gh} {e : Nat} {D : Nat → Nat → Int32} {K : Int64} (hG : GO g) (hgg : 0 < P.gg) (hnn : P.nn ≤ 6) (h : LO P g e D K) (hs : D 18 3 = 4) (ha : ¬ arS P.gg D 1 8 = 0) : TE P g e (va_up (va_up D 7 (upd (upd (D 7) 10 0) 14 0)) 18 (upd (D 18) 3 5)) K := by
  have h512 := hG.1
  rcases h.st with ⟨z, _⟩ | ⟨z, _⟩ | ⟨z, _⟩ | ⟨z, _⟩ | ⟨_, o, zo⟩
  · rw [hs] at z; exact absurd z (by decide)
  · rw [hs] at z; exact absurd z (by decide)
  · rw [hs] at z; exact absurd z (by decide)
  · rw [hs] at z; exact absurd z (by decide)
  · have ho := zo.wa.o1
    obtain ⟨d1, d2, d3⟩ := tgN_d (i := 512) (p := 0) (v := o) (by decide) (by omega)
    have hlt : rtg o < 5243392 := by unfold rtg tgN; omega
    obtain ⟨f1, f2⟩ := arS_ok 1 8 ha 8 (by omega) (by omega) (by show ¬ D 21 1024 = 0; rw [zo.b8.1]; exact shl24)
    have htg : D 21 (8 * 128 + 1) = nI (rtg o) := zo.b8.2.1
    rw [htg] at f1 f2
    have hsec : sec P g e (rtg o) := by
      rcases h.find hgg hlt with ⟨q1, _⟩ | ⟨a, a1, a2, a3, a4, _, _⟩
      · exact absurd q1 f1
      · rw [a2, nI_clamp (by omega)] at f2
        exact h.safe hgg hnn a1 hlt a3 a4 f2
    generalize hD1 : va_up (va_up D 7 (upd (upd (D 7) 10 0) 14 0)) 18 (upd (D 18) 3 5) = D1
    have q1 : ∀ q, q ≠ 7 → q ≠ 18 → D1 q = D q := fun q a1 a2 => by rw [← hD1, va_up_n _ _ a2, va_up_n _ _ a1]
    have g7 : D1 7 = upd (upd (D 7) 10 0) 14 0 := by rw [← hD1, va_up_n _ _ (by decide), va_up_s]
    have g18 : D1 18 = upd (D 18) 3 5 := by rw [← hD1, va_up_s]
    refine ⟨⟨by rw [g7, pk_un (by decide), pk_un (by decide)]; exact h.l1.1, by rw [g7, pk_un (by decide), pk_un (by decide)]; exact h.l1.2.1, h.l1.2.2⟩, fun i hi => by rw [q1 8 (by decide) (by decide)]; exact h.l2 i hi, by rw [q1 16 (by decide) (by decide), q1 11 (by decide) (by decide), q1 17 (by decide) (by decide)]; exact h.hd, by rw [q1 11 (by decide) (by decide), q1 17 (by decide) (by decide)]; exact h.hz, by rw [g18, pk_us], ⟨o + 1, ho, by rw [q1 16 (by decide) (by decide), zo.rt, efv_s zo.ef.2], ?_, by rw [q1 10 (by decide) (by decide)]; exact zo.an, fun v hv ev => ?_⟩, o, ho, by rw [g18, pk_un (by decide)]; exact zo.wa.ak.op, fun _ => ⟨by rw [g18, pk_un (by decide)]; exact zo.a5, Or.inr ⟨e, h.l1.2.2.2, hsec⟩⟩, fun z => absurd zo.ef z⟩
    · rw [q1 10 (by decide) (by decide), q1 11 (by decide) (by decide), q1 12 (by decide) (by decide), q1 13 (by decide) (by decide), q1 14 (by decide) (by decide), q1 15 (by decide) (by decide), q1 16 (by decide) (by decide)]
      exact zo.tk.1
    · rw [efv_s zo.ef.2] at ev
      have := nI_inj (by omega) (by omega) ev
      rw [← this]
      exact zo.md
theorem tell_all {P : Pm} {g : Gh} {e : Nat} {nn gg : Nat} {C me : Int32} {f u b : Nat → Int32} {D : Nat → Nat → Int32} {K A : Int64} {Y : List Mg} (h : TE P g e D K) (hY : MOL P g Y) : ∃ (D' : Nat → Nat → Int32) (Y' : List Mg), F_123 nn gg C me f u b D K A Y = (D', K, A, Y') ∧ LO P g e D' K ∧ MOL P g Y' ∧ (∀ q, q < 18 → D' q = D q) := by
  unfold F_123
  rw [bnN_e]
  obtain ⟨r, zr⟩ := h.rt
  have hk18 : K18 D (va_up D 18 (upd (D 18) 3 0)) := fun q hq => va_up_n _ _ (by omega)
  refine ⟨_, _, rfl, ⟨by rw [va_up_n _ _ (by decide)]; exact h.l1, by rw [va_up_n _ _ (by decide)]; exact h.l2, by rw [va_up_n _ _ (by decide), va_up_n _ _ (by decide), va_up_n _ _ (by decide)]; exact h.hd, by rw [va_up_n _ _ (by decide), va_up_n _ _ (by decide)]; exact h.hz, Or.inl ⟨by rw [va_up_s, pk_us], r, zr.k18 hk18⟩⟩, ?_, fun q hq => va_up_n _ _ (by omega)⟩
  obtain ⟨o, o1, o2, o3⟩ := h.tk
  refine hY.put (e := e) (MO.m_tl (by rw [va_up_n _ _ (by decide), va_up_n _ _ (by decide), va_up_n _ _ (by decide)]; rfl) (by rw [va_up_n _ _ (by decide), va_up_n _ _ (by decide), va_up_n _ _ (by decide)]; exact h.l1.1) h.l1.2.2.1 (by rw [va_up_n _ _ (by decide), va_up_n _ _ (by decide), va_up_n _ _ (by decide)]; exact h.l1.2.1) ⟨o, o1, by rw [va_up_n _ _ (by decide), va_up_n _ _ (by decide), va_up_s]; exact o2, by rw [va_up_n _ _ (by decide), va_up_s]; exact o3⟩)
theorem bnS_2 {α : Type} (s : St) (F : (Nat → Nat → Int32) → Int64 → Int64 → List Mg → St) (k : (Nat → Nat → Int32) → Int64 → Int64 → List Mg → α) : bnS s (fun D K A Y => bnS (F D K A Y) k) = bnS (bnS s (fun D K A Y => bnS (F D K A Y) (fun D4 K4 A4 Y4 => (D4, K4, A4, Y4)))) k := rfl
/-- what a step of goOn leaves -/
def GOut (P : Pm) (g : Gh) (e : Nat) (D : Nat → Nat → Int32) (A : Int64) (s : St) : Prop := ∃ (D' : Nat → Nat → Int32) (K' : Int64) (Y' : List Mg), s = (D', K', A, Y') ∧ LO P g e D' K' ∧ MOL P g Y' ∧ (∀ q, q < 7 → D' q = D q) ∧ D' 7 12 = D 7 12
theorem GOut.tr {P : Pm} {g : Gh} {e : Nat} {D D1 : Nat → Nat → Int32} {A : Int64} {s : St} (h : GOut P g e D1 A s) (hq : ∀ q, q < 7 → D1 q = D q) (h12 : D1 7 12 = D 7 12) : GOut P g e D A s := by
  obtain ⟨D', K', Y', a, b, c, d, e⟩ := h
  exact ⟨D', K', Y', a, b, c, fun q hq' => by rw [d q hq', hq q hq'], by rw [e, h12]⟩
theorem LO.no5 {P : Pm} {g : Gh} {e : Nat} {D : Nat → Nat → Int32} {K : Int64} (h : LO P g e D K) : ¬ D 18 3 = 5 := fun e => by
  rcases h.st with ⟨z, _⟩ | ⟨z, _⟩ | ⟨z, _⟩ | ⟨z, _⟩ | ⟨z, _⟩ <;> rw [e] at z <;> exact absurd z (by decide)
theorem go6 {P : Pm} {g : Gh} {e : Nat} {me : Int32} {u b : Nat → Int32} {D : Nat → Nat → Int32} {K A : Int64} {Y : List Mg} {w1 : Int32} (hG : GO g) (hnn : P.nn ≤ 6) (h : LO P g e D K) (hY : MOL P g Y) : GOut P g e D A (F_91_k6 P.nn P.gg P.C me P.f u b D K A Y w1) := by
  unfold F_91_k6
  split
  · exact ⟨D, K, Y, rfl, h, hY, fun _ _ => rfl, rfl⟩
  · obtain ⟨Y', r1, r2⟩ := push_lem (me := me) (u := u) (b := b) (A := A) hG hnn h hY
    rw [r1, bnS_e]
    exact ⟨D, K, Y', rfl, h, r2, fun _ _ => rfl, rfl⟩
theorem go5 {P : Pm} {g : Gh} {e : Nat} {me : Int32} {u b : Nat → Int32} {D : Nat → Nat → Int32} {K A : Int64} {Y : List Mg} {w1 : Int32} (hG : GO g) (hnn : P.nn ≤ 6) (h : LO P g e D K ∨ TE P g e D K) (hY : MOL P g Y) : GOut P g e D A (F_91_k5 P.nn P.gg P.C me P.f u b D K A Y w1) := by
  unfold F_91_k5
  rcases h with h | h
  · rw [if_pos h.no5]
    exact go6 hG hnn h hY
  · rw [if_neg (fun z => z h.s5)]
    obtain ⟨D', Y', r1, r2, r3, r4⟩ := tell_all (nn := P.nn) (gg := P.gg) (C := P.C) (me := me) (f := P.f) (u := u) (b := b) (A := A) h hY
    rw [r1, bnS_e]
    exact (go6 hG hnn r2 r3).tr (fun q hq => r4 q (by omega)) (by rw [r4 7 (by omega)])
theorem go4 {P : Pm} {g : Gh} {e : Nat} {me : Int32} {u b : Nat → Int32} {D : Nat → Nat → Int32} {K A : Int64} {Y : List Mg} {w1 : Int32} (hG : GO g) (hgg : 0 < P.gg) (hnn : P.nn ≤ 6) (h : LO P g e D K ∨ TE P g e D K) (hY : MOL P g Y) : GOut P g e D A (F_91_k4 P.nn P.gg P.C me P.f u b D K A Y w1) := by
  unfold F_91_k4
  by_cases c : D 18 3 = 4
  · rw [if_neg (fun z => z c), bnI_e]
    rcases h with h | h
    · by_cases d : arS P.gg D (9 - 8) 8 = 0
      · rw [if_pos d]
        exact go5 hG hnn (Or.inl h) hY
      · rw [if_neg d]
        exact (go5 hG hnn (Or.inr (commit_all hG hgg hnn h c d)) hY).tr (fun q hq => by rw [va_up_n _ _ (by omega), va_up_n _ _ (by omega)]) (by rw [va_up_n _ _ (by decide), va_up_s, pk_un (by decide), pk_un (by decide)])
    · rw [h.s5] at c; exact absurd c (by decide)
  · rw [if_pos c]
    exact go5 hG hnn h hY
theorem go3 {P : Pm} {g : Gh} {e : Nat} {me : Int32} {u b : Nat → Int32} {D : Nat → Nat → Int32} {K A : Int64} {Y : List Mg} {w1 : Int32} (hG : GO g) (hgg : 0 < P.gg) (hnn : P.nn ≤ 6) (h : LO P g e D K ∨ TE P g e D K) (hY : MOL P g Y) : GOut P g e D A (F_91_k3 P.nn P.gg P.C me P.f u b D K A Y w1) := by
  unfold F_91_k3
  by_cases c : D 18 3 = 3
  · rw [if_neg (fun z => z c), bnI_e]
    rcases h with h | h
    · by_cases d : arS P.gg D (8 - 0) 0 = 0
      · rw [if_pos d]
        exact go4 hG hgg hnn (Or.inl h) hY
      · rw [if_neg d]
        obtain ⟨D', r1, r2, r3⟩ := root_all (me := me) (u := u) (b := b) (A := A) (Y := Y) hG hgg hnn h c d
        rw [r1, bnS_e]
        exact (go4 hG hgg hnn (Or.inl r3) hY).tr (fun q hq => r2 q (by omega)) (by rw [r2 7 (by omega)])
    · rw [h.s5] at c; exact absurd c (by decide)
  · rw [if_pos c]
    exact go4 hG hgg hnn h hY
theorem go2 {P : Pm} {g : Gh} {e : Nat} {me : Int32} {u b : Nat → Int32} {D : Nat → Nat → Int32} {K A : Int64} {Y : List Mg} {w1 : Int32} (hG : GO g) (hgg : 0 < P.gg) (hnn : P.nn ≤ 6) (h : LO P g e D K ∨ TE P g e D K) (hY : MOL P g Y) : GOut P g e D A (F_91_k2 P.nn P.gg P.C me P.f u b D K A Y w1) := by
  unfold F_91_k2
  by_cases c : D 18 3 = 2
  · rw [if_neg (fun z => z c)]
    rcases h with h | h
    · by_cases d : D 18 12 = 0
      · rw [if_neg (fun z => z d)]
        obtain ⟨D', K', r1, r2, r3⟩ := change_all (me := me) (u := u) (b := b) (A := A) (Y := Y) hG h c d
        have key : bnS (F_104 P.nn P.gg P.C me P.f u b D K A Y) (fun D3 K3 A3 Y3 => bnS (F_114 P.nn P.gg P.C me P.f u b D3 K3 A3 Y3) (fun D4 K4 A4 Y4 => F_91_k3 P.nn P.gg P.C me P.f u b D4 K4 A4 Y4 w1)) = F_91_k3 P.nn P.gg P.C me P.f u b D' K' A Y w1 := by
          rw [bnS_2 (F_104 P.nn P.gg P.C me P.f u b D K A Y) (F_114 P.nn P.gg P.C me P.f u b) (fun D4 K4 A4 Y4 => F_91_k3 P.nn P.gg P.C me P.f u b D4 K4 A4 Y4 w1), r1, bnS_e]
        rw [key]
        exact (go3 hG hgg hnn r3 hY).tr (fun q hq => r2 q (by omega)) (by rw [r2 7 (by omega)])
      · rw [if_pos d]
        exact go3 hG hgg hnn (Or.inl h) hY
    · rw [h.s5] at c; exact absurd c (by decide)
  · rw [if_pos c]
    exact go3 hG hgg hnn h hY
/-- goOn -/
theorem goon_lem {P : Pm} {g : Gh} {e : Nat} {me : Int32} {u b : Nat → Int32} {D : Nat → Nat → Int32} {K A : Int64} {Y : List Mg} (hG : GO g) (hgg : 0 < P.gg) (hnn : P.nn ≤ 6) (h : LO P g e D K) (hY : MOL P g Y) : GOut P g e D A (F_91 P.nn P.gg P.C me P.f u b D K A Y) := by
  unfold F_91
  rw [bnI_e]
  by_cases c : D 18 3 = 1
  · rw [if_neg (fun z => z c)]
    by_cases d : knA K (D 10 9) = 0
    · rw [if_pos d]
      exact go2 hG hgg hnn (Or.inl h) hY
    · rw [if_neg d]
      split
      · exact go2 hG hgg hnn (Or.inl h) hY
      · obtain ⟨D', r1, r2, r3⟩ := plan_all (me := me) (u := u) (b := b) (A := A) (Y := Y) hG h c d
        rw [r1, bnS_e]
        exact (go2 hG hgg hnn r3 hY).tr (fun q hq => r2 q (by omega)) (by rw [r2 7 (by omega)])
  · rw [if_pos c]
    exact go2 hG hgg hnn (Or.inl h) hY

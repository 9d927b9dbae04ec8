/-! a measure that each round lessens, until all OPERATIONS are done -/
def rkB (p : Nat) : Nat := if p = 1 then 1 else if p = 2 then 3 else if p = 3 then 5 else if p = 4 then 13 else if p = 5 then 14 else if p = 6 then 16 else if p = 7 then 18 else 26
def rkT (p : Nat) : Nat := if p = 1 then 2 else if p = 2 then 4 else if p = 3 then 12 else if p = 4 then 13 else if p = 5 then 15 else if p = 6 then 17 else if p = 7 then 25 else 26
def exL (P : Pm) (l : Nat) (S : SS) (x : Nat) : Prop := (dN S l 18 3 = 2 → ∃ c b, phiL P l S c ∧ (b = 1 ∨ (b = 0 ∧ FBs P l S)) ∧ c + b ≤ x) ∧ ((dN S l 18 3 = 3 ∨ dN S l 18 3 = 4) → amS P l S ∨ 1 ≤ x)
def RkL (P : Pm) (l : Nat) (S : SS) (h0 r : Nat) : Prop := ∃ x, exL P l S x ∧ rkB (pcd (dN S l) h0) + x ≤ r
theorem rkTB : ∀ p, p < 9 → ∀ p', p' < p → rkT p' < rkB p ∨ p' = 0 := by decide
theorem pcd_r {P : Pm} {g : Gh} {e h0 : Nat} {D : Nat → Nat → Int32} {K : Int64} (h : LO P g e D K) : 1 ≤ pcd D h0 ∧ pcd D h0 < 9 := by
  unfold pcd
  rcases h.s5 with q | q | q | q | q <;> rw [q] <;> split <;> decide
theorem RkL.top {P : Pm} {g : Gh} {l e h0 : Nat} {S : SS} (hnn : P.nn ≤ 6) (h : LO P g e (dN S l) (kN S l)) : RkL P l S h0 (rkT (pcd (dN S l) h0)) := by
  rcases h.s5 with q | q | q | q | q
  · refine ⟨0, ⟨fun z => by rw [q] at z; exact absurd z (by decide), fun z => by rcases z with z | z <;> rw [q] at z <;> exact absurd z (by decide)⟩, ?_⟩
    unfold pcd
    rw [q]
    split <;> decide
  · refine ⟨0, ⟨fun z => by rw [q] at z; exact absurd z (by decide), fun z => by rcases z with z | z <;> rw [q] at z <;> exact absurd z (by decide)⟩, ?_⟩
    unfold pcd
    rw [q]
    split <;> decide
  · refine ⟨7, ⟨fun _ => ⟨P.nn, 1, phiL.top P l S, Or.inl rfl, by omega⟩, fun z => by rcases z with z | z <;> rw [q] at z <;> exact absurd z (by decide)⟩, ?_⟩
    unfold pcd
    rw [q]
    split <;> decide
  · refine ⟨1, ⟨fun z => by rw [q] at z; exact absurd z (by decide), fun _ => Or.inr (Nat.le_refl _)⟩, ?_⟩
    unfold pcd
    rw [q]
    split <;> decide
  · refine ⟨1, ⟨fun z => by rw [q] at z; exact absurd z (by decide), fun _ => Or.inr (Nat.le_refl _)⟩, ?_⟩
    unfold pcd
    rw [q]
    split <;> decide
theorem RkL.mono {P : Pm} {l h0 r r' : Nat} {S : SS} (h : RkL P l S h0 r) (hr : r ≤ r') : RkL P l S h0 r' := by
  obtain ⟨x, x1, x2⟩ := h
  exact ⟨x, x1, by omega⟩
theorem rkT_26 : ∀ p, p < 9 → rkT p ≤ 26 := by decide
theorem RkL.t26 {P : Pm} {g : Gh} {l e h0 : Nat} {S : SS} (hnn : P.nn ≤ 6) (h : LO P g e (dN S l) (kN S l)) : RkL P l S h0 26 := (RkL.top hnn h).mono (rkT_26 _ (pcd_r h).2)
theorem RkL.less {P : Pm} {g g' : Gh} {l e e' h0 r : Nat} {S S' : SS} (hnn : P.nn ≤ 6) (hL : LO P g e (dN S l) (kN S l)) (hL' : LO P g' e' (dN S' l) (kN S' l)) (h : RkL P l S h0 r) (hp : pcd (dN S' l) h0 < pcd (dN S l) h0) : 0 < r ∧ RkL P l S' h0 (r - 1) := by
  obtain ⟨x, _, x2⟩ := h
  have a1 := (pcd_r (h0 := h0) hL).2
  have a2 := (pcd_r (h0 := h0) hL').1
  rcases rkTB _ a1 _ hp with q | q
  · exact ⟨by omega, (RkL.top hnn hL').mono (by omega)⟩
  · omega
/-- all that was begun is done, and all is known -/
def CSt (P : Pm) (l : Nat) (g : Gh) (S : SS) : Prop := ¬ knA (kN S l) (dN S l 10 9) = 0 ∧ QNs P l S ∧ HFu P (dN S l) ∧ dN S l 18 3 = 0 ∧ heN S = g.bg
def MuL (P : Pm) (l : Nat) (g : Gh) (S : SS) (m : Nat) : Prop := ∃ w hf, ((knA (kN S l) (dN S l 10 9) = 0 ∧ zA (kN S l) + 27 ≤ w) ∨ (¬ knA (kN S l) (dN S l 10 9) = 0 ∧ RkL P l S (heN S) w)) ∧ (HFu P (dN S l) ∨ 28 ≤ hf) ∧ 80 * Nn g (dN S l 16 960) + 27 * (g.bg - heN S) + w + hf ≤ m
theorem MuL.top {P : Pm} {g : Gh} {l : Nat} {S : SS} (hP : PmO P) (hl : l < P.nn) (h : RG P g l S) : MuL P l g S 1467 := by
  have hL := h.lo hl
  have hz := zA_le (kN S l)
  have hN := Nn_13 g (dN S l 16 960)
  obtain ⟨_, e2, e3, e4, _, _, e7, _⟩ := h.he
  have := SU.b12 h.1.1
  have hb : g.bg - heN S ≤ 12 := by omega
  by_cases c : knA (kN S l) (dN S l 10 9) = 0
  · exact ⟨75, 28, Or.inl ⟨c, by omega⟩, Or.inr (Nat.le_refl _), by omega⟩
  · exact ⟨26, 28, Or.inr ⟨c, RkL.t26 hP.nn hL⟩, Or.inr (Nat.le_refl _), by omega⟩
theorem rdAB {P : Pm} {g : Gh} {l m : Nat} {S T S' : SS} (hP : PmO P) (hSL : SL P) (hl : l < P.nn) (h : RST P l g S) (hm : MuL P l g S m) (htk : tkR P.nn P.gg P.C P.f S T) (hdr : drR P.nn P.gg P.C P.f T S') : CSt P l g S ∨ ∃ m', m' < m ∧ ∃ g', Gs g g' ∧ RST P l g' S' ∧ MuL P l g' S' m' := by
  obtain ⟨⟨g', hgs, h'⟩, hsp, hhe, hHF, hHF2⟩ := rdm hP hl h htk hdr
  have hR := h.1
  have hR' := h'.1
  have hL := hR.lo hl
  have hL' := hR'.lo hl
  have hnn := hP.nn
  have hA := h.2.2.2
  obtain ⟨w, hf, m1, m2, m3⟩ := hm
  have hNg : Nn g' = Nn g := Nn_gs hgs
  have hbg : g'.bg = g.bg := hgs.bg
  have e3' := hR'.he.2.2.1
  rw [hbg] at e3'
  have hz := zA_le (kN S' l)
  have hfk : HFu P (dN S' l) ∨ 28 ≤ hf := by
    rcases m2 with z | z
    · exact Or.inl (hHF z)
    · exact Or.inr z
  -- something new
  have pg : pgT g (dN S l) (kN S l) (dN S' l) (kN S' l) → ∃ m', m' < m ∧ ∃ g', Gs g g' ∧ RST P l g' S' ∧ MuL P l g' S' m' := fun z => by
    rcases z with z | ⟨z1, z2, z3⟩
    · by_cases c : knA (kN S' l) (dN S' l 10 9) = 0
      · refine ⟨80 * Nn g (dN S' l 16 960) + 27 * (g.bg - heN S') + 75 + hf, by omega, g', hgs, h', 75, hf, Or.inl ⟨c, by omega⟩, hfk, ?_⟩
        rw [hNg, hbg]; exact Nat.le_refl _
      · refine ⟨80 * Nn g (dN S' l 16 960) + 27 * (g.bg - heN S') + 26 + hf, by omega, g', hgs, h', 26, hf, Or.inr ⟨c, RkL.t26 hnn hL'⟩, hfk, ?_⟩
        rw [hNg, hbg]; exact Nat.le_refl _
    · have hw : zA (kN S l) + 27 ≤ w := by
        rcases m1 with ⟨_, q⟩ | ⟨q, _⟩
        · exact q
        · exact absurd z2 q
      by_cases c : knA (kN S' l) (dN S' l 10 9) = 0
      · have hz3 : zA (kN S' l) < zA (kN S l) := by
          rcases z3 with q | q
          · exact absurd c q
          · exact q
        refine ⟨80 * Nn g (dN S' l 16 960) + 27 * (g.bg - heN S') + (zA (kN S' l) + 27) + hf, by rw [z1]; omega, g', hgs, h', zA (kN S' l) + 27, hf, Or.inl ⟨c, Nat.le_refl _⟩, hfk, ?_⟩
        rw [hNg, hbg]; exact Nat.le_refl _
      · refine ⟨80 * Nn g (dN S' l 16 960) + 27 * (g.bg - heN S') + 26 + hf, by rw [z1]; omega, g', hgs, h', 26, hf, Or.inr ⟨c, RkL.t26 hnn hL'⟩, hfk, ?_⟩
        rw [hNg, hbg]; exact Nat.le_refl _
  rcases hsp with hsm | hpg
  case inr => exact Or.inr (pg hpg)
  -- news
  by_cases hnw : dN S l 18 3 ≤ 2 ∧ ∃ n k, n < P.nn ∧ k < 5243392 ∧ mem (dN S n) (nI k) ∧ nwT (dN S l) (kN S l) (nI k)
  · obtain ⟨hs, n, k, n1, k1, q1, q2⟩ := hnw
    exact Or.inr (pg (rdA hP hl hR h.2.1 h.2.2.1 hs n1 k1 q1 q2 htk hdr))
  have hkn : ¬ knA (kN S l) (dN S l 10 9) = 0 := fun z => by
    apply hnw
    have hs : dN S l 18 3 ≤ 1 := by
      by_cases c : dN S l 18 3 ≤ 1
      · exact c
      · exact absurd z (hL.kn c)
    obtain ⟨n, k, n1, k1, ⟨s, s1, s2, _⟩, q2⟩ := unk_av hP hA hR.1 hL z
    exact ⟨Int32.le_trans hs (by decide), n, k, n1, k1, ⟨s, s1, s2⟩, q2⟩
  have hkn' : ¬ knA (kN S' l) (dN S' l 10 9) = 0 := by
    rcases hsm.2 with ⟨q, _⟩ | ⟨_, q⟩
    · exact absurd q hkn
    · exact q
  have hrk : RkL P l S (heN S) w := by
    rcases m1 with ⟨q, _⟩ | ⟨_, q⟩
    · exact absurd q hkn
    · exact q
  have hroot : dN S' l 16 960 = dN S l 16 960 := hsm.1
  -- one more is done
  by_cases hh : heN S < heN S'
  · right
    refine ⟨80 * Nn g (dN S' l 16 960) + 27 * (g.bg - heN S') + 26 + hf, by rw [hroot]; omega, g', hgs, h', 26, hf, Or.inr ⟨hkn', RkL.t26 hnn hL'⟩, hfk, ?_⟩
    rw [hNg, hbg]; exact Nat.le_refl _
  have hheq : heN S' = heN S := by omega
  -- all NODES are heard of
  by_cases hfu : HFu P (dN S l)
  case neg =>
    by_cases hs2 : dN S l 18 3 ≤ 2
    · right
      have hf28 : 28 ≤ hf := by
        rcases m2 with q | q
        · exact absurd q hfu
        · exact q
      refine ⟨80 * Nn g (dN S' l 16 960) + 27 * (g.bg - heN S') + 26 + 0, by rw [hroot, hheq]; omega, g', hgs, h', 26, 0, Or.inr ⟨hkn', RkL.t26 hnn hL'⟩, Or.inl (hHF2 hs2), ?_⟩
      rw [hNg, hbg]; exact Nat.le_refl _
    · have hs34 : dN S l 18 3 = 3 ∨ dN S l 18 3 = 4 := by
        rcases hL.s5 with q | q | q | q | q
        · rw [q] at hs2; exact absurd (by decide) hs2
        · rw [q] at hs2; exact absurd (by decide) hs2
        · rw [q] at hs2; exact absurd (by decide) hs2
        · exact Or.inl q
        · exact Or.inr q
      right
      rcases rdW hP hSL hl hA hR h.2.1 hs34 htk hdr with q | q | ⟨_, _, q⟩
      · exact pg q
      · exact absurd q hh
      · have hr' : 0 < w ∧ RkL P l S' (heN S) (w - 1) := by
          rcases q with q | ⟨q1, q2, q3⟩
          · exact hrk.less hnn hL hL' q
          · obtain ⟨x, x1, x2⟩ := hrk
            have hx : 1 ≤ x := by
              rcases x1.2 hs34 with r | r
              · exact absurd r q1
              · exact r
            have hpe : pcd (dN S' l) (heN S) = pcd (dN S l) (heN S) := by unfold pcd; rw [q2]
            refine ⟨by omega, 0, ⟨fun z => by rw [q2] at z; rcases hs34 with r | r <;> rw [r] at z <;> exact absurd z (by decide), fun _ => Or.inl q3⟩, by rw [hpe]; omega⟩
        refine ⟨80 * Nn g (dN S' l 16 960) + 27 * (g.bg - heN S') + (w - 1) + hf, by rw [hroot, hheq]; omega, g', hgs, h', w - 1, hf, Or.inr ⟨hkn', by rw [hheq]; exact hr'.2⟩, hfk, ?_⟩
        rw [hNg, hbg]; exact Nat.le_refl _
  have ok : (0 < w ∧ RkL P l S' (heN S) (w - 1)) → ∃ m', m' < m ∧ ∃ g', Gs g g' ∧ RST P l g' S' ∧ MuL P l g' S' m' := fun hr' => by
    refine ⟨80 * Nn g (dN S' l 16 960) + 27 * (g.bg - heN S') + (w - 1) + hf, by rw [hroot, hheq]; omega, g', hgs, h', w - 1, hf, Or.inr ⟨hkn', by rw [hheq]; exact hr'.2⟩, hfk, ?_⟩
    rw [hNg, hbg]; exact Nat.le_refl _
  have hq : dN S l 18 3 ≤ 2 → QNs P l S := fun hs n k hn hk hm z => hnw ⟨hs, n, k, hn, hk, hm, Or.inl z⟩
  rcases hL.s5 with q | q | q | q | q
  · have hqn := hq (by rw [q]; decide)
    by_cases hb : heN S = g.bg
    · exact Or.inl ⟨hkn, hqn, hfu, q, hb⟩
    · right
      rcases rdK hP hl hA hR h.2.1 hkn hqn hfu q hb htk hdr with r | r | ⟨_, _, r⟩
      · exact pg r
      · exact absurd r hh
      · refine ok (hrk.less hnn hL hL' ?_)
        have : pcd (dN S l) (heN S) = 4 := by
          unfold pcd
          rw [q]
          split <;> rfl
        omega
  · exact absurd q (no_wait hP hl hA hR hkn (hq (by rw [q]; decide)) hfu)
  · right
    rcases rdF hP hl hA hR h.2.1 (hq (by rw [q]; decide)) hfu q htk hdr with r | r | ⟨_, _, r⟩
    · exact pg r
    · exact absurd r hh
    · apply ok
      rcases r with r | ⟨r1, r2, r3, r4, r5⟩
      · exact hrk.less hnn hL hL' r
      · obtain ⟨x, x1, x2⟩ := hrk
        obtain ⟨c, b, c1, c2, c3⟩ := x1.1 q
        have hpe : pcd (dN S' l) (heN S) = pcd (dN S l) (heN S) := by unfold pcd; rw [r1, r2, q]
        have h34 : (dN S' l 18 3 = 3 ∨ dN S' l 18 3 = 4) → amS P l S' ∨ 1 ≤ x - 1 := fun z => by rcases z with z | z <;> rw [r1] at z <;> exact absurd z (by decide)
        rcases c2 with c2 | ⟨c2, c4⟩
        · exact ⟨by omega, x - 1, ⟨fun _ => ⟨c, 0, r4 c c1, Or.inr ⟨rfl, r3⟩, by omega⟩, h34⟩, by rw [hpe]; omega⟩
        · obtain ⟨w1, w2⟩ := r5 c4
          have hc0 : ¬ c = 0 := fun z => w2 (by rw [← z]; exact c1)
          exact ⟨by omega, x - 1, ⟨fun _ => ⟨c - 1, 0, w1 (c - 1) (by rw [show c - 1 + 1 = c by omega]; exact c1), Or.inr ⟨rfl, r3⟩, by omega⟩, h34⟩, by rw [hpe]; omega⟩
  all_goals
    have hs34 : dN S l 18 3 = 3 ∨ dN S l 18 3 = 4 := by
      first | exact Or.inl q | exact Or.inr q
    right
    rcases rdW hP hSL hl hA hR h.2.1 hs34 htk hdr with r | r | ⟨_, _, r⟩
    · exact pg r
    · exact absurd r hh
    · apply ok
      rcases r with r | ⟨r1, r2, r3⟩
      · exact hrk.less hnn hL hL' r
      · obtain ⟨x, x1, x2⟩ := hrk
        have hx : 1 ≤ x := by
          rcases x1.2 hs34 with r | r
          · exact absurd r r1
          · exact r
        have hpe : pcd (dN S' l) (heN S) = pcd (dN S l) (heN S) := by unfold pcd; rw [r2]
        exact ⟨by omega, 0, ⟨fun z => by rw [r2] at z; rcases hs34 with r | r <;> rw [r] at z <;> exact absurd z (by decide), fun _ => Or.inl r3⟩, by rw [hpe]; omega⟩

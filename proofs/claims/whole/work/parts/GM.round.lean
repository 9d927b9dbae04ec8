/-! any round -/
/-- all are at their places for a round -/
def RST (P : Pm) (l : Nat) (g : Gh) (S : SS) : Prop := RG P g l S ∧ S.2.2.1 = [] ∧ PDs P l S ∧ AV P g
/-- under way: what makes that a NODE is heard of -/
def HBo (l : Nat) (S : SS) (n : Nat) : Prop := bt (dN S l 7 9) n = true ∨ (∃ y ∈ S.2.2.1, y.1 0 = 4 ∧ y.1 1 = nI l ∧ y.1 2 = nI n) ∨ ∃ y ∈ S.2.2.1, y.1 0 = 5 ∧ y.1 1 = nI n ∧ y.1 2 = nI l
theorem HBo.st {P : Pm} {g : Gh} {l n : Nat} {x : Mg} {Z : List Mg} {S S' : SS} (hP : PmO P) (hl : l < P.nn) (h : RG P g l S) (hst : St1 P g l x Z S S') (hn : n < P.nn) (hi : HBo l S n) : HBo l S' n := by
  have hnn := hP.nn
  rcases hi with q | ⟨y, y1, y2, y3, y4⟩ | ⟨y, y1, y2, y3, y4⟩
  · exact Or.inl (hst.hf hP hl h q)
  · rcases hst.old y1 with e | ⟨y', b1, b2⟩
    · subst e
      right; right
      rcases hst.cs hnn hl with ⟨c, _⟩ | ⟨j, j1, j2, _, _, _, _, _, _, _, hr, _⟩ | ⟨_, c, _⟩ | ⟨_, _, c, _⟩
      · have := nI_inj (by omega) (by omega) (c.symm.trans y4)
        omega
      · have : j = n := nI_inj (by omega) (by omega) (j2.symm.trans y4)
        subst this
        rcases hr with ⟨c, _⟩ | ⟨_, _, e⟩ | ⟨c, _⟩ | ⟨c, _⟩ | ⟨c, _⟩ | ⟨c, _⟩
        · rw [y2] at c; exact absurd c (by decide)
        · obtain ⟨w, w1, w2⟩ := hst.new (z := mLS j (dN S j) (y.1 1)) (by rw [e]; exact psl_new (hst.lt h.2.1))
          obtain ⟨u0, u1, u2, _⟩ := mLS_v (to := y.1 1) (h.nu hn)
          exact ⟨w, w1, by rw [w2.1]; exact u0, by rw [w2.1]; exact u1, by rw [w2.1, u2]; exact y3⟩
        · rw [y2] at c; exact absurd c (by decide)
        · rw [y2] at c; exact absurd c (by decide)
        · rw [y2] at c; exact absurd c (by decide)
        · rw [y2] at c; exact absurd c (by decide)
      · exact absurd (Or.inr (Or.inl y2)) c
      · exact absurd (Or.inr (Or.inl y2)) (c n hn y4)
    · exact Or.inr (Or.inl ⟨y', b1, by rw [b2.1]; exact y2, by rw [b2.1]; exact y3, by rw [b2.1]; exact y4⟩)
  · rcases hst.old y1 with e | ⟨y', b1, b2⟩
    · subst e
      left
      rcases hst.cs hnn hl with ⟨c, _⟩ | ⟨j, _, _, j3, _⟩ | ⟨_, _, _, _, _, e⟩ | ⟨_, c, _⟩
      · have := nI_inj (by omega) (by omega) (c.symm.trans y4)
        omega
      · rw [y2] at j3
        rcases j3 with z | z | z | z | z | z <;> exact absurd z (by decide)
      · obtain ⟨D1, K1, Z1, Z2, _, _, _, _, e5, _, _, _, e9, _⟩ := e
        rw [e9.1 9 (by decide) (by decide), e5.2.2, if_neg (by rw [y2]; decide), y3, bt_set _ (by omega) (by omega), decide_eq_true rfl, Bool.or_true]
      · exact absurd y4 c
    · exact Or.inr (Or.inr ⟨y', b1, by rw [b2.1]; exact y2, by rw [b2.1]; exact y3, by rw [b2.1]; exact y4⟩)
/-- what every round keeps -/
theorem rdm {P : Pm} {g : Gh} {l : Nat} {S T S' : SS} (hP : PmO P) (hl : l < P.nn) (h : RST P l g S) (htk : tkR P.nn P.gg P.C P.f S T) (hdr : drR P.nn P.gg P.C P.f T S') : (∃ g', Gs g g' ∧ RST P l g' S') ∧ (smT (dN S l) (kN S l) (dN S' l) (kN S' l) ∨ pgT g (dN S l) (kN S l) (dN S' l) (kN S' l)) ∧ heN S ≤ heN S' ∧ (HFu P (dN S l) → HFu P (dN S' l)) ∧ (dN S l 18 3 ≤ 2 → HFu P (dN S' l)) := by
  obtain ⟨hR, hms, hPD, hA⟩ := h
  have hnn := hP.nn
  obtain ⟨g1, Zs, hg1, hT, ht⟩ := hR.tk hP hl hms htk
  obtain ⟨e1, e2, e3, _, _, _, eK, _, _⟩ := ht.ld hl
  have hsm : smT (dN S l) (kN S l) (dN T l) (kN T l) := smT.of (e1 16 (by decide) (by decide)) (e1 10 (by decide) (by decide)) (e1 15 (by decide) (by decide)) eK
  have hheT : heN T = heN S := by unfold heN; rw [ht.e.1]
  obtain ⟨h0, g2, hg2, h2, hI⟩ := RG.dr (I := fun g S1 => (PNs l S1 ∧ PDs P l S1) ∧ (smT (dN T l) (kN T l) (dN S1 l) (kN S1 l) ∨ pgT g (dN T l) (kN T l) (dN S1 l) (kN S1 l)) ∧ heN S ≤ heN S1 ∧ (HFu P (dN S l) → HFu P (dN S1 l)) ∧ (dN S l 18 3 ≤ 2 → ∀ n, n < P.nn → HBo l S1 n)) hP hl (fun g g' S1 S1' x Z h hi hst hgs h' => by
    obtain ⟨i1, i2, i3, i4, i5⟩ := hi
    refine ⟨PNs.st hP hl h i1 hst h', ?_, Nat.le_trans i3 (hst.he hP hl h h').1, fun z n hn => hst.hf hP hl h (i4 z n hn), fun z n hn => (i5 z n hn).st hP hl h hst hn⟩
    have lm := hst.lm hP hl h
    rcases i2 with i2 | i2
    · rcases lm with lm | lm
      · exact Or.inl (i2.tr lm)
      · exact Or.inr ((i2.pg lm).gs hgs)
    · right
      apply pgT.gs hgs
      rcases lm with lm | lm
      · exact i2.sm (Or.inl lm)
      · exact i2.tr lm) hT ⟨ht.pn hP hl hR, Or.inl (smT.rf _ _), by omega, fun z n hn => by rw [e2 9 (by decide) (by decide) (by decide)]; exact z n hn, fun z n hn => by
    cases hcl : bt (dN S l 7 10) n with
    | true =>
      left
      rw [e2 9 (by decide) (by decide) (by decide)]
      exact ((hR.gh hl).2.1 z n (by omega) hcl).1
    | false =>
      right; left
      obtain ⟨D1, D2, Zw, f2, wz, _, w4, _⟩ := ht.wz hl
      obtain ⟨Dq, Zp, Zq, Zm, x1, _, _, _, _, x5, _⟩ := wz
      rw [f2 18 (by decide) (by decide) (by decide), f2 7 (by decide) (by decide) (by decide)] at x5
      rcases x5 with x5 | x5
      · rcases x5 with x5 | x5 <;> rw [x5] at z <;> exact absurd z (by decide)
      · obtain ⟨y, y1, y2⟩ := w4 _ (by rw [x1]; exact List.mem_append_left _ (x5 n hn hcl))
        exact ⟨y, y1, by rw [y2.1]; rfl, by rw [y2.1]; rfl, by rw [y2.1]; rfl⟩⟩ hdr
  obtain ⟨i1, i2, i3, i4, i5⟩ := hI
  refine ⟨⟨g2, hg1.tr hg2, h2, h0, i1.2, (hA.gs hg1).gs hg2⟩, ?_, i3, i4, fun z n hn => ?_⟩
  · rcases i2 with i2 | i2
    · exact Or.inl (hsm.tr i2)
    · right
      apply hsm.pg
      unfold pgT at i2 ⊢
      rw [Nn_gs hg2, Nn_gs hg1] at i2
      exact i2
  · rcases i5 z n hn with q | ⟨y, q, _⟩ | ⟨y, q, _⟩
    · exact q
    · rw [h0] at q; cases q
    · rw [h0] at q; cases q
/-- a quiet leader that has heard of all doesn't wait -/
theorem no_wait {P : Pm} {g : Gh} {l : Nat} {S : SS} (hP : PmO P) (hl : l < P.nn) (hA : AV P g) (h : RG P g l S) (hkn : ¬ knA (kN S l) (dN S l 10 9) = 0) (hq : QNs P l S) (hf : HFu P (dN S l)) : ¬ dN S l 18 3 = 1 := fun hs => by
  have hL := h.lo hl
  have hG := h.1.1.go
  have h5 := hG.1
  obtain ⟨_, e2, e3, _⟩ := h.he
  have hrt := quiet_rt hP hA h hq
  rcases (h.gh hl).1.1 hs with q | q | ⟨q1, q2, q3⟩
  · exact hkn q
  · exact rd_full hP hA hL hf hP.gg q
  · obtain ⟨o, zo⟩ := hL.wa (by rw [hs]; decide)
    obtain ⟨r, zr⟩ := hL.idle (by rw [hs]; decide)
    have o1 := zo.o1
    have o2 := zo.o2.2
    have hr1 := zr.r1
    have oh : o ≤ heN S := by omega
    apply q3
    rw [zo.bf, zr.rt]
    -- the newest that was heard of is no newer than that
    have up : ∀ v, v < 512 → efv g.ops o = nI v → nI v ≤ dN S l 16 960 := fun v hv he => by
      obtain ⟨v1, _⟩ := efv_lt he hv (by omega)
      obtain ⟨v', w1, w2, w3⟩ := efv_up he v1 (heN S) oh (by omega)
      exact Int32.le_trans (nI_le w1 (by omega)) (hrt v' (by omega) w3)
    rcases efv_or g.ops r with z | ⟨w, w1, w2, w3, _⟩
    · rw [z]
      rcases efv_or g.ops o with y | ⟨v, v1, v2, _⟩
      · exact y.symm
      · have := up v (by omega) v2
        rw [zr.rt, z] at this
        exact absurd (Int32.lt_of_le_of_lt this (by decide)) (nI_pos (by omega))
    · rw [zr.rt, w2, zo.ak.op] at q1 q2
      have q1 := (nI_leI (by omega) (by omega)).mp q1
      have hne : ¬ w = o := fun z => q2 (by rw [z])
      obtain ⟨v, v1, v2, v3⟩ := efv_up (efv_s w3) (Nat.lt_succ_self w) o (by omega) (by omega)
      have := up v (by omega) v3
      rw [zr.rt, w2] at this
      have := (nI_leI (by omega) (by omega)).mp this
      rw [w2, v3]
      congr 1
      omega

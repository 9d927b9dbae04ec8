/-! the NODES that are clean were heard of -/
def K7 (D D' : Nat → Nat → Int32) : Prop := (∀ x, x ≠ 10 → x ≠ 14 → D' 7 x = D 7 x) ∧ D' 8 = D 8
theorem K7.rf (D : Nat → Nat → Int32) : K7 D D := ⟨fun _ _ _ => rfl, rfl⟩
theorem K7.tr {A B C : Nat → Nat → Int32} (h : K7 A B) (h2 : K7 B C) : K7 A C := ⟨fun x a b => by rw [h2.1 x a b, h.1 x a b], by rw [h2.2, h.2]⟩
theorem K7.lt {D D' : Nat → Nat → Int32} (h : ∀ q, q < 10 → D' q = D q) : K7 D D' := ⟨fun x _ _ => by rw [h 7 (by decide)], h 8 (by decide)⟩
theorem k7_6 {P : Pm} {me : Int32} {u b : Nat → Int32} {D : Nat → Nat → Int32} {K A : Int64} {Y : List Mg} {w1 : Int32} (hnn : P.nn ≤ 6) : K7 D (F_91_k6 P.nn P.gg P.C me P.f u b D K A Y w1).1 := by
  unfold F_91_k6
  by_cases c : D 18 3 = w1
  · rw [if_pos c]; exact K7.rf D
  · obtain ⟨Z, z1, _⟩ := push_z (nn := P.nn) (gg := P.gg) (C := P.C) (me := me) (f := P.f) (u := u) (b := b) (D := D) (K := K) (A := A) hnn
    rw [if_neg c, z1 Y, bnS_e]; exact K7.rf D
theorem k7_5 {P : Pm} {me : Int32} {u b : Nat → Int32} {D : Nat → Nat → Int32} {K A : Int64} {Y : List Mg} {w1 : Int32} (hnn : P.nn ≤ 6) : K7 D (F_91_k5 P.nn P.gg P.C me P.f u b D K A Y w1).1 := by
  unfold F_91_k5
  by_cases c : D 18 3 = 5
  · have hF : ∃ Y1, F_123 P.nn P.gg P.C me P.f u b D K A Y = (va_up D 18 (upd (D 18) 3 0), K, A, Y1) := ⟨_, by unfold F_123; rw [bnN_e]⟩
    obtain ⟨Y1, hF⟩ := hF
    rw [if_neg (fun z => z c), hF, bnS_e]
    exact (K7.lt (fun q hq => va_up_n _ _ (by omega))).tr (k7_6 hnn)
  · rw [if_pos c]
    exact k7_6 hnn
theorem k7_4 {P : Pm} {me : Int32} {u b : Nat → Int32} {D : Nat → Nat → Int32} {K A : Int64} {Y : List Mg} {w1 : Int32} (hnn : P.nn ≤ 6) : K7 D (F_91_k4 P.nn P.gg P.C me P.f u b D K A Y w1).1 := by
  unfold F_91_k4
  by_cases c : D 18 3 = 4
  · rw [if_neg (fun z => z c), bnI_e]
    by_cases d : arS P.gg D (9 - 8) 8 = 0
    · rw [if_pos d]
      exact k7_5 hnn
    · rw [if_neg d]
      refine K7.tr ⟨fun x a1 a2 => ?_, ?_⟩ (k7_5 hnn)
      · rw [va_up_n _ _ (by decide), va_up_s, pk_un a2, pk_un a1]
      · rw [va_up_n _ _ (by decide), va_up_n _ _ (by decide)]
  · rw [if_pos c]
    exact k7_5 hnn
theorem k7_3 {P : Pm} {g : Gh} {e : Nat} {me : Int32} {u b : Nat → Int32} {D : Nat → Nat → Int32} {K A : Int64} {Y : List Mg} {w1 : Int32} (hG : GO g) (hgg : 0 < P.gg) (hnn : P.nn ≤ 6) (hL : LO P g e D K ∨ TE P g e D K) : K7 D (F_91_k3 P.nn P.gg P.C me P.f u b D K A Y w1).1 := by
  unfold F_91_k3
  by_cases c : D 18 3 = 3
  · rw [if_neg (fun z => z c), bnI_e]
    by_cases d : arS P.gg D (8 - 0) 0 = 0
    · rw [if_pos d]
      exact k7_4 hnn
    · rw [if_neg d]
      rcases hL with hL | hL
      · obtain ⟨D1, r1, r2, _⟩ := root_all (me := me) (u := u) (b := b) (A := A) (Y := Y) hG hgg hnn hL c d
        rw [r1, bnS_e]
        exact (K7.lt r2).tr (k7_4 hnn)
      · rw [hL.s5] at c; exact absurd c (by decide)
  · rw [if_pos c]
    exact k7_4 hnn
theorem k7_2 {P : Pm} {g : Gh} {e : Nat} {me : Int32} {u b : Nat → Int32} {D : Nat → Nat → Int32} {K A : Int64} {Y : List Mg} {w1 : Int32} (hG : GO g) (hgg : 0 < P.gg) (hnn : P.nn ≤ 6) (hL : LO P g e D K ∨ TE P g e D K) : K7 D (F_91_k2 P.nn P.gg P.C me P.f u b D K A Y w1).1 := by
  unfold F_91_k2
  by_cases c : D 18 3 = 2
  · rw [if_neg (fun z => z c)]
    by_cases d : D 18 12 = 0
    · rw [if_neg (fun z => z d)]
      rcases hL with hL | hL
      · obtain ⟨D1, K1, r1, r2, r3⟩ := change_all (me := me) (u := u) (b := b) (A := A) (Y := Y) hG hL c d
        rw [bnS_2 (F_104 P.nn P.gg P.C me P.f u b D K A Y) (F_114 P.nn P.gg P.C me P.f u b) (fun D4 K4 A4 Y4 => F_91_k3 P.nn P.gg P.C me P.f u b D4 K4 A4 Y4 w1), r1, bnS_e]
        exact (K7.lt r2).tr (k7_3 hG hgg hnn r3)
      · rw [hL.s5] at c; exact absurd c (by decide)
    · rw [if_pos d]
      exact k7_3 hG hgg hnn hL
  · rw [if_pos c]
    exact k7_3 hG hgg hnn hL
theorem k7_91 {P : Pm} {g : Gh} {e : Nat} {me : Int32} {u b : Nat → Int32} {D : Nat → Nat → Int32} {K A : Int64} {Y : List Mg} (hG : GO g) (hgg : 0 < P.gg) (hnn : P.nn ≤ 6) (h : LO P g e D K) : K7 D (F_91 P.nn P.gg P.C me P.f u b D K A Y).1 := by
  unfold F_91
  rw [bnI_e]
  by_cases c : D 18 3 = 1
  · rw [if_neg (fun z => z c)]
    by_cases d : knA K (D 10 9) = 0
    · rw [if_pos d]
      exact k7_2 hG hgg hnn (Or.inl h)
    · rw [if_neg d]
      by_cases r : rdB (D 8) (D 7 9) 0 = 0
      · rw [if_pos r]
        exact k7_2 hG hgg hnn (Or.inl h)
      · rw [if_neg r]
        obtain ⟨D1, r1, r2, r3⟩ := plan_all (me := me) (u := u) (b := b) (A := A) (Y := Y) hG h c d
        rw [r1, bnS_e]
        exact (K7.lt (fun q hq => r2 q (by omega))).tr (k7_2 hG hgg hnn r3)
  · rw [if_pos c]
    exact k7_2 hG hgg hnn (Or.inl h)
/-- hear: cells 7 and 8 -/
def K9 (u : Nat → Int32) (D D' : Nat → Nat → Int32) : Prop := (∀ x, x ≠ 9 → x ≠ 10 → x ≠ 14 → D' 7 x = D 7 x) ∧ D' 8 = D 8 ∧ D' 7 9 = if u 0 = 2 then D 7 9 else (D 7 9) ||| (1 <<< ((u 1) &&& 31))
theorem k9_67 {P : Pm} {g : Gh} {e : Nat} {me : Int32} {u b : Nat → Int32} {D : Nat → Nat → Int32} {K A : Int64} {Y : List Mg} (hG : GO g) (hb12 : g.bg ≤ g.sn + 12) (hgg : 0 < P.gg) (hnn : P.nn ≤ 6) (hf : Rg P.nn P.f) (h : LO P g e D K) (hm : MO P g e (u, b)) (hs : MS P g (u, b)) : K9 u D (F_67 P.nn P.gg P.C me P.f u b D K A Y).1 := by
  have h7 : LO P g e (va_up D 7 (upd (D 7) 9 ((D 7 9) ||| (1 <<< ((u 1) &&& 31))))) K := h.f7 (pk_un (by decide)) (pk_un (by decide))
  generalize hD1 : va_up D 7 (upd (D 7) 9 ((D 7 9) ||| (1 <<< ((u 1) &&& 31)))) = D1 at h7
  have w9 : D1 7 9 = (D 7 9) ||| (1 <<< ((u 1) &&& 31)) := by rw [← hD1, va_up_s, pk_us]
  have w7 : ∀ x, x ≠ 9 → D1 7 x = D 7 x := fun x hx => by rw [← hD1, va_up_s, pk_un hx]
  have w8 : D1 8 = D 8 := by rw [← hD1, va_up_n _ _ (by decide)]
  by_cases c2 : u 0 = 2
  · obtain ⟨D', r1, r2, _⟩ := take_z (nn := P.nn) (gg := P.gg) (C := P.C) (me := me) (f := P.f) (u := u) (b := b) (g := g) (D := D) (K := K) (A := A) c2
    unfold F_67
    rw [if_neg (fun z => z c2), r1 Y, bnS_e]
    show K9 u D D'
    exact ⟨fun x _ _ _ => by rw [r2 7 (by decide)], r2 8 (by decide), by rw [if_pos c2, r2 7 (by decide)]⟩
  have fin : ∀ D', (∀ x, x ≠ 10 → x ≠ 14 → D' 7 x = D1 7 x) → D' 8 = D1 8 → K9 u D D' := fun D' q1 q2 => ⟨fun x a1 a2 a3 => by rw [q1 x a2 a3, w7 x a1], by rw [q2, w8], by rw [if_neg c2, q1 9 (by decide) (by decide), w9]⟩
  by_cases c5 : u 0 = 5
  · obtain ⟨n, n1, n2, n3⟩ := hm.ls (Or.inl c5)
    obtain ⟨cnt, k1, k2, k3, k4⟩ := hs.1 c5
    have n2 : u 1 = nI n := n2
    have k2 : u 7 = nI cnt := k2
    have hcl : (u 7).toNatClampNeg = cnt := by rw [k2, nI_clamp (by omega)]
    have hfd : ∀ j, 0 ≤ j → j < 0 + cnt → fdO D1 (b j) := fun j _ hj => by
      obtain ⟨k, a1, a2, _⟩ := k4 j (by omega)
      have a2 : b j = nI k := a2
      rw [a2]; exact h7.fdO hgg a1
    have hsure : ∃ s2 s3 : Int32, (∀ Y, F_70 P.nn P.gg P.C me P.f u b D1 K A Y = G_70 P.nn P.gg P.C me P.f u b s2 s3 cnt 0 0 0 D1 K A Y) := by
      by_cases e1 : acB (D1 18 3) = 0
      · by_cases e2 : knA K (D1 10 9) = 0
        · exact ⟨0, 0, fun Y => by unfold F_70; rw [bnN_e, hcl, if_neg (fun z => z e1), if_pos e2]⟩
        · by_cases e3 : sfB (D1 8) (D1 11) (D1 16) (D1 17) P.gg 960 = 0
          · exact ⟨1, 0, fun Y => by unfold F_70; rw [bnN_e, hcl, if_neg (fun z => z e1), if_neg e2, if_pos e3]⟩
          · exact ⟨1, 1, fun Y => by unfold F_70; rw [bnN_e, hcl, if_neg (fun z => z e1), if_neg e2, if_neg e3]⟩
      · exact ⟨0, 0, fun Y => by unfold F_70; rw [bnN_e, hcl, if_pos e1]⟩
    obtain ⟨s2, s3, hF⟩ := hsure
    obtain ⟨D', A', Z, r1, r2⟩ := listed_z (nn := P.nn) (gg := P.gg) (C := P.C) (me := me) (f := P.f) (s2 := s2) (s3 := s3) (K := K) (show n < 32 by omega) n2 cnt 0 0 0 D1 A (by omega) hfd
    unfold F_67
    rw [if_pos c2, if_pos c5, hD1, hF Y]
    have := r1 Y
    rw [nI_0] at this
    rw [this, bnS_e]
    exact fin D' (fun x a1 _ => r2.2.1 x a1) (r2.1 8 (by decide) (by decide) (by decide))
  by_cases c7 : u 0 = 7
  · obtain ⟨n, k, n1, n2, k1, k2, k3, k4, k5⟩ := hm.it c7
    obtain ⟨D', K', A', Z, r1, _, _, _, r5, r6, _⟩ := item_z (me := me) (u := u) (b := b) (A := A) hG hb12 hgg hnn n1 n2 c7 k1 k2 k3 k4 k5 h7
    unfold F_67
    rw [if_pos c2, if_neg c5, if_neg (show ¬ u 0 = 6 by rw [c7]; decide), if_pos c7, hD1, r1 Y, bnS_e]
    exact fin D' r6 r5
  by_cases c8 : u 0 = 8
  · obtain ⟨n, n1, n2⟩ := hm.lk c8
    obtain ⟨D', r1, r2, r3, _⟩ := lack_z (nn := P.nn) (gg := P.gg) (C := P.C) (me := me) (f := P.f) (u := u) (b := b) (D := D1) (K := K) (A := A) (show n < 32 by omega) n2
    unfold F_67
    rw [if_pos c2, if_neg c5, if_neg (show ¬ u 0 = 6 by rw [c8]; decide), if_neg c7, if_pos c8, hD1, r1 Y, bnS_e]
    exact fin D' r3 (r2 8 (by decide) (by decide))
  by_cases c11 : u 0 = 11
  · obtain ⟨n, n1, n2, n3⟩ := hm.ls (Or.inr c11)
    have n2 : u 1 = nI n := n2
    obtain ⟨D', r1, r2, r3, _⟩ := have_z (nn := P.nn) (gg := P.gg) (C := P.C) (me := me) (f := P.f) (u := u) (b := b) (K := K) (A := A) (show n < 32 by omega) n2 (u 7).toNatClampNeg 0 D1 (fun j _ hj => by
      obtain ⟨k, a1, a2, _⟩ := n3 j (by rw [Nat.zero_add] at hj; exact hj)
      have a1 : b j = nI k := a1
      rw [a1]; exact (h7.fdO hgg a2).1)
    unfold F_67
    rw [if_pos c2, if_neg c5, if_neg (show ¬ u 0 = 6 by rw [c11]; decide), if_neg c7, if_neg c8, if_neg (show ¬ u 0 = 9 by rw [c11]; decide), if_neg (show ¬ u 0 = 10 by rw [c11]; decide), if_pos c11, hD1]
    unfold F_89
    rw [bnN_e]
    have := r1 Y
    rw [this, bnS_e]
    exact fin D' (fun x a1 _ => r3 x a1) (r2 8 (by decide) (by decide))
  · unfold F_67
    rw [if_pos c2, if_neg c5, if_neg c7, if_neg c8, if_neg c11]
    simp only [ite_self]
    rw [hD1]
    exact fin D1 (fun _ _ _ => rfl) rfl
/-- in FETCH or before, a NODE that is clean was heard of -/
def HCl (D : Nat → Nat → Int32) : Prop := D 18 3 ≤ 2 → ∀ n, n < 32 → bt (D 7 10) n = true → bt (D 7 9) n = true
theorem HCl.cg {D D' : Nat → Nat → Int32} (h : HCl D) (e7 : D' 7 = D 7) (e18 : D' 18 = D 18) : HCl D' := fun hs n hn hb => by
  rw [e18] at hs
  rw [e7] at hb ⊢
  exact h hs n hn hb
def GH (P : Pm) (D : Nat → Nat → Int32) (K : Int64) : Prop := GD P.gg D K ∧ HCl D
theorem GH.fr {P : Pm} {D : Nat → Nat → Int32} {K : Int64} (h : D 18 3 = 0) (h2 : D 7 10 = 0) : GH P D K := ⟨GD.st h (by decide) (by decide) (by decide) (by decide), fun _ n _ hb => by rw [h2, b_0] at hb; cases hb⟩
theorem gh_55k {P : Pm} {g : Gh} {n e : Nat} {u b : Nat → Int32} {D D' : Nat → Nat → Int32} {K A K' A' : Int64} {Y Y' : List Mg} (hG : GO g) (hb12 : g.bg ≤ g.sn + 12) (hgg : 0 < P.gg) (hnn : P.nn ≤ 6) (hf : Rg P.nn P.f) (hn : n < P.nn) (h : NU P g n e D K) (hm : MO P g e (u, b)) (hs : MS P g (u, b)) (hd : ¬ ldB P.f P.nn (nI n) (D 0 8) = 0 → GH P D K)
    (hF : F_55_k P.nn P.gg P.C (nI n) P.f u b D K A Y = (D', K', A', Y')) : ¬ ldB P.f P.nn (nI n) (D 0 8) = 0 → GH P D' K' := fun hl => by
  refine ⟨gd_55k hG hb12 hgg hnn hf hn h hm hs (fun z => (hd z).1) hF hl, ?_⟩
  obtain ⟨D2, K2, A2, Z, r1, _, r3⟩ := node_z (A := A) (Y := Y) hG hb12 hgg hnn hf hn h hm hs
  have e1 := r1.symm.trans hF
  rw [Prod.mk.injEq, Prod.mk.injEq] at e1
  obtain ⟨e11, e12, _⟩ := e1
  subst e11 e12
  rcases r3 with ⟨_, _, _, q3, _⟩ | ⟨hno, _, q⟩ | ⟨_, q, _⟩
  · exact (hd hl).2.cg (q3 7 (Or.inr (by decide))) (q3 18 (Or.inr (by decide)))
  · have c0 : ¬ u 0 = 0 := fun z => hno (Or.inl z)
    have c4 : ¬ u 0 = 4 := fun z => hno (Or.inr (Or.inl z))
    have c6 : ¬ u 0 = 6 := fun z => hno (Or.inr (Or.inr (Or.inl z)))
    have c9 : ¬ u 0 = 9 := fun z => hno (Or.inr (Or.inr (Or.inr (Or.inl z))))
    have c10 : ¬ u 0 = 10 := fun z => hno (Or.inr (Or.inr (Or.inr (Or.inr (Or.inl z)))))
    have c12 : ¬ u 0 = 12 := fun z => hno (Or.inr (Or.inr (Or.inr (Or.inr (Or.inr z)))))
    have k9 : K9 u D D2 := by
      unfold F_55_k at hF
      rw [if_neg c0, if_neg c4, if_neg c6, if_neg c9, if_neg c10, if_neg c12] at hF
      simp only [ite_self] at hF
      rw [if_neg hl] at hF
      obtain ⟨D1, K1, A1, Z1, t1, _, t3, _⟩ := hear_z (me := nI n) (A := A) hG hb12 hgg hnn hf (h.ld hl) hm hs
      have ka := k9_67 (me := nI n) (A := A) (Y := Y) hG hb12 hgg hnn hf (h.ld hl) hm hs
      rw [t1 Y] at ka
      rw [t1 Y, bnS_e] at hF
      have kb := k7_91 (me := nI n) (u := u) (b := b) (A := A1) (Y := psl Y Z1) hG hgg hnn t3
      obtain ⟨D4, K4, A4, Y4, h4⟩ : ∃ D4 K4 A4 Y4, F_91 P.nn P.gg P.C (nI n) P.f u b D1 K1 A1 (psl Y Z1) = (D4, K4, A4, Y4) := ⟨_, _, _, _, rfl⟩
      rw [h4, bnS_e] at hF
      rw [h4] at kb
      replace kb : K7 D1 D4 := kb
      replace ka : K9 u D D1 := ka
      have e1 := (Prod.mk.inj hF).1
      subst e1
      exact ⟨fun x a1 a2 a3 => by rw [kb.1 x a2 a3]; exact ka.1 x a1 a2 a3, by rw [kb.2]; exact ka.2.1, by rw [kb.1 9 (by decide) (by decide)]; exact ka.2.2⟩
    intro hst m hm' hb
    rw [k9.2.2]
    rcases q.2.2.1 m hm' hst hb with ⟨a1, a2, _⟩ | ⟨a1, a2, _⟩
    · have := (hd hl).2 a1 m hm' a2
      split
      · exact this
      · rw [b_or, this]; rfl
    · rw [if_neg (by rw [a1]; decide), a2, bt_set _ hm' hm', decide_eq_true rfl, Bool.or_true]
  · exact absurd q hl
theorem z710_29 {P : Pm} {g : Gh} {n e2 : Nat} {D D' : Nat → Nat → Int32} {K' A' : Int64} {Z : List Mg} (h : FLz P g n e2 D D' K' A' Z) : ¬ ldB P.f P.nn (nI n) (D' 0 8) = 0 → D' 7 10 = 0 := fun hl => by
  rw [h.1, pk_us] at hl
  rcases h.2.2 with ⟨q, _⟩ | ⟨_, _, _, q, _⟩
  · exact absurd q hl
  · exact q
theorem gh_55 {P : Pm} {g : Gh} {n e e2 : Nat} {u b : Nat → Int32} {D D' : Nat → Nat → Int32} {K A K' A' : Int64} {Y Y' : List Mg} (hG : GO g) (hb12 : g.bg ≤ g.sn + 12) (hep : g.ep < 2 ^ 31) (hgg : 0 < P.gg) (hnn : P.nn ≤ 6) (hf : Rg P.nn P.f) (hn : n < P.nn) (h : NU P g n e D K) (hm : MO P g e2 (u, b)) (hs : MS P g (u, b)) (hd : ¬ ldB P.f P.nn (nI n) (D 0 8) = 0 → GH P D K)
    (hF : F_55 P.nn P.gg P.C (nI n) P.f u b D K A Y = (D', K', A', Y')) : ¬ ldB P.f P.nn (nI n) (D' 0 8) = 0 → GH P D' K' := by
  have h3 : u 3 = nI e2 := hm.ep.1
  have h4 : u 4 = g.mp e2 := hm.ep.2.2
  have he := h.ep.2.1
  have he2 := hm.ep.2.1
  have key : ∀ {e : Nat} {D : Nat → Nat → Int32} {K A : Int64} {Y : List Mg}, NU P g n e D K → MO P g e (u, b) → F_55_k P.nn P.gg P.C (nI n) P.f u b D K A Y = (D', K', A', Y') → D' 0 = D 0 := fun {e D K A Y} h hm hF => by
    obtain ⟨D2, K2, A2, Z, r1, _, r3⟩ := node_z (A := A) (Y := Y) hG hb12 hgg hnn hf hn h hm hs
    have e1 := (Prod.mk.inj (r1.symm.trans hF)).1
    subst e1
    rcases r3 with ⟨_, _, _, q3, _⟩ | ⟨_, _, q⟩ | ⟨_, _, q, _⟩
    · exact q3 0 (Or.inl rfl)
    · exact q.2.2.2.1 0 (by decide)
    · rw [q]
  unfold F_55 at hF
  rw [h.ep.1, h3] at hF
  by_cases c1 : nI e ≤ nI e2
  · rw [if_pos c1] at hF
    have c1 := (nI_leI (by omega) (by omega)).mp c1
    by_cases c2 : nI e2 ≤ nI e
    · rw [if_pos c2] at hF
      have c2 := (nI_leI (by omega) (by omega)).mp c2
      have : e2 = e := by omega
      subst this
      rw [key h hm hF]
      exact gh_55k hG hb12 hgg hnn hf hn h hm hs hd hF
    · rw [if_neg c2, h4] at hF
      obtain ⟨D1, K1, A1, Z1, f1, f2⟩ := follow_z (P := P) (g := g) (n := n) (e2 := e2) (u := u) (b := b) (D := D) (K := K) (A := A) hnn
      obtain ⟨D3, K3, A3, Y3, r1, r2, _, _⟩ := follow_lem (u := u) (b := b) (K := K) (A := A) (Y := []) h.du h.rp h.rk h.ni c1 he2 (Nat.le_trans h.ep.2.2.2 c1) (fun y hy => by cases hy)
      have e3 := (f1 []).symm.trans r1
      rw [Prod.mk.injEq, Prod.mk.injEq] at e3
      obtain ⟨e31, e32, _⟩ := e3
      subst e31 e32
      have h0 := st_29 (P := P) (me := nI n) (u := u) (b := b) (D := D) (K := K) (A := A) (Y := Y) (e2 := nI e2) (s2 := g.mp e2) hnn
      rw [f1 Y] at h0
      rw [f1 Y, bnS_e] at hF
      rw [key r2 hm hF]
      exact gh_55k hG hb12 hgg hnn hf hn r2 hm hs (fun q => GH.fr h0 (z710_29 f2 q)) hF
  · rw [if_neg c1] at hF
    rw [Prod.mk.injEq, Prod.mk.injEq] at hF
    obtain ⟨e11, e12, _⟩ := hF
    subst e11 e12
    exact hd
theorem gh_136 {P : Pm} {g : Gh} {n e : Nat} {u b : Nat → Int32} {D D' : Nat → Nat → Int32} {K A K' A' : Int64} {Y Y' : List Mg} (hG : GO g) (hgg : 0 < P.gg) (hnn : P.nn ≤ 6) (hf : Rg P.nn P.f) (hn : n < P.nn) (h : NU P g n e D K) (hd : ¬ ldB P.f P.nn (nI n) (D 0 8) = 0 → GH P D K)
    (hF : F_136 P.nn P.gg P.C (nI n) P.f u b D K A Y = (D', K', A', Y')) : ¬ ldB P.f P.nn (nI n) (D 0 8) = 0 → GH P D' K' := fun c => by
  refine ⟨gd_136 hG hgg hnn hf hn h hF c, ?_⟩
  obtain ⟨D1, Zf, r1, r2, r3, r4, r5, r6⟩ := flush_z (nn := P.nn) (gg := P.gg) (C := P.C) (me := nI n) (f := P.f) (u := u) (b := b) (K := K) (A := A) (Bg_X P g) h.du
  have hN : NU P g n e D1 K := h.disk (fun q hq => r4 q (by omega) (by omega) (by omega)) r2 (fun k _ ⟨s, s1, s2, s3⟩ => Or.inl ⟨s, s1, by rw [r4 6 (by decide) (by decide) (by decide)]; exact s2, r5 s s1⟩)
  have e0 : D1 0 = D 0 := r4 0 (by decide) (by decide) (by decide)
  unfold F_136 at hF
  rw [r1 Y, bnS_e, if_neg (by rw [e0]; exact c)] at hF
  have hLO := hN.ld (by rw [e0]; exact c)
  obtain ⟨D2, Zw, w1, w2, w3, w4, w5, w6, _⟩ := work_z (me := nI n) (u := u) (b := b) (A := A) hG hgg hnn (by omega) hf hN.ni hLO
  rw [w1 _, bnS_e] at hF
  obtain ⟨D3, K3, Zg, t1, t2, t3, t4, t5⟩ := goon_z (me := nI n) (u := u) (b := b) (A := 0) (Y := psl (psl Y Zf) Zw) hG hgg hnn w2
  have k7 := k7_91 (me := nI n) (u := u) (b := b) (A := 0) (Y := psl (psl Y Zf) Zw) hG hgg hnn w2
  rw [t1] at k7
  replace k7 : K7 D2 D3 := k7
  rw [t1, bnS_e] at hF
  have e1 := (Prod.mk.inj hF).1
  subst e1
  intro hst m hm hb
  obtain ⟨a1, a2, _⟩ := t5.2.2.2.1 hst m hm hb
  rw [k7.1 9 (by decide) (by decide), w6 9 (by decide) (by decide) (by decide), r4 7 (by decide) (by decide) (by decide)]
  rw [w6 10 (by decide) (by decide) (by decide), r4 7 (by decide) (by decide) (by decide)] at a1
  refine (hd c).2 ?_ m hm a1
  rcases a2 with a2 | a2
  · rw [w5 18 (by decide), r4 18 (by decide) (by decide) (by decide)] at a2; exact a2
  · exact absurd a2 w2.no5

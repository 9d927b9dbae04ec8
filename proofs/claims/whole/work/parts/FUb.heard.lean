/-! the NODES that are clean were heard of -/
def K7 (D D' : Nat → Nat → Int32) : Prop := (∀ x, x ≠ 10 → x ≠ 14 → D' 7 x = D 7 x) ∧ D' 8 = D 8
theorem K7.rf (D : Nat → Nat → Int32) : K7 D D := ⟨fun _ _ _ => rfl, rfl⟩
theorem K7.tr {A B C : Nat → Nat → Int32} (h : K7 A B) (h2 : K7 B C) : K7 A C := ⟨fun x a b => by rw [h2.1 x a b, h.1 x a b], by rw [h2.2, h.2]⟩
theorem K7.lt {D D' : Nat → Nat → Int32} (h : ∀ q, q < 10 → D' q = D q) : K7 D D' := ⟨fun x _ _ => by rw [h 7 (by decide)], h 8 (by decide)⟩
theorem k7_6 {P : Pm} {me : Int32} {u b : Nat → Int32} {D : Nat → Nat → Int32} {K A : Int64} {Y : List Mg} {w1 : Int32} (hnn : P.nn ≤ 6) : K7 D (F_91_k6 P.nn P.gg P.C me P.f u b D K A Y w1).1 := by
  unfold F_91_k6
  by_cases c : D 18 3 = w1
  · rw [if_pos c]; exact K7.rf D
  · obtain ⟨Z, z1, _⟩ := push_z (nn := P.nn) (gg := P.gg) (C := P.C) (me := me) (f := P.f) (u := u) (b := b) (D := D) (K := K) (A := A) hnn
    rw [if_neg c, z1 Y, bnS_e]; exact K7.rf D
theorem k7_5 {P : Pm} {me : Int32} {u b : Nat → Int32} {D : Nat → Nat → Int32} {K A : Int64} {Y : List Mg} {w1 : Int32} (hnn : P.nn ≤ 6) : K7 D (F_91_k5 P.nn P.gg P.C me P.f u b D K A Y w1).1 := by
  unfold F_91_k5
  by_cases c : D 18 3 = 5
  · have hF : ∃ Y1, F_123 P.nn P.gg P.C me P.f u b D K A Y = (va_up D 18 (upd (D 18) 3 0), K, A, Y1) := ⟨_, by unfold F_123; rw [bnN_e]⟩
    obtain ⟨Y1, hF⟩ := hF
    rw [if_neg (fun z => z c), hF, bnS_e]
    exact (K7.lt (fun q hq => va_up_n _ _ (by omega))).tr (k7_6 hnn)
  · rw [if_pos c]
    exact k7_6 hnn
theorem k7_4 {P : Pm} {me : Int32} {u b : Nat → Int32} {D : Nat → Nat → Int32} {K A : Int64} {Y : List Mg} {w1 : Int32} (hnn : P.nn ≤ 6) : K7 D (F_91_k4 P.nn P.gg P.C me P.f u b D K A Y w1).1 := by
  unfold F_91_k4
  by_cases c : D 18 3 = 4
  · rw [if_neg (fun z => z c), bnI_e]
    by_cases d : arS P.gg D (9 - 8) 8 = 0
    · rw [if_pos d]
      exact k7_5 hnn
    · rw [if_neg d]
      refine K7.tr ⟨fun x a1 a2 => ?_, ?_⟩ (k7_5 hnn)
      · rw [va_up_n _ _ (by decide), va_up_s, pk_un a2, pk_un a1]
      · rw [va_up_n _ _ (by decide), va_up_n _ _ (by decide)]
  · rw [if_pos c]
    exact k7_5 hnn
theorem k7_3 {P : Pm} {g : Gh} {e : Nat} {me : Int32} {u b : Nat → Int32} {D : Nat → Nat → Int32} {K A : Int64} {Y : List Mg} {w1 : Int32} (hG : GO g) (hgg : 0 < P.gg) (hnn : P.nn ≤ 6) (hL : LO P g e D K ∨ TE P g e D K) : K7 D (F_91_k3 P.nn P.gg P.C me P.f u b D K A Y w1).1 := by
  unfold F_91_k3
  by_cases c : D 18 3 = 3
  · rw [if_neg (fun z => z c), bnI_e]
    by_cases d : arS P.gg D (8 - 0) 0 = 0
    · rw [if_pos d]
      exact k7_4 hnn
    · rw [if_neg d]
      rcases hL with hL | hL
      · obtain ⟨D1, r1, r2, _⟩ := root_all (me := me) (u := u) (b := b) (A := A) (Y := Y) hG hgg hnn hL c d
        rw [r1, bnS_e]
        exact (K7.lt r2).tr (k7_4 hnn)
      · rw [hL.s5] at c; exact absurd c (by decide)
  · rw [if_pos c]
    exact k7_4 hnn
theorem k7_2 {P : Pm} {g : Gh} {e : Nat} {me : Int32} {u b : Nat → Int32} {D : Nat → Nat → Int32} {K A : Int64} {Y : List Mg} {w1 : Int32} (hG : GO g) (hgg : 0 < P.gg) (hnn : P.nn ≤ 6) (hL : LO P g e D K ∨ TE P g e D K) : K7 D (F_91_k2 P.nn P.gg P.C me P.f u b D K A Y w1).1 := by
  unfold F_91_k2
  by_cases c : D 18 3 = 2
  · rw [if_neg (fun z => z c)]
    by_cases d : D 18 12 = 0
    · rw [if_neg (fun z => z d)]
      rcases hL with hL | hL
      · obtain ⟨D1, K1, r1, r2, r3⟩ := change_all (me := me) (u := u) (b := b) (A := A) (Y := Y) hG hL c d
        rw [bnS_2 (F_104 P.nn P.gg P.C me P.f u b D K A Y) (F_114 P.nn P.gg P.C me P.f u b) (fun D4 K4 A4 Y4 => F_91_k3 P.nn P.gg P.C me P.f u b D4 K4 A4 Y4 w1), r1, bnS_e]
        exact (K7.lt r2).tr (k7_3 hG hgg hnn r3)
      · rw [hL.s5] at c; exact absurd c (by decide)
    · rw [if_pos d]
      exact k7_3 hG hgg hnn hL
  · rw [if_pos c]
    exact k7_3 hG hgg hnn hL
theorem k7_91 {P : Pm} {g : Gh} {e : Nat} {me : Int32} {u b : Nat → Int32} {D : Nat → Nat → Int32} {K A : Int64} {Y : List Mg} (hG : GO g) (hgg : 0 < P.gg) (hnn : P.nn ≤ 6) (h : LO P g e D K) : K7 D (F_91 P.nn P.gg P.C me P.f u b D K A Y).1 := by
  unfold F_91
  rw [bnI_e]
  by_cases c : D 18 3 = 1
  · rw [if_neg (fun z => z c)]
    by_cases d : knA K (D 10 9) = 0
    · rw [if_pos d]
      exact k7_2 hG hgg hnn (Or.inl h)
    · rw [if_neg d]
      by_cases r : rdB (D 8) (D 7 9) 0 = 0
      · rw [if_pos r]
        exact k7_2 hG hgg hnn (Or.inl h)
      · rw [if_neg r]
        obtain ⟨D1, r1, r2, r3⟩ := plan_all (me := me) (u := u) (b := b) (A := A) (Y := Y) hG h c d
        rw [r1, bnS_e]
        exact (K7.lt (fun q hq => r2 q (by omega))).tr (k7_2 hG hgg hnn r3)
  · rw [if_pos c]
    exact k7_2 hG hgg hnn (Or.inl h)
/-- hear: cells 7 and 8 -/
def K9 (u : Nat → Int32) (D D' : Nat → Nat → Int32) : Prop := (∀ x, x ≠ 9 → x ≠ 10 → x ≠ 14 → D' 7 x = D 7 x) ∧ D' 8 = D 8 ∧ D' 7 9 = if u 0 = 2 then D 7 9 else (D 7 9) ||| (1 <<< ((u 1) &&& 31))
theorem k9_67 {P : Pm} {g : Gh} {e : Nat} {me : Int32} {u b : Nat → Int32} {D : Nat → Nat → Int32} {K A : Int64} {Y : List Mg} (hG : GO g) (hb12 : g.bg ≤ g.sn + 12) (hgg : 0 < P.gg) (hnn : P.nn ≤ 6) (hf : Rg P.nn P.f) (h : LO P g e D K) (hm : MO P g e (u, b)) (hs : MS P g (u, b)) : K9 u D (F_67 P.nn P.gg P.C me P.f u b D K A Y).1 := by
  have h7 : LO P g e (va_up D 7 (upd (D 7) 9 ((D 7 9) ||| (1 <<< ((u 1) &&& 31))))) K := h.f7 (pk_un (by decide)) (pk_un (by decide))
  generalize hD1 : va_up D 7 (upd (D 7) 9 ((D 7 9) ||| (1 <<< ((u 1) &&& 31)))) = D1 at h7
  have w9 : D1 7 9 = (D 7 9) ||| (1 <<< ((u 1) &&& 31)) := by rw [← hD1, va_up_s, pk_us]
  have w7 : ∀ x, x ≠ 9 → D1 7 x = D 7 x := fun x hx => by rw [← hD1, va_up_s, pk_un hx]
  have w8 : D1 8 = D 8 := by rw [← hD1, va_up_n _ _ (by decide)]
  by_cases c2 : u 0 = 2
  · obtain ⟨D', r1, r2, _⟩ := take_z (nn := P.nn) (gg := P.gg) (C := P.C) (me := me) (f := P.f) (u := u) (b := b) (g := g) (D := D) (K := K) (A := A) c2
    unfold F_67
    rw [if_neg (fun z => z c2), r1 Y, bnS_e]
    show K9 u D D'
    exact ⟨fun x _ _ _ => by rw [r2 7 (by decide)], r2 8 (by decide), by rw [if_pos c2, r2 7 (by decide)]⟩
  have fin : ∀ D', (∀ x, x ≠ 10 → x ≠ 14 → D' 7 x = D1 7 x) → D' 8 = D1 8 → K9 u D D' := fun D' q1 q2 => ⟨fun x a1 a2 a3 => by rw [q1 x a2 a3, w7 x a1], by rw [q2, w8], by rw [if_neg c2, q1 9 (by decide) (by decide), w9]⟩
  by_cases c5 : u 0 = 5
  · obtain ⟨n, n1, n2, n3⟩ := hm.ls (Or.inl c5)
    obtain ⟨cnt, k1, k2, k3, k4⟩ := hs.1 c5
    have n2 : u 1 = nI n := n2
    have k2 : u 7 = nI cnt := k2
    have hcl : (u 7).toNatClampNeg = cnt := by rw [k2, nI_clamp (by omega)]
    have hfd : ∀ j, 0 ≤ j → j < 0 + cnt → fdO D1 (b j) := fun j _ hj => by
      obtain ⟨k, a1, a2, _⟩ := k4 j (by omega)
      have a2 : b j = nI k := a2
      rw [a2]; exact h7.fdO hgg a1
    have hsure : ∃ s2 s3 : Int32, (∀ Y, F_70 P.nn P.gg P.C me P.f u b D1 K A Y = G_70 P.nn P.gg P.C me P.f u b s2 s3 cnt 0 0 0 D1 K A Y) := by
      by_cases e1 : acB (D1 18 3) = 0
      · by_cases e2 : knA K (D1 10 9) = 0
        · exact ⟨0, 0, fun Y => by unfold F_70; rw [bnN_e, hcl, if_neg (fun z => z e1), if_pos e2]⟩
        · by_cases e3 : sfB (D1 8) (D1 11) (D1 16) (D1 17) P.gg 960 = 0
          · exact ⟨1, 0, fun Y => by unfold F_70; rw [bnN_e, hcl, if_neg (fun z => z e1), if_neg e2, if_pos e3]⟩
          · exact ⟨1, 1, fun Y => by unfold F_70; rw [bnN_e, hcl, if_neg (fun z => z e1), if_neg e2, if_neg e3]⟩
      · exact ⟨0, 0, fun Y => by unfold F_70; rw [bnN_e, hcl, if_pos e1]⟩
    obtain ⟨s2, s3, hF⟩ := hsure
    obtain ⟨D', A', Z, r1, r2⟩ := listed_z (nn := P.nn) (gg := P.gg) (C := P.C) (me := me) (f := P.f) (s2 := s2) (s3 := s3) (K := K) (show n < 32 by omega) n2 cnt 0 0 0 D1 A (by omega) hfd
    unfold F_67
    rw [if_pos c2, if_pos c5, hD1, hF Y]
    have := r1 Y
    rw [nI_0] at this
    rw [this, bnS_e]
    exact fin D' (fun x a1 _ => r2.2.1 x a1) (r2.1 8 (by decide) (by decide) (by decide))
  by_cases c7 : u 0 = 7
  · obtain ⟨n, k, n1, n2, k1, k2, k3, k4, k5⟩ := hm.it c7
    obtain ⟨D', K', A', Z, r1, _, _, _, r5, r6, _⟩ := item_z (me := me) (u := u) (b := b) (A := A) hG hb12 hgg hnn n1 n2 c7 k1 k2 k3 k4 k5 h7
    unfold F_67
    rw [if_pos c2, if_neg c5, if_neg (show ¬ u 0 = 6 by rw [c7]; decide), if_pos c7, hD1, r1 Y, bnS_e]
    exact fin D' r6 r5
  by_cases c8 : u 0 = 8
  · obtain ⟨n, n1, n2⟩ := hm.lk c8
    obtain ⟨D', r1, r2, r3, _⟩ := lack_z (nn := P.nn) (gg := P.gg) (C := P.C) (me := me) (f := P.f) (u := u) (b := b) (D := D1) (K := K) (A := A) (show n < 32 by omega) n2
    unfold F_67
    rw [if_pos c2, if_neg c5, if_neg (show ¬ u 0 = 6 by rw [c8]; decide), if_neg c7, if_pos c8, hD1, r1 Y, bnS_e]
    exact fin D' r3 (r2 8 (by decide) (by decide))
  by_cases c11 : u 0 = 11
  · obtain ⟨n, n1, n2, n3⟩ := hm.ls (Or.inr c11)
    have n2 : u 1 = nI n := n2
    obtain ⟨D', r1, r2, r3, _⟩ := have_z (nn := P.nn) (gg := P.gg) (C := P.C) (me := me) (f := P.f) (u := u) (b := b) (K := K) (A := A) (show n < 32 by omega) n2 (u 7).toNatClampNeg 0 D1 (fun j _ hj => by
      obtain ⟨k, a1, a2, _⟩ := n3 j (by rw [Nat.zero_add] at hj; exact hj)
      have a1 : b j = nI k := a1
      rw [a1]; exact (h7.fdO hgg a2).1)
    unfold F_67
    rw [if_pos c2, if_neg c5, if_neg (show ¬ u 0 = 6 by rw [c11]; decide), if_neg c7, if_neg c8, if_neg (show ¬ u 0 = 9 by rw [c11]; decide), if_neg (show ¬ u 0 = 10 by rw [c11]; decide), if_pos c11, hD1]
    unfold F_89
    rw [bnN_e]
    have := r1 Y
    rw [this, bnS_e]
    exact fin D' (fun x a1 _ => r3 x a1) (r2 8 (by decide) (by decide))
  · unfold F_67
    rw [if_pos c2, if_neg c5, if_neg c7, if_neg c8, if_neg c11]
    simp only [ite_self]
    rw [hD1]
    exact fin D1 (fun _ _ _ => rfl) rfl
/-- in FETCH or before, a NODE that is clean was heard of -/
def HCl (nn : Nat) (D : Nat → Nat → Int32) : Prop := D 18 3 ≤ 2 → ∀ n, n < 32 → bt (D 7 10) n = true → bt (D 7 9) n = true ∧ n < nn
theorem HCl.cg {nn : Nat} {D D' : Nat → Nat → Int32} (h : HCl nn D) (e7 : D' 7 = D 7) (e18 : D' 18 = D 18) : HCl nn D' := fun hs n hn hb => by
  rw [e18] at hs
  rw [e7] at hb ⊢
  exact h hs n hn hb
/-- clean NODES: all is known -/
def KCl (D : Nat → Nat → Int32) (K : Int64) : Prop := D 18 3 ≤ 2 → ∀ n, n < 32 → bt (D 7 10) n = true → ¬ knA K (D 10 9) = 0
/-- mended: all is safe -/
def MDl (gg : Nat) (D : Nat → Nat → Int32) (K : Int64) : Prop := D 18 3 ≤ 2 → ¬ D 7 14 = 0 → ¬ knA K (D 10 9) = 0 ∧ ∀ a, a < 961 → ¬ unS gg D a
def LIl (gg : Nat) (D : Nat → Nat → Int32) (K : Int64) : Prop := KCl D K ∧ MDl gg D K
theorem unS_up {gg a : Nat} {D D' : Nat → Nat → Int32} (h : ¬ unS gg D a) (e16 : D' 16 a = D 16 a) (e8 : D' 8 = D 8) (e11 : D' 11 = D 11) (e17 : ∀ m, m < 32 → bt (D 17 a) m = true → bt (D' 17 a) m = true) : ¬ unS gg D' a := fun ⟨z1, z2⟩ => by
  refine h ⟨by rw [← e16]; exact z1, ?_⟩
  unfold sfB at z2 ⊢
  rw [e8, e11, e16] at z2
  by_cases c : 0 ≤ D 16 a ∧ ¬ D 8 (grp (D 11) gg a) = 0 ∧ D 17 a &&& D 8 (grp (D 11) gg a) = D 8 (grp (D 11) gg a)
  · rw [if_pos ⟨c.1, c.2.1, (bt_sub _ _).mpr (fun i hi hb => e17 i hi ((bt_sub _ _).mp c.2.2 i hi hb))⟩] at z2
    exact absurd z2 (by decide)
  · rw [if_neg c]
theorem LIl.cg {gg : Nat} {D D' : Nat → Nat → Int32} {K K' : Int64} (h : LIl gg D K) (e3 : D' 18 3 ≤ 2 → D 18 3 ≤ 2) (e7 : ∀ n, n < 32 → bt (D' 7 10) n = true → bt (D 7 10) n = true) (e14 : ¬ D' 7 14 = 0 → ¬ D 7 14 = 0) (e8 : D' 8 = D 8) (e10 : D' 10 = D 10) (e11 : D' 11 = D 11) (e16 : D' 16 = D 16) (e17 : ¬ D' 7 14 = 0 → ∀ a m, a < 961 → m < 32 → bt (D 17 a) m = true → bt (D' 17 a) m = true) (eK : K' = K) : LIl gg D' K' := by
  refine ⟨fun hs n hn hb => by rw [eK, e10]; exact h.1 (e3 hs) n hn (e7 n hn hb), fun hs hm => ?_⟩
  obtain ⟨a1, a2⟩ := h.2 (e3 hs) (e14 hm)
  exact ⟨by rw [eK, e10]; exact a1, fun a ha => unS_up (a2 a ha) (by rw [e16]) e8 e11 (fun m hb => e17 hm a m ha hb)⟩
theorem LIl.c {gg : Nat} {D D' : Nat → Nat → Int32} {K K' : Int64} (h : LIl gg D K) (e : ∀ q, 6 < q → D' q = D q) (eK : K' = K) : LIl gg D' K' := h.cg (fun z => by rw [← e 18 (by decide)]; exact z) (fun n _ z => by rw [← e 7 (by decide)]; exact z) (fun z => by rw [← e 7 (by decide)]; exact z) (e 8 (by decide)) (e 10 (by decide)) (e 11 (by decide)) (e 16 (by decide)) (fun _ a m _ _ z => by rw [e 17 (by decide)]; exact z) eK
theorem LIl.fr {gg : Nat} {D : Nat → Nat → Int32} {K : Int64} (h : D 7 10 = 0) (h2 : D 7 14 = 0) : LIl gg D K := ⟨fun _ n _ hb => (by rw [h, b_0] at hb; cases hb), fun _ z => absurd h2 z⟩
theorem LIl.no {gg : Nat} {D : Nat → Nat → Int32} {K : Int64} (h : ¬ D 18 3 ≤ 2) : LIl gg D K := ⟨fun z => absurd z h, fun z => absurd z h⟩
theorem HX.li {P : Pm} {g : Gh} {me : Int32} {u b : Nat → Int32} {D D1 : Nat → Nat → Int32} {K A K1 A1 : Int64} {Z : List Mg} (hnn : P.nn ≤ 6) (h : HX P g me u b D K A D1 K1 A1 Z) (hl : LIl P.gg D K) : LIl P.gg D1 K1 := by
  have h7 : ∀ q, q ≠ 7 → hrd u D q = D q := fun q hq => hrd_n hq
  rcases h with ⟨_, a1, _, _, a4, a5⟩ | ⟨_, a1, n, cnt, s2, s3, n1, n2, _, _, s2e, _, a8, _⟩ | ⟨_, n, k, _, _, _, _, a5⟩ | ⟨_, a1, _, _, n, n1, _, a6, a7, a8, a9, a10, a11, a12, a13⟩ | ⟨_, a1, _, _, n, _, _, a6, a7, a8, _, a10, _⟩ | ⟨_, _, _, _, _, a1, _, _, a4⟩
  · refine hl.cg (fun z => ?_) (fun n _ z => by rw [← a4 7 (by decide)]; exact z) (fun z => by rw [← a4 7 (by decide)]; exact z) (a4 8 (by decide)) (a4 10 (by decide)) (a4 11 (by decide)) (a4 16 (by decide)) (fun _ a m _ _ z => by rw [a4 17 (by decide)]; exact z) a1
    rcases a5 with ⟨e, _⟩ | ⟨e, _⟩
    · rw [← e]; exact z
    · exact Int32.le_trans e (by decide)
  · obtain ⟨l1, l2, ⟨w, l3, l4⟩, _, _, _, l7, _⟩ := a8
    have e18 : D1 18 = D 18 := by rw [l1 18 (by decide) (by decide) (by decide), h7 18 (by decide)]
    have e10 : D1 10 = D 10 := by rw [l1 10 (by decide) (by decide) (by decide), h7 10 (by decide)]
    have e14 : D1 7 14 = D 7 14 := by rw [l2 14 (by decide), hrd_7 (by decide)]
    refine ⟨fun hs m hm hb => ?_, fun hs hmd => ?_⟩
    · rw [a1, e10]
      rw [l3, hrd_7 (by decide)] at hb
      by_cases w0 : w = 0
      · unfold scB at hb
        rw [if_pos w0, n2, bt_clr _ (by omega) hm] at hb
        simp only [Bool.and_eq_true] at hb
        exact hl.1 (by rw [← e18]; exact hs) m hm hb.1
      · have := (l4 w0).2.1
        by_cases c : D 18 3 ≤ 1 ∧ ¬ knA K (D 10 9) = 0
        · exact c.2
        · exact absurd (s2e.mpr c) this
    · obtain ⟨b1, b2⟩ := hl.2 (by rw [← e18]; exact hs) (by rw [← e14]; exact hmd)
      exact ⟨by rw [a1, e10]; exact b1, fun a ha => unS_up (b2 a ha) (by rw [l1 16 (by decide) (by decide) (by decide), h7 16 (by decide)]) (by rw [l1 8 (by decide) (by decide) (by decide), h7 8 (by decide)]) (by rw [l1 11 (by decide) (by decide) (by decide), h7 11 (by decide)]) (fun m hm hb => l7 a m hm (by rw [h7 17 (by decide)]; exact hb))⟩
  · rcases a5 with ⟨_, _, _, b4, _, _, b7, _⟩ | ⟨_, ⟨b1, b2, _⟩ | ⟨fx, _, _, _, b4, _, _, b7, _⟩ | ⟨a, _, _, _, b4, _, _, b7, b8, _⟩⟩
    · exact LIl.fr b4 b7
    · rw [b1]
      exact hl.cg (fun z => by rw [h7 18 (by decide)] at z; exact z) (fun n _ z => by rw [hrd_7 (by decide)] at z; exact z) (fun z => by rw [hrd_7 (by decide)] at z; exact z) (h7 8 (by decide)) (h7 10 (by decide)) (h7 11 (by decide)) (h7 16 (by decide)) (fun _ a m _ _ z => by rw [h7 17 (by decide)]; exact z) b2
    · rw [h7 10 (by decide)] at b4
      have e18 : D1 18 = D 18 := by rw [b7 18 (by decide) (by decide) (by decide) (by decide), h7 18 (by decide)]
      have e7 : D1 7 = hrd u D 7 := b7 7 (by decide) (by decide) (by decide) (by decide)
      refine ⟨fun hs m hm hb => ?_, fun hs hmd => ?_⟩
      · rw [e7, hrd_7 (by decide)] at hb
        exact absurd b4 (hl.1 (by rw [← e18]; exact hs) m hm hb)
      · rw [e7, hrd_7 (by decide)] at hmd
        exact absurd b4 (hl.2 (by rw [← e18]; exact hs) hmd).1
    · have e7 : D1 7 = hrd u D 7 := b7 7 (by decide) (by decide)
      exact hl.cg (fun z => by rw [b8 3 (by decide), h7 18 (by decide)] at z; exact z) (fun n _ z => by rw [e7, hrd_7 (by decide)] at z; exact z) (fun z => by rw [e7, hrd_7 (by decide)] at z; exact z) (by rw [b7 8 (by decide) (by decide), h7 8 (by decide)]) (by rw [b7 10 (by decide) (by decide), h7 10 (by decide)]) (by rw [b7 11 (by decide) (by decide), h7 11 (by decide)]) (by rw [b7 16 (by decide) (by decide), h7 16 (by decide)]) (fun _ a m _ _ z => by rw [b7 17 (by decide) (by decide), h7 17 (by decide)]; exact z) b4
  · refine hl.cg (fun z => by rw [a6 18 (by decide) (by decide)] at z; exact z) (fun m hm z => a8 m hm z) (fun z => ?_) (a6 8 (by decide) (by decide)) (a6 10 (by decide) (by decide)) (a6 11 (by decide) (by decide)) (a6 16 (by decide) (by decide)) (fun hmd a m ha hm z => ?_) a1
    · rcases a9 with q | q
      · rw [← q]; exact z
      · exact absurd q z
    · by_cases c : fndI (D 15) (D 16) (u 5) = -1
      · rw [a12 a (by rw [c]; exact fun y => absurd y.symm (nIneg (by omega))) ha (Or.inl c)]; exact z
      · exact absurd (a13 c).2 hmd
  · exact hl.cg (fun z => by rw [a6 18 (by decide) (by decide)] at z; exact z) (fun m hm z => a8 m hm z) (fun z => by rw [a7 14 (by decide) (by decide)] at z; exact z) (a6 8 (by decide) (by decide)) (a6 10 (by decide) (by decide)) (a6 11 (by decide) (by decide)) (a6 16 (by decide) (by decide)) (fun _ a m _ hm z => a10 a m hm z) a1
  · rw [a4]
    exact hl.cg (fun z => by rw [h7 18 (by decide)] at z; exact z) (fun n _ z => by rw [hrd_7 (by decide)] at z; exact z) (fun z => by rw [hrd_7 (by decide)] at z; exact z) (h7 8 (by decide)) (h7 10 (by decide)) (h7 11 (by decide)) (h7 16 (by decide)) (fun _ a m _ _ z => by rw [h7 17 (by decide)]; exact z) a1
theorem goon_li {P : Pm} {g : Gh} {e : Nat} {me : Int32} {u b : Nat → Int32} {D D' : Nat → Nat → Int32} {K A K' A' : Int64} {Y Y' : List Mg} (hG : GO g) (hgg : 0 < P.gg) (hnn : P.nn ≤ 6) (h : LO P g e D K) (hF : F_91 P.nn P.gg P.C me P.f u b D K A Y = (D', K', A', Y')) (hl : LIl P.gg D K) : LIl P.gg D' K' := by
  rcases goon_q hG hgg hnn h hF with (q | q) | ⟨q1, q2, _⟩ | ⟨q1, q2, q3⟩
  · exact LIl.no (by rw [q]; decide)
  · exact LIl.no (by rw [q]; decide)
  · exact LIl.fr q1 q2
  · refine hl.cg (fun z => ?_) (fun n _ z => by rw [q2 7 (by decide)] at z; exact z) (fun z => by rw [q2 7 (by decide)] at z; exact z) (q2 8 (by decide)) (q2 10 (by decide)) (q2 11 (by decide)) (q2 16 (by decide)) (fun _ a m _ _ z => by rw [q2 17 (by decide)]; exact z) q1
    rcases q3 with q3 | q3
    · exact q3
    · rw [← q3]; exact z
/-- the OPERATION that the leader took last, and its ROOT: asked for -/
def OPl (g : Gh) (D : Nat → Nat → Int32) : Prop := (D 18 4 = -1 ∨ ∃ o, o ≤ g.hd ∧ D 18 4 = nI o) ∧ (D 16 960 = -1 ∨ ∃ w, w ≤ g.hd ∧ D 16 960 = nI w)
theorem OPl.mono {g g' : Gh} {D : Nat → Nat → Int32} (hg : g.hd ≤ g'.hd) (h : OPl g D) : OPl g' D := by
  refine ⟨?_, ?_⟩
  · rcases h.1 with h | ⟨o, o1, o2⟩
    · exact Or.inl h
    · exact Or.inr ⟨o, by omega, o2⟩
  · rcases h.2 with h | ⟨o, o1, o2⟩
    · exact Or.inl h
    · exact Or.inr ⟨o, by omega, o2⟩
theorem OPl.c {g : Gh} {D D' : Nat → Nat → Int32} (e : D' 18 4 = D 18 4) (e2 : D' 16 960 = D 16 960) (h : OPl g D) : OPl g D' := by unfold OPl; rw [e, e2]; exact h
theorem HX.op {P : Pm} {g : Gh} {e : Nat} {me : Int32} {u b : Nat → Int32} {D D1 : Nat → Nat → Int32} {K A K1 A1 : Int64} {Z : List Mg} (hm : MO P g e (u, b)) (h : HX P g me u b D K A D1 K1 A1 Z) (hl : OPl g D) : OPl g D1 := by
  rcases h with ⟨c2, _, _, _, a4, a5⟩ | ⟨_, _, n, cnt, s2, s3, _, _, _, _, _, _, a8, _⟩ | ⟨c7, n, k, _, _, k1, k2, a5⟩ | ⟨_, _, _, _, n, _, _, a6, _⟩ | ⟨_, _, _, _, n, _, _, a6, _⟩ | ⟨_, _, _, _, _, _, _, _, a4⟩
  · rcases a5 with ⟨e, _⟩ | ⟨_, _, e⟩
    · rw [e]; exact hl
    · obtain ⟨o, ⟨_, _, o3⟩, o4, _⟩ := hm.ak c2
      exact ⟨Or.inr ⟨o, o3, e.trans o4⟩, by rw [a4 16 (by decide)]; exact hl.2⟩
  · exact hl.c (by rw [a8.1 18 (by decide) (by decide) (by decide), hrd_n (by decide)]) (by rw [a8.1 16 (by decide) (by decide) (by decide), hrd_n (by decide)])
  · rcases a5 with ⟨_, b2, _, _, _, _, _, b8⟩ | ⟨_, ⟨b1, _⟩ | ⟨fx, _, _, _, _, _, _, b7, b9, _⟩ | ⟨a, _, _, _, _, _, _, b7, b8, _⟩⟩
    · refine ⟨by rw [b8, hrd_n (by decide)]; exact hl.1, Or.inr ⟨k % 512, ?_, b2⟩⟩
      obtain ⟨n', k', _, _, q3, q4, q5, q6, _⟩ := hm.it c7
      have : k' = k := nI_inj (by omega) (by omega) (q4.symm.trans k2)
      subst this
      obtain ⟨k2', w1, w2, w3⟩ := q6.2.2
      have : k2' = k' := nI_inj (by omega) (by omega) (w2.symm.trans q5)
      subst this
      exact w3.1
    · exact hl.c (by rw [b1, hrd_n (by decide)]) (by rw [b1, hrd_n (by decide)])
    · exact hl.c (by rw [b7 18 (by decide) (by decide) (by decide) (by decide), hrd_n (by decide)]) (by rw [b9, hrd_n (by decide)])
    · exact hl.c (by rw [b8 4 (by decide), hrd_n (by decide)]) (by rw [b7 16 (by decide) (by decide), hrd_n (by decide)])
  · exact hl.c (by rw [a6 18 (by decide) (by decide)]) (by rw [a6 16 (by decide) (by decide)])
  · exact hl.c (by rw [a6 18 (by decide) (by decide)]) (by rw [a6 16 (by decide) (by decide)])
  · exact hl.c (by rw [a4, hrd_n (by decide)]) (by rw [a4, hrd_n (by decide)])
theorem goon_opl {P : Pm} {g : Gh} {e : Nat} {me : Int32} {u b : Nat → Int32} {D D' : Nat → Nat → Int32} {K A K' A' : Int64} {Y Y' : List Mg} (hG : GO g) (hgg : 0 < P.gg) (hnn : P.nn ≤ 6) (h : LO P g e D K) (hF : F_91 P.nn P.gg P.C me P.f u b D K A Y = (D', K', A', Y')) (hl : OPl g D) : OPl g D' := by
  refine ⟨by rw [goon_op hG hgg hnn h hF]; exact hl.1, ?_⟩
  have tr : ∀ (D1 D2 : Nat → Nat → Int32), D2 16 960 = D1 16 960 → (D1 16 960 = -1 ∨ ∃ w, w ≤ g.hd ∧ D1 16 960 = nI w) → (D2 16 960 = -1 ∨ ∃ w, w ≤ g.hd ∧ D2 16 960 = nI w) := fun D1 D2 e h => by rw [e]; exact h
  have hH : GIh P g e me u b A Y (fun D1 _ _ => D1 16 960 = -1 ∨ ∃ w, w ≤ g.hd ∧ D1 16 960 = nI w) := ⟨fun D1 D2 K1 hL hs hk _ hF hk18 _ hI => tr D1 D2 (by rw [hk18 16 (by decide)]) hI, fun D1 D2 K1 K2 hL hs h12 hq _ _ hI => tr D1 D2 (change_x hG hL hs h12 hq).1 hI, fun D1 D2 K1 hL hs ha hq _ _ hI => by
    have h5 := hG.1
    obtain ⟨_, _, x3⟩ := root_x hq
    obtain ⟨o, zo⟩ := hL.wa (by rw [hs]; decide)
    have := zo.o1
    rw [zo.ak.op, nI_clamp (by omega)] at x3
    exact Or.inr ⟨o, zo.o2.2, x3⟩, fun D1 K1 _ _ _ _ hI => tr D1 _ (by rw [va_up_n _ _ (by decide), va_up_n _ _ (by decide)]) hI, fun D1 K1 tl _ _ hI => tr D1 _ (by rw [va_up_n _ _ (by decide)]) hI⟩
  obtain ⟨D2, K2, Zt, Zp, r1, r2, r3, _⟩ := goon_I (me := me) (u := u) (b := b) (A := A) (Y := Y) hG hgg hH hnn h hl.2
  rw [r1, Prod.mk.injEq] at hF
  rw [← hF.1]
  exact r2
def GH (P : Pm) (g : Gh) (D : Nat → Nat → Int32) (K : Int64) : Prop := GD P.gg D K ∧ HCl P.nn D ∧ LIl P.gg D K ∧ OPl g D
theorem GH.mono {P : Pm} {g g' : Gh} {D : Nat → Nat → Int32} {K : Int64} (hg : g.hd ≤ g'.hd) (h : GH P g D K) : GH P g' D K := ⟨h.1, h.2.1, h.2.2.1, h.2.2.2.mono hg⟩
theorem GH.fr {P : Pm} {g : Gh} {D : Nat → Nat → Int32} {K : Int64} (h : D 18 3 = 0) (h2 : D 7 10 = 0) (h3 : D 7 14 = 0) (h4 : D 18 4 = -1) (h5 : D 16 960 = -1) : GH P g D K := ⟨GD.st h (by decide) (by decide) (by decide) (by decide), fun _ n _ hb => (by rw [h2, b_0] at hb; cases hb), LIl.fr h2 h3, Or.inl h4, Or.inl h5⟩
theorem gh_55k {P : Pm} {g : Gh} {n e : Nat} {u b : Nat → Int32} {D D' : Nat → Nat → Int32} {K A K' A' : Int64} {Y Y' : List Mg} (hG : GO g) (hb12 : g.bg ≤ g.sn + 12) (hgg : 0 < P.gg) (hnn : P.nn ≤ 6) (hf : Rg P.nn P.f) (hn : n < P.nn) (h : NU P g n e D K) (hm : MO P g e (u, b)) (hs : MS P g (u, b)) (hd : ¬ ldB P.f P.nn (nI n) (D 0 8) = 0 → GH P g D K)
    (hF : F_55_k P.nn P.gg P.C (nI n) P.f u b D K A Y = (D', K', A', Y')) : ¬ ldB P.f P.nn (nI n) (D 0 8) = 0 → GH P g D' K' := fun hl => by
  refine ⟨gd_55k hG hb12 hgg hnn hf hn h hm hs (fun z => (hd z).1) hF hl, ?_⟩
  have hF0 := hF
  obtain ⟨D2, K2, A2, Z, r1, _, r3⟩ := node_z (A := A) (Y := Y) hG hb12 hgg hnn hf hn h hm hs
  have e1 := r1.symm.trans hF
  rw [Prod.mk.injEq, Prod.mk.injEq] at e1
  obtain ⟨e11, e12, _⟩ := e1
  subst e11 e12
  rcases r3 with ⟨_, qK, _, q3, _⟩ | ⟨hno, _, q⟩ | ⟨_, q, _⟩
  · exact ⟨(hd hl).2.1.cg (q3 7 (Or.inr (by decide))) (q3 18 (Or.inr (by decide))), (hd hl).2.2.1.c (fun q hq => q3 q (Or.inr hq)) qK, (hd hl).2.2.2.c (by rw [q3 18 (Or.inr (by decide))]) (by rw [q3 16 (Or.inr (by decide))])⟩
  · have c0 : ¬ u 0 = 0 := fun z => hno (Or.inl z)
    have c4 : ¬ u 0 = 4 := fun z => hno (Or.inr (Or.inl z))
    have c6 : ¬ u 0 = 6 := fun z => hno (Or.inr (Or.inr (Or.inl z)))
    have c9 : ¬ u 0 = 9 := fun z => hno (Or.inr (Or.inr (Or.inr (Or.inl z))))
    have c10 : ¬ u 0 = 10 := fun z => hno (Or.inr (Or.inr (Or.inr (Or.inr (Or.inl z)))))
    have c12 : ¬ u 0 = 12 := fun z => hno (Or.inr (Or.inr (Or.inr (Or.inr (Or.inr z)))))
    have k9 : K9 u D D2 := by
      unfold F_55_k at hF
      rw [if_neg c0, if_neg c4, if_neg c6, if_neg c9, if_neg c10, if_neg c12] at hF
      simp only [ite_self] at hF
      rw [if_neg hl] at hF
      obtain ⟨D1, K1, A1, Z1, t1, _, t3, _⟩ := hear_z (me := nI n) (A := A) hG hb12 hgg hnn hf (h.ld hl) hm hs
      have ka := k9_67 (me := nI n) (A := A) (Y := Y) hG hb12 hgg hnn hf (h.ld hl) hm hs
      rw [t1 Y] at ka
      rw [t1 Y, bnS_e] at hF
      have kb := k7_91 (me := nI n) (u := u) (b := b) (A := A1) (Y := psl Y Z1) hG hgg hnn t3
      obtain ⟨D4, K4, A4, Y4, h4⟩ : ∃ D4 K4 A4 Y4, F_91 P.nn P.gg P.C (nI n) P.f u b D1 K1 A1 (psl Y Z1) = (D4, K4, A4, Y4) := ⟨_, _, _, _, rfl⟩
      rw [h4, bnS_e] at hF
      rw [h4] at kb
      replace kb : K7 D1 D4 := kb
      replace ka : K9 u D D1 := ka
      have e1 := (Prod.mk.inj hF).1
      subst e1
      exact ⟨fun x a1 a2 a3 => by rw [kb.1 x a2 a3]; exact ka.1 x a1 a2 a3, by rw [kb.2]; exact ka.2.1, by rw [kb.1 9 (by decide) (by decide)]; exact ka.2.2⟩
    have kli : LIl P.gg D2 K2 ∧ OPl g D2 := by
      unfold F_55_k at hF0
      rw [if_neg c0, if_neg c4, if_neg c6, if_neg c9, if_neg c10, if_neg c12] at hF0
      simp only [ite_self] at hF0
      rw [if_neg hl] at hF0
      obtain ⟨D1, K1, A1, Z1, t1, _, t3, _⟩ := hear_z (me := nI n) (A := A) hG hb12 hgg hnn hf (h.ld hl) hm hs
      obtain ⟨Z0, _, w2⟩ := hear_x hG hb12 hgg hnn (h.ld hl) hm hs t1
      rw [t1 Y, bnS_e] at hF0
      obtain ⟨D4, K4, A4, Y4, h4⟩ : ∃ D4 K4 A4 Y4, F_91 P.nn P.gg P.C (nI n) P.f u b D1 K1 A1 (psl Y Z1) = (D4, K4, A4, Y4) := ⟨_, _, _, _, rfl⟩
      have := goon_li hG hgg hnn t3 h4 (w2.li hnn (hd hl).2.2.1)
      have hop := goon_opl hG hgg hnn t3 h4 (w2.op hm (hd hl).2.2.2)
      rw [h4, bnS_e, Prod.mk.injEq, Prod.mk.injEq] at hF0
      rw [← hF0.1, ← hF0.2.1]
      exact ⟨this, hop⟩
    refine ⟨?_, kli⟩
    intro hst m hm' hb
    rw [k9.2.2]
    rcases q.2.2.1 m hm' hst hb with ⟨a1, a2, _⟩ | ⟨a1, a2, _⟩
    · have := (hd hl).2.1 a1 m hm' a2
      refine ⟨?_, this.2⟩
      split
      · exact this.1
      · rw [b_or, this.1]; rfl
    · refine ⟨by rw [if_neg (by rw [a1]; decide), a2, bt_set _ hm' hm', decide_eq_true rfl, Bool.or_true], ?_⟩
      obtain ⟨m', w1, w2, _⟩ := hm.2.1 (Or.inl a1)
      have w2 : u 1 = nI m' := w2
      have : m' = m := nI_inj (by omega) (by omega) (w2.symm.trans a2)
      omega
  · exact absurd q hl
theorem z710_29 {P : Pm} {g : Gh} {n e2 : Nat} {D D' : Nat → Nat → Int32} {K' A' : Int64} {Z : List Mg} (h : FLz P g n e2 D D' K' A' Z) : ¬ ldB P.f P.nn (nI n) (D' 0 8) = 0 → D' 7 10 = 0 := fun hl => by
  rw [h.1, pk_us] at hl
  rcases h.2.2 with ⟨q, _⟩ | ⟨_, _, _, q, _⟩
  · exact absurd q hl
  · exact q
theorem z960_29 {P : Pm} {g : Gh} {n e2 : Nat} {D D' : Nat → Nat → Int32} {K' A' : Int64} {Z : List Mg} (h : FLz P g n e2 D D' K' A' Z) : ¬ ldB P.f P.nn (nI n) (D' 0 8) = 0 → D' 16 960 = -1 := fun hl => by
  rw [h.1, pk_us] at hl
  rcases h.2.2 with ⟨q, _⟩ | ⟨_, q, _⟩
  · exact absurd q hl
  · exact q
theorem md_29 {P : Pm} {me : Int32} {u b : Nat → Int32} {D : Nat → Nat → Int32} {K A : Int64} {Y : List Mg} {e2 s2 : Int32} (hnn : P.nn ≤ 6) : (F_29 P.nn P.gg P.C me P.f u b D K A Y e2 s2).1 7 14 = 0 ∧ (F_29 P.nn P.gg P.C me P.f u b D K A Y e2 s2).1 18 4 = -1 := by
  have hF : ∀ (D0 : Nat → Nat → Int32) (Y : List Mg), ∃ D1, F_33 P.nn P.gg P.C me P.f u b D0 K A Y = (D1, 0, 0, Y) ∧ D1 7 14 = 0 ∧ D1 18 4 = -1 := fun D0 Y => by
    refine ⟨_, by unfold F_33; rfl, ?_, ?_⟩
    · (iterate 7 rw [va_up_n _ _ (by decide)])
      rw [va_up_s, pk_us]
    · rw [va_up_s, pk_us]
  obtain ⟨D1, f1, f2⟩ := hF (va_up D 0 (upd (upd (D 0) 7 e2) 8 s2)) Y
  unfold F_29
  by_cases c : ldB P.f P.nn me s2 = 0
  · rw [if_pos c, f1, bnS_e]; exact f2
  · rw [if_neg c]
    obtain ⟨D2, m1, m2⟩ := masks_z (nn := P.nn) (gg := P.gg) (C := P.C) (me := me) (f := P.f) (u := u) (b := b) (K := 0) (A := 0) P.gg 0 (va_up D1 7 (upd (upd (D1 7) 7 e2) 8 s2))
    obtain ⟨Z, z1, _⟩ := poll_w (nn := P.nn) (gg := P.gg) (C := P.C) (me := me) (f := P.f) (u := u) (b := b) (D := D2) (K := 0) (A := 0) hnn
    unfold F_32
    rw [f1, bnS_e, bnS_e, m1 Y, z1 Y, bnS_e]
    show D2 7 14 = 0 ∧ D2 18 4 = -1
    rw [m2 7 (by decide), va_up_s, pk_un (by decide), pk_un (by decide), m2 18 (by decide), va_up_n _ _ (by decide)]; exact f2
theorem gh_55 {P : Pm} {g : Gh} {n e e2 : Nat} {u b : Nat → Int32} {D D' : Nat → Nat → Int32} {K A K' A' : Int64} {Y Y' : List Mg} (hG : GO g) (hb12 : g.bg ≤ g.sn + 12) (hep : g.ep < 2 ^ 31) (hgg : 0 < P.gg) (hnn : P.nn ≤ 6) (hf : Rg P.nn P.f) (hn : n < P.nn) (h : NU P g n e D K) (hm : MO P g e2 (u, b)) (hs : MS P g (u, b)) (hd : ¬ ldB P.f P.nn (nI n) (D 0 8) = 0 → GH P g D K)
    (hF : F_55 P.nn P.gg P.C (nI n) P.f u b D K A Y = (D', K', A', Y')) : ¬ ldB P.f P.nn (nI n) (D' 0 8) = 0 → GH P g D' K' := by
  have h3 : u 3 = nI e2 := hm.ep.1
  have h4 : u 4 = g.mp e2 := hm.ep.2.2
  have he := h.ep.2.1
  have he2 := hm.ep.2.1
  have key : ∀ {e : Nat} {D : Nat → Nat → Int32} {K A : Int64} {Y : List Mg}, NU P g n e D K → MO P g e (u, b) → F_55_k P.nn P.gg P.C (nI n) P.f u b D K A Y = (D', K', A', Y') → D' 0 = D 0 := fun {e D K A Y} h hm hF => by
    obtain ⟨D2, K2, A2, Z, r1, _, r3⟩ := node_z (A := A) (Y := Y) hG hb12 hgg hnn hf hn h hm hs
    have e1 := (Prod.mk.inj (r1.symm.trans hF)).1
    subst e1
    rcases r3 with ⟨_, _, _, q3, _⟩ | ⟨_, _, q⟩ | ⟨_, _, q, _⟩
    · exact q3 0 (Or.inl rfl)
    · exact q.2.2.2.1 0 (by decide)
    · rw [q]
  unfold F_55 at hF
  rw [h.ep.1, h3] at hF
  by_cases c1 : nI e ≤ nI e2
  · rw [if_pos c1] at hF
    have c1 := (nI_leI (by omega) (by omega)).mp c1
    by_cases c2 : nI e2 ≤ nI e
    · rw [if_pos c2] at hF
      have c2 := (nI_leI (by omega) (by omega)).mp c2
      have : e2 = e := by omega
      subst this
      rw [key h hm hF]
      exact gh_55k hG hb12 hgg hnn hf hn h hm hs hd hF
    · rw [if_neg c2, h4] at hF
      obtain ⟨D1, K1, A1, Z1, f1, f2⟩ := follow_z (P := P) (g := g) (n := n) (e2 := e2) (u := u) (b := b) (D := D) (K := K) (A := A) hnn
      obtain ⟨D3, K3, A3, Y3, r1, r2, _, _⟩ := follow_lem (u := u) (b := b) (K := K) (A := A) (Y := []) h.du h.rp h.rk h.ni c1 he2 (Nat.le_trans h.ep.2.2.2 c1) (fun y hy => by cases hy)
      have e3 := (f1 []).symm.trans r1
      rw [Prod.mk.injEq, Prod.mk.injEq] at e3
      obtain ⟨e31, e32, _⟩ := e3
      subst e31 e32
      have h0 := st_29 (P := P) (me := nI n) (u := u) (b := b) (D := D) (K := K) (A := A) (Y := Y) (e2 := nI e2) (s2 := g.mp e2) hnn
      have h14 := md_29 (P := P) (me := nI n) (u := u) (b := b) (D := D) (K := K) (A := A) (Y := Y) (e2 := nI e2) (s2 := g.mp e2) hnn
      rw [f1 Y] at h0 h14
      rw [f1 Y, bnS_e] at hF
      rw [key r2 hm hF]
      exact gh_55k hG hb12 hgg hnn hf hn r2 hm hs (fun q => GH.fr h0 (z710_29 f2 q) h14.1 h14.2 (z960_29 f2 q)) hF
  · rw [if_neg c1] at hF
    rw [Prod.mk.injEq, Prod.mk.injEq] at hF
    obtain ⟨e11, e12, _⟩ := hF
    subst e11 e12
    exact hd
theorem gh_136 {P : Pm} {g : Gh} {n e : Nat} {u b : Nat → Int32} {D D' : Nat → Nat → Int32} {K A K' A' : Int64} {Y Y' : List Mg} (hG : GO g) (hgg : 0 < P.gg) (hnn : P.nn ≤ 6) (hf : Rg P.nn P.f) (hn : n < P.nn) (h : NU P g n e D K) (hd : ¬ ldB P.f P.nn (nI n) (D 0 8) = 0 → GH P g D K)
    (hF : F_136 P.nn P.gg P.C (nI n) P.f u b D K A Y = (D', K', A', Y')) : ¬ ldB P.f P.nn (nI n) (D 0 8) = 0 → GH P g D' K' := fun c => by
  refine ⟨gd_136 hG hgg hnn hf hn h hF c, ?_⟩
  obtain ⟨D1, Zf, r1, r2, r3, r4, r5, r6⟩ := flush_z (nn := P.nn) (gg := P.gg) (C := P.C) (me := nI n) (f := P.f) (u := u) (b := b) (K := K) (A := A) (Bg_X P g) h.du
  have hN : NU P g n e D1 K := h.disk (fun q hq => r4 q (by omega) (by omega) (by omega)) r2 (fun k _ ⟨s, s1, s2, s3⟩ => Or.inl ⟨s, s1, by rw [r4 6 (by decide) (by decide) (by decide)]; exact s2, r5 s s1⟩)
  have e0 : D1 0 = D 0 := r4 0 (by decide) (by decide) (by decide)
  unfold F_136 at hF
  rw [r1 Y, bnS_e, if_neg (by rw [e0]; exact c)] at hF
  have hLO := hN.ld (by rw [e0]; exact c)
  obtain ⟨D2, Zw, w1, w2, w3, w4, w5, w6, _, w8⟩ := work_z (me := nI n) (u := u) (b := b) (A := A) hG hgg hnn (by omega) hf hN.ni hLO
  rw [w1 _, bnS_e] at hF
  obtain ⟨D3, K3, Zg, t1, t2, t3, t4, t5⟩ := goon_z (me := nI n) (u := u) (b := b) (A := 0) (Y := psl (psl Y Zf) Zw) hG hgg hnn w2
  have k7 := k7_91 (me := nI n) (u := u) (b := b) (A := 0) (Y := psl (psl Y Zf) Zw) hG hgg hnn w2
  rw [t1] at k7
  replace k7 : K7 D2 D3 := k7
  have hli2 : LIl P.gg D2 K := by
    have hli1 : LIl P.gg D1 K := (hd c).2.2.1.c (fun q hq => r4 q (by omega) (by omega) (by omega)) rfl
    obtain ⟨Dq, _, _, _, _, y1, y2, _, _, _, _, y5⟩ := w8
    rcases y5 with ⟨_, q, _⟩ | ⟨s1, s2, s3, _, _, _, s7⟩
    · exact hli1.cg (fun z => by rw [w5 18 (by decide)] at z; exact z) (fun n _ z => by rw [w6 10 (by decide) (by decide) (by decide)] at z; exact z) (fun z => by rw [q, y2 14 (by decide)] at z; exact z) (w5 8 (by decide)) (w5 10 (by decide)) (w5 11 (by decide)) (w5 16 (by decide)) (fun _ a m _ _ z => by rw [w5 17 (by decide)]; exact z) rfl
    · refine ⟨fun hs m hm hb => by rw [w5 10 (by decide)]; exact s2, fun hs hmd => ⟨by rw [w5 10 (by decide)]; exact s2, fun a ha => unS_up (s7 hmd a ha) (by rw [w5 16 (by decide)]) (w5 8 (by decide)) (w5 11 (by decide)) (fun m _ z => by rw [w5 17 (by decide)]; exact z)⟩⟩
  have hli3 := goon_li hG hgg hnn w2 t1 hli2
  have hop3 : OPl g D3 := goon_opl hG hgg hnn w2 t1 ((hd c).2.2.2.c (by rw [w5 18 (by decide), r4 18 (by decide) (by decide) (by decide)]) (by rw [w5 16 (by decide), r4 16 (by decide) (by decide) (by decide)]))
  rw [t1, bnS_e] at hF
  rw [Prod.mk.injEq, Prod.mk.injEq] at hF
  obtain ⟨e1, e2, _⟩ := hF
  subst e1 e2
  refine ⟨?_, hli3, hop3⟩
  intro hst m hm hb
  obtain ⟨a1, a2, _⟩ := t5.2.2.2.1 hst m hm hb
  rw [k7.1 9 (by decide) (by decide), w6 9 (by decide) (by decide) (by decide), r4 7 (by decide) (by decide) (by decide)]
  rw [w6 10 (by decide) (by decide) (by decide), r4 7 (by decide) (by decide) (by decide)] at a1
  refine (hd c).2.1 ?_ m hm a1
  rcases a2 with a2 | a2
  · rw [w5 18 (by decide), r4 18 (by decide) (by decide) (by decide)] at a2; exact a2
  · exact absurd a2 w2.no5

/-! hear of the leader -/
/-- MESSAGES: what MO leaves out -/
def MS (P : Pm) (g : Gh) (x : Mg) : Prop :=
  (x.1 0 = 5 → ∃ c, c ≤ 280 ∧ x.1 7 = nI c ∧ (∀ i j, i < c → j < c → x.2 i = x.2 j → i = j) ∧ ∀ i, i < c → tgO g (x.2 i)) ∧
  (x.1 0 = 10 → ∃ e n k, x.1 3 = nI e ∧ e ≤ g.ep ∧ x.1 2 = nI n ∧ n < P.nn ∧ x.1 5 = nI k ∧ k < 5243392 ∧ bt (msk P g e k) n = true) ∧
  (x.1 0 = 9 → ∃ e n k, x.1 3 = nI e ∧ e ≤ g.ep ∧ x.1 6 = nI n ∧ n < P.nn ∧ x.1 5 = nI k ∧ k < 5243392 ∧ bt (msk P g e k) n = true) ∧
  (x.1 0 = 12 → ∃ c, c ≤ 280 ∧ x.1 7 = nI c)
theorem tgO.mono {g g' : Gh} {t : Int32} (hg : Gle g g') (h : tgO g t) : tgO g' t := by
  obtain ⟨k, a, b, c, d⟩ := h
  exact ⟨k, a, b, hg.ukM c, Nat.lt_of_lt_of_le d hg.bg⟩
theorem MS.mono {P : Pm} {g g' : Gh} {x : Mg} (hg : Gle g g') (h : MS P g x) : MS P g' x := by
  refine ⟨fun z => ?_, fun z => ?_, fun z => ?_, h.2.2.2⟩
  · obtain ⟨c, a1, a2, a3, a4⟩ := h.1 z
    exact ⟨c, a1, a2, a3, fun i hi => (a4 i hi).mono hg⟩
  · obtain ⟨e, n, k, a1, a2, a3, a4, a5, a6, a7⟩ := h.2.1 z
    exact ⟨e, n, k, a1, Nat.le_trans a2 hg.ep, a3, a4, a5, a6, by rw [hg.mkE a2]; exact a7⟩
  · obtain ⟨e, n, k, a1, a2, a3, a4, a5, a6, a7⟩ := h.2.2.1 z
    exact ⟨e, n, k, a1, Nat.le_trans a2 hg.ep, a3, a4, a5, a6, by rw [hg.mkE a2]; exact a7⟩
/-- no kind that counts -/
theorem MS.no {P : Pm} {g : Gh} {x : Mg} (h5 : ¬ x.1 0 = 5) (h10 : ¬ x.1 0 = 10) (h9 : ¬ x.1 0 = 9) (h12 : ¬ x.1 0 = 12) : MS P g x := ⟨fun z => absurd z h5, fun z => absurd z h10, fun z => absurd z h9, fun z => absurd z h12⟩
theorem zHr.ms {P : Pm} {g : Gh} {nn : Nat} {me : Int32} {D : Nat → Nat → Int32} {z : Mg} (h : zHr nn me D z) : MS P g z := by
  rcases h with ⟨j, _, e⟩ | ⟨t, k, e⟩ | ⟨to, c, bf, c1, e⟩
  · rw [e]
    exact MS.no (show ¬ (4 : Int32) = 5 by decide) (show ¬ (4 : Int32) = 10 by decide) (show ¬ (4 : Int32) = 9 by decide) (show ¬ (4 : Int32) = 12 by decide)
  · rw [e]
    exact MS.no (by rw [mGT_0]; decide) (by rw [mGT_0]; decide) (by rw [mGT_0]; decide) (by rw [mGT_0]; decide)
  · rw [e]
    have h0 : va_up (mg 12 me to (D 7 7) (D 7 8)) 7 (nI c) 0 = 12 := by rw [va_up_n _ _ (by decide)]; rfl
    exact ⟨fun z => absurd (h0.symm.trans z) (by decide), fun z => absurd (h0.symm.trans z) (by decide), fun z => absurd (h0.symm.trans z) (by decide), fun _ => ⟨c, c1, (show va_up (mg 12 me to (D 7 7) (D 7 8)) 7 (nI c) 7 = nI c from va_up_s _ _ _)⟩⟩
/-- LO and a tag: find is a place of the table, no newer ROOT -/
theorem LO.fdO {P : Pm} {g : Gh} {e : Nat} {D : Nat → Nat → Int32} {K : Int64} (h : LO P g e D K) (hgg : 0 < P.gg) {k : Nat} (hk : k < 5243392) : fdO D (nI k) := by
  rcases h.find hgg hk with ⟨z, _⟩ | ⟨a, a1, a2, a3, a4, _⟩
  · exact ⟨Or.inl z, fun _ => z⟩
  · refine ⟨Or.inr ⟨a, a1, a2⟩, fun hn => ?_⟩
    exfalso
    rcases rtB_or (nI k) with ⟨r0, _⟩ | ⟨_, t', r1, r2, r3⟩
    · exact hn.1 r0
    · have : t' = k := nI_inj (by omega) (by omega) r2.symm
      subst this
      rcases a3 with ⟨_, z⟩ | ⟨z, _⟩
      · rw [z] at a4
        exact hn.2 (by rw [ver_t (by omega), a4]; exact Int32.le_refl _)
      · omega
theorem HRl.h9 {nn gg : Nat} {me : Int32} {g : Gh} {u b : Nat → Int32} {D D' : Nat → Nat → Int32} {W : Nat → Int32} {K A K' A' : Int64} {Z : List Mg} (hW : ∀ x, x ≠ 9 → W x = D 7 x) (h : HRl nn gg me g u b (va_up D 7 W) K A D' K' A' Z) : HRl nn gg me g u b D K A D' K' A' Z := by
  obtain ⟨h1, h2, h3, h4, h5⟩ := h
  rw [va_up_n _ _ (by decide)] at h1 h2
  have hP : Ph g (va_up D 7 W) K A = Ph g D K A := by
    unfold Ph
    rw [va_up_n _ _ (show (16 : Nat) ≠ 7 by decide), va_up_n _ _ (show (10 : Nat) ≠ 7 by decide), va_up_n _ _ (show (18 : Nat) ≠ 7 by decide)]
  rw [hP] at h2
  refine ⟨h1, h2, fun n hn s1 s2 => ?_, fun z hz => ?_, ?_⟩
  · rcases h3 n hn s1 s2 with ⟨a1, a2, a3, a4⟩ | a
    · rw [va_up_n _ _ (by decide)] at a1
      rw [va_up_s, hW 10 (by decide)] at a2
      exact Or.inl ⟨a1, a2, fun k hk hp => a3 k hk (hp.c (va_up_n _ _ (by decide)) (va_up_n _ _ (by decide)) (va_up_n _ _ (by decide)) (va_up_n _ _ (by decide)) (va_up_n _ _ (by decide))), a4⟩
    · exact Or.inr a
  · have e7 : va_up D 7 W 7 7 = D 7 7 := by rw [va_up_s, hW 7 (by decide)]
    have e8 : va_up D 7 W 7 8 = D 7 8 := by rw [va_up_s, hW 8 (by decide)]
    rcases h4 z hz with ⟨j, j1, e⟩ | ⟨t, k, e⟩ | ⟨to, c, bf, c1, e⟩
    · exact Or.inl ⟨j, j1, by rw [e]; unfold mLI; rw [e7, e8]⟩
    · exact Or.inr (Or.inl ⟨t, k, by rw [e]; unfold mGT; rw [e7, e8]⟩)
    · exact Or.inr (Or.inr ⟨to, c, bf, c1, by rw [e, e7, e8]⟩)
  · unfold LOr mLI at h5 ⊢
    rw [va_up_s, hW 7 (by decide), hW 8 (by decide), hW 10 (by decide), va_up_n _ _ (show (18 : Nat) ≠ 7 by decide)] at h5
    exact h5
theorem hear_z {P : Pm} {g : Gh} {e : Nat} {me : Int32} {u b : Nat → Int32} {D : Nat → Nat → Int32} {K A : Int64} (hG : GO g) (hb12 : g.bg ≤ g.sn + 12) (hgg : 0 < P.gg) (hnn : P.nn ≤ 6) (hf : Rg P.nn P.f) (h : LO P g e D K) (hm : MO P g e (u, b)) (hs : MS P g (u, b)) :
    ∃ (D' : Nat → Nat → Int32) (K' A' : Int64) (Z : List Mg), (∀ Y, F_67 P.nn P.gg P.C me P.f u b D K A Y = (D', K', A', psl Y Z)) ∧ HRl P.nn P.gg me g u b D K A D' K' A' Z ∧ LO P g e D' K' ∧ (∀ q, q < 7 → D' q = D q) ∧ (inR 961 (D 7 12) → inR 961 (D' 7 12)) := by
  have fin : ∀ (D' : Nat → Nat → Int32) (K' A' : Int64) (Z : List Mg), (∀ Y, F_67 P.nn P.gg P.C me P.f u b D K A Y = (D', K', A', psl Y Z)) → HRl P.nn P.gg me g u b D K A D' K' A' Z → ∃ (D' : Nat → Nat → Int32) (K' A' : Int64) (Z : List Mg), (∀ Y, F_67 P.nn P.gg P.C me P.f u b D K A Y = (D', K', A', psl Y Z)) ∧ HRl P.nn P.gg me g u b D K A D' K' A' Z ∧ LO P g e D' K' ∧ (∀ q, q < 7 → D' q = D q) ∧ (inR 961 (D 7 12) → inR 961 (D' 7 12)) := fun D' K' A' Z h1 h2 => by
    obtain ⟨D2, K2, A2, Y2, e1, e2, _, e4, e5⟩ := hear_lem (me := me) (A := A) (Y := []) hG hgg hnn hf h (fun y hy => by cases hy) hm hm.lc
    have e3 := (h1 []).symm.trans e1
    rw [Prod.mk.injEq, Prod.mk.injEq] at e3
    obtain ⟨e31, e32, _⟩ := e3
    subst e31 e32
    exact ⟨D', K', A', Z, h1, h2, e2, e4, e5⟩
  have hW : ∀ x, x ≠ 9 → upd (D 7) 9 ((D 7 9) ||| (1 <<< ((u 1) &&& 31))) x = D 7 x := fun x hx => pk_un hx
  have h7 : LO P g e (va_up D 7 (upd (D 7) 9 ((D 7 9) ||| (1 <<< ((u 1) &&& 31))))) K := h.f7 (pk_un (by decide)) (pk_un (by decide))
  obtain ⟨_, _, _, hroot⟩ := h.tab
  have hroot : D 16 960 = -1 ∨ ∃ w, w < 512 ∧ D 16 960 = nI w := by
    have := hG.1
    rcases hroot with z | ⟨v, v1, v2⟩
    · exact Or.inl z
    · exact Or.inr ⟨v, by omega, v2⟩
  have same : ¬ u 0 = 11 → HRl P.nn P.gg me g u b D K A (va_up D 7 (upd (D 7) 9 ((D 7 9) ||| (1 <<< ((u 1) &&& 31))))) K A [] := fun h11 => HRl.no (by rw [va_up_n _ _ (by decide)]) (by rw [va_up_n _ _ (by decide)]) (by rw [va_up_n _ _ (by decide)]; have := wk1 (N := Nn g (D 16 960)) (k := u 0); omega) (CLh.same h11 (fun z => by rw [va_up_n _ _ (by decide)] at z; exact z) (fun n _ z => by rw [va_up_s, hW 10 (by decide)] at z; exact z) (va_up_n _ _ (by decide)) (va_up_n _ _ (by decide)) (va_up_n _ _ (by decide)) (va_up_n _ _ (by decide)) (va_up_n _ _ (by decide)))
  by_cases c2 : u 0 = 2
  · obtain ⟨D', r1, _, r3, _⟩ := take_z (nn := P.nn) (gg := P.gg) (C := P.C) (me := me) (f := P.f) (u := u) (b := b) (g := g) (D := D) (K := K) (A := A) c2
    exact fin D' K A [] (fun Y => by unfold F_67; rw [if_neg (fun z => z c2), r1 Y, bnS_e]; rfl) r3
  by_cases c5 : u 0 = 5
  · obtain ⟨n, n1, n2, n3⟩ := hm.ls (Or.inl c5)
    obtain ⟨cnt, k1, k2, k3, k4⟩ := hs.1 c5
    have n2 : u 1 = nI n := n2
    have k2 : u 7 = nI cnt := k2
    have hcl : (u 7).toNatClampNeg = cnt := by rw [k2, nI_clamp (by omega)]
    generalize hD1 : va_up D 7 (upd (D 7) 9 ((D 7 9) ||| (1 <<< ((u 1) &&& 31)))) = D1 at h7
    have q16 : D1 16 = D 16 := by rw [← hD1, va_up_n _ _ (by decide)]
    have hfd : ∀ j, 0 ≤ j → j < 0 + cnt → fdO D1 (b j) := fun j _ hj => by
      obtain ⟨k, a1, a2, _⟩ := k4 j (by omega)
      have a2 : b j = nI k := a2
      rw [a2]; exact h7.fdO hgg a1
    -- sure or not
    have hsure : ∃ s2 s3 : Int32, (∀ Y, F_70 P.nn P.gg P.C me P.f u b D1 K A Y = G_70 P.nn P.gg P.C me P.f u b s2 s3 cnt 0 0 0 D1 K A Y) := by
      by_cases e1 : acB (D1 18 3) = 0
      · by_cases e2 : knA K (D1 10 9) = 0
        · exact ⟨0, 0, fun Y => by unfold F_70; rw [bnN_e, hcl, if_neg (fun z => z e1), if_pos e2]⟩
        · by_cases e3 : sfB (D1 8) (D1 11) (D1 16) (D1 17) P.gg 960 = 0
          · exact ⟨1, 0, fun Y => by unfold F_70; rw [bnN_e, hcl, if_neg (fun z => z e1), if_neg e2, if_pos e3]⟩
          · exact ⟨1, 1, fun Y => by unfold F_70; rw [bnN_e, hcl, if_neg (fun z => z e1), if_neg e2, if_neg e3]⟩
      · exact ⟨0, 0, fun Y => by unfold F_70; rw [bnN_e, hcl, if_pos e1]⟩
    obtain ⟨s2, s3, hF⟩ := hsure
    obtain ⟨D', A', Z, r1, r2⟩ := listed_z (nn := P.nn) (gg := P.gg) (C := P.C) (me := me) (f := P.f) (s2 := s2) (s3 := s3) (K := K) (show n < 32 by omega) n2 cnt 0 0 0 D1 A (by omega) hfd
    obtain ⟨l1, l2, ⟨w, l3, l4⟩, l5, l6, l7, l8, l9, _⟩ := r2
    have hnr := nr_le (b := b) (cnt := cnt) hG hb12 hroot k3 k4
    refine fin D' K A' Z (fun Y => ?_) (HRl.h9 hW ?_)
    · unfold F_67
      rw [if_pos c2, if_pos c5, hD1, hF Y]
      have := r1 Y
      rw [nI_0] at this
      rw [this, bnS_e]
    · rw [hD1]
      refine ⟨by rw [l1 16 (by decide) (by decide) (by decide)]; exact Nat.le_refl _, ?_, fun n' hn' s1 s2' => ?_, fun z hz => ?_, LOr.no (fun z hz => ?_)⟩
      · have h5 := l5 (Nn g (D1 16 960))
        rw [q16] at h5
        have w5 : wk (Nn g (D 16 960)) (u 0) = 11 + 2 * Nn g (D 16 960) := by rw [c5]; rfl
        unfold Ph
        rw [l1 16 (by decide) (by decide) (by decide), l1 10 (by decide) (by decide) (by decide), l1 18 (by decide) (by decide) (by decide), q16, w5]
        omega
      · rw [l3] at s2'
        have hst : D1 18 3 ≤ 2 := by rw [← l1 18 (by decide) (by decide) (by decide)]; exact s1
        by_cases en : n' = n
        · subst en
          by_cases w0 : w = 0
          · exfalso
            unfold scB at s2'
            rw [if_pos w0, n2, bt_clr _ hn' hn', decide_eq_true rfl] at s2'
            simp at s2'
          · obtain ⟨a1, _, c', a3, a4, a5⟩ := l4 w0
            have : c' = cnt := by
              rw [Nat.zero_add] at a4
              exact nI_inj (by omega) (by omega) (a4.symm.trans k2)
            refine Or.inr ⟨c5, n2, a1, fun j hj => ?_⟩
            obtain ⟨a, b1, b2, b3⟩ := a5 this j (Nat.zero_le _) (by rw [hcl] at hj; omega)
            exact ⟨a, b1, by rw [l1 15 (by decide) (by decide) (by decide), l1 16 (by decide) (by decide) (by decide)]; exact b2, by rw [l1 8 (by decide) (by decide) (by decide), l1 11 (by decide) (by decide) (by decide)]; exact b3, l9 j a (Nat.zero_le _) (by rw [hcl] at hj; omega) b1 b2⟩
        · refine Or.inl ⟨hst, ?_, fun k _ hp => hp.cg (l1 8 (by decide) (by decide) (by decide)) (l1 11 (by decide) (by decide) (by decide)) (l1 15 (by decide) (by decide) (by decide)) (l1 16 (by decide) (by decide) (by decide)) (fun a _ z => l8 a n' (by omega) z), fun z => by rw [c5] at z; exact absurd z (by decide)⟩
          unfold scB at s2'
          by_cases w0 : w = 0
          · rw [if_pos w0, n2, bt_clr _ (by omega) hn'] at s2'
            simp only [Bool.and_eq_true] at s2'
            exact s2'.1
          · rw [if_neg w0, n2, bt_set _ (by omega) hn', decide_eq_false en, Bool.or_false] at s2'
            exact s2'
      · rcases l7 z hz with ⟨j, _, _, j3, _⟩ | ⟨c', bf, a1, a2⟩
        · exact Or.inr (Or.inl ⟨_, _, j3⟩)
        · exact Or.inr (Or.inr ⟨_, c', bf, by omega, a2⟩)
      · rcases l7 z hz with ⟨j, _, _, j3, _⟩ | ⟨c', bf, a1, a2⟩
        · rw [j3, mGT_0]; decide
        · rw [a2]
          show ¬ va_up (mg 12 me (u 1) (D1 7 7) (D1 7 8)) 7 (nI c') 0 = 4
          rw [va_up_n _ _ (by decide)]
          show ¬ (12 : Int32) = 4
          decide
  by_cases c7 : u 0 = 7
  · obtain ⟨n, k, n1, n2, n3, n4, n5, n6, n7⟩ := hm.it c7
    obtain ⟨D', K', A', Z, r1, r2, _⟩ := item_z (me := me) (A := A) hG hb12 hgg hnn n1 n2 c7 n3 n4 n5 n6 n7 h7
    exact fin D' K' A' Z (fun Y => by
      unfold F_67
      rw [if_pos c2, if_neg c5, if_neg (show ¬ u 0 = 6 by rw [c7]; decide), if_pos c7]
      have := r1 Y
      rw [this, bnS_e]) (HRl.h9 hW r2)
  by_cases c8 : u 0 = 8
  · obtain ⟨n, n1, n2⟩ := hm.lk c8
    obtain ⟨D', r1, r2, r3, r4, _, r6, _, r8, r9⟩ := lack_z (nn := P.nn) (gg := P.gg) (C := P.C) (me := me) (f := P.f) (u := u) (b := b) (D := va_up D 7 (upd (D 7) 9 ((D 7 9) ||| (1 <<< ((u 1) &&& 31))))) (K := K) (A := A) (show n < 32 by omega) n2
    refine fin D' K A [] (fun Y => by
      unfold F_67
      rw [if_pos c2, if_neg c5, if_neg (show ¬ u 0 = 6 by rw [c8]; decide), if_neg c7, if_pos c8]
      have := r1 Y
      rw [this, bnS_e]; rfl) (HRl.h9 hW (HRl.no (by rw [r2 16 (by decide) (by decide)]) (by rw [r2 10 (by decide) (by decide)]) (by rw [r2 18 (by decide) (by decide)]; have := wk1 (N := Nn g (va_up D 7 (upd (D 7) 9 ((D 7 9) ||| (1 <<< ((u 1) &&& 31)))) 16 960)) (k := u 0); omega) (fun n' hn' s1 s2 => Or.inl ⟨by rw [r2 18 (by decide) (by decide)] at s1; exact s1, r4 n' hn' s2, fun k _ hp => hp.cg (r2 8 (by decide) (by decide)) (r2 11 (by decide) (by decide)) (r2 15 (by decide) (by decide)) (r2 16 (by decide) (by decide)) (fun a ha z => ?_), fun z => by rw [c8] at z; exact absurd z (by decide)⟩)))
    by_cases en : n' = n
    · subst en
      by_cases hc : fndI ((va_up D 7 (upd (D 7) 9 ((D 7 9) ||| (1 <<< ((u 1) &&& 31))))) 15) ((va_up D 7 (upd (D 7) 9 ((D 7 9) ||| (1 <<< ((u 1) &&& 31))))) 16) (u 5) = -1
      · rw [r8 a (by rw [hc]; exact fun y => absurd y.symm (nIneg (by omega))) ha (Or.inl hc)]; exact z
      · rw [(r9 hc).1] at s2; cases s2
    · rw [r6 a n' hn' en]; exact z
  by_cases c11 : u 0 = 11
  · obtain ⟨n, n1, n2, n3⟩ := hm.ls (Or.inr c11)
    have n2 : u 1 = nI n := n2
    obtain ⟨D', r1, r2, r3, r4, r5, r6, r7⟩ := have_z (nn := P.nn) (gg := P.gg) (C := P.C) (me := me) (f := P.f) (u := u) (b := b) (K := K) (A := A) (show n < 32 by omega) n2 (u 7).toNatClampNeg 0 (va_up D 7 (upd (D 7) 9 ((D 7 9) ||| (1 <<< ((u 1) &&& 31))))) (fun j _ hj => by
      obtain ⟨k, a1, a2, _⟩ := n3 j (by rw [Nat.zero_add] at hj; exact hj)
      have a1 : b j = nI k := a1
      rw [a1]; exact (h7.fdO hgg a2).1)
    refine fin D' K A [] (fun Y => by
      unfold F_67
      rw [if_pos c2, if_neg c5, if_neg (show ¬ u 0 = 6 by rw [c11]; decide), if_neg c7, if_neg c8, if_neg (show ¬ u 0 = 9 by rw [c11]; decide), if_neg (show ¬ u 0 = 10 by rw [c11]; decide), if_pos c11]
      unfold F_89
      rw [bnN_e]
      have := r1 Y
      rw [this, bnS_e]; rfl) (HRl.h9 hW (HRl.no (by rw [r2 16 (by decide) (by decide)]) (by rw [r2 10 (by decide) (by decide)]) (by rw [r2 18 (by decide) (by decide)]; have := wk1 (N := Nn g (va_up D 7 (upd (D 7) 9 ((D 7 9) ||| (1 <<< ((u 1) &&& 31)))) 16 960)) (k := u 0); omega) (fun n' hn' s1 s2 => Or.inl ⟨by rw [r2 18 (by decide) (by decide)] at s1; exact s1, r4 n' hn' s2, fun k _ hp => hp.cg (r2 8 (by decide) (by decide)) (r2 11 (by decide) (by decide)) (r2 15 (by decide) (by decide)) (r2 16 (by decide) (by decide)) (fun a _ z => r6 a n' (by omega) z), fun _ e1 j hj => ?_⟩)))
    have : n' = n := nI_inj (by omega) (by omega) (e1.symm.trans n2)
    subst this
    rw [r2 15 (by decide) (by decide), r2 16 (by decide) (by decide)]
    have h5 := r5 s2 j (Nat.zero_le _) (by omega)
    obtain ⟨k, a1, a2, _⟩ := n3 j hj
    have a1 : b j = nI k := a1
    rw [a1] at h5 ⊢
    rcases (h7.fdO hgg a2).1 with q | ⟨a, q1, q2⟩
    · exact absurd q h5
    · exact ⟨a, q1, q2, r7 j a (Nat.zero_le _) (by omega) q1 (by rw [a1]; exact q2)⟩
  · refine fin _ K A [] (fun Y => ?_) (same c11)
    unfold F_67
    rw [if_pos c2, if_neg c5]
    by_cases c6 : u 0 = 6
    · rw [if_pos c6]; rfl
    · rw [if_neg c6, if_neg c7, if_neg c8]
      by_cases c9 : u 0 = 9
      · rw [if_pos c9]; rfl
      · rw [if_neg c9]
        by_cases c10 : u 0 = 10
        · rw [if_pos c10]; rfl
        · rw [if_neg c10, if_neg c11]; rfl

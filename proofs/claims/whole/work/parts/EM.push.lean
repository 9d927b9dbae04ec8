/-! push -/
/-- the tag of an ITEM of the table -/
theorem LO.tagn {P : Pm} {g : Gh} {e : Nat} {D : Nat → Nat → Int32} {K : Int64} (h : LO P g e D K) (hG : GO g) {a : Nat} (ha : a < 961) (hv : ¬ D 16 a < 0) : ∃ k, k < 5243392 ∧ tgA (D 11) (D 16) a = nI k := by
  have h512 := hG.1
  obtain ⟨c, c1, htr, hroot⟩ := h.tab
  have hT := hG.tok c1
  by_cases e9 : a = 960
  · subst e9
    rcases hroot with z | ⟨v, v1, v2⟩
    · rw [z] at hv; exact absurd (by decide) hv
    · exact ⟨_, by unfold tgN; omega, tgA_r v2⟩
  · have hd : a = a / 20 * 20 + a % 20 := by omega
    have hp : a % 20 < 20 := Nat.mod_lt _ (by decide)
    rcases htr.b2 (a / 20) (by omega) with ⟨_, _, _, z⟩ | ⟨i, i1, i2, _⟩
    · have := z (a % 20) hp
      rw [← hd] at this
      rw [this] at hv; exact absurd (by decide) hv
    · have hvr : D 16 a = (tsp g.ops c).vr i (a % 20) := by
        by_cases p9 : a % 20 = 19
        · have := htr.r1 i (a / 20) i1 (by omega) i2
          rw [p9]
          rw [← this]
          congr 1
          omega
        · cases ek : bq K (a / 20) with
          | true =>
            have := (htr.k1 i (a / 20) i1 (by omega) i2 ek).2.2.2 (a % 20) (by omega)
            rw [← hd] at this
            exact this
          | false =>
            have := (htr.u1 i (a / 20) i1 (by omega) i2 ek).2 (a % 20) (by omega)
            rw [← hd] at this
            rw [this] at hv
            exact absurd (by decide) hv
      rcases hT.v1 i (a % 20) with z | ⟨v, v1, v2⟩
      · rw [hvr, z] at hv; exact absurd (by decide) hv
      · refine ⟨tgN i (a % 20) v, by unfold tgN; omega, ?_⟩
        have := tgA_v (jf := D 11) (vf := D 16) (f := a / 20) (p := a % 20) (i := i) (v := v) (by omega) hp i2 (by rw [← hd, hvr, v2])
        rw [← hd] at this
        exact this
theorem oneb_lp {nn gg : Nat} {C me : Int32} {f u b : Nat → Int32} {D : Nat → Nat → Int32} {K A : Int64} {P : Pm} {g : Gh} {j : Nat} {y4 : Int32} (hp : y4 = 0 ∨ ∀ (n : Nat) (Y : List Mg), MOL P g Y → MOL P g (pst Y (va_up (mg 10 me (nI n) (D 7 7) (D 7 8)) 5 ((D 21) (j * 128 + 1)), fun x => D 21 (j * 128 + x)))) :
    ∀ (k i : Nat) (Y : List Mg), i + k ≤ 32 → MOL P g Y → ∃ Y', G_128 nn gg C me f u b j y4 k i D K A Y = (D, K, A, Y') ∧ MOL P g Y'
  | 0, i, Y, _, h => ⟨Y, rfl, h⟩
  | k + 1, i, Y, hi, h => by
    unfold G_128
    by_cases c : ((y4 >>> ((nI i) &&& 31)) &&& 1) = 0
    · rw [if_pos c]
      exact oneb_lp hp k (i + 1) Y (by omega) h
    · rw [if_neg c]
      rcases hp with z | z
      · rw [z] at c
        exact absurd ((bitz 0 (show i < 32 by omega)).mpr (b_0 i)) c
      · exact oneb_lp (Or.inr z) k (i + 1) _ (by omega) (z i Y h)
theorem one_lem {nn gg : Nat} {C me : Int32} {f u b : Nat → Int32} {D : Nat → Nat → Int32} {K A : Int64} {Y : List Mg} {P : Pm} {g : Gh} {j : Nat} (hnn : nn ≤ 6) (hp : D 21 (j * 128) = 0 ∨ ∀ (n : Nat) (Y : List Mg), MOL P g Y → MOL P g (pst Y (va_up (mg 10 me (nI n) (D 7 7) (D 7 8)) 5 ((D 21) (j * 128 + 1)), fun x => D 21 (j * 128 + x)))) (h : MOL P g Y) :
    ∃ Y', F_128 nn gg C me f u b D K A Y j = (D, K, A, Y') ∧ MOL P g Y' := by
  unfold F_128
  by_cases c : seB (D 21 (j * 128)) = 0
  · rw [if_pos c]
    exact oneb_lp (Or.inl rfl) nn 0 Y (by omega) h
  · rw [if_neg c]
    by_cases d : fndI (D 15) (D 16) (D 21 (j * 128 + 1)) = -1
    · rw [if_pos d]
      exact oneb_lp (Or.inl rfl) nn 0 Y (by omega) h
    · rw [if_neg d, bnN_e]
      rcases hp with z | z
      · exact absurd (by unfold seB; rw [if_pos z]) c
      · exact oneb_lp (Or.inr z) nn 0 Y (by omega) h
theorem all_lp {nn gg : Nat} {C me : Int32} {f u b : Nat → Int32} {D : Nat → Nat → Int32} {K A : Int64} {P : Pm} {g : Gh} (hnn : nn ≤ 6) (hp : ∀ j, j < 8 → D 21 (j * 128) = 0 ∨ ∀ (n : Nat) (Y : List Mg), MOL P g Y → MOL P g (pst Y (va_up (mg 10 me (nI n) (D 7 7) (D 7 8)) 5 ((D 21) (j * 128 + 1)), fun x => D 21 (j * 128 + x)))) :
    ∀ (k i : Nat) (Y : List Mg), i + k ≤ 8 → MOL P g Y → ∃ Y', H_125 nn gg C me f u b k i D K A Y = (D, K, A, Y') ∧ MOL P g Y'
  | 0, i, Y, _, h => ⟨Y, rfl, h⟩
  | k + 1, i, Y, hi, h => by
    obtain ⟨Y1, r1, r2⟩ := one_lem (nn := nn) (gg := gg) (C := C) (me := me) (f := f) (u := u) (b := b) (K := K) (A := A) hnn (hp i (by omega)) h
    rw [H_125.eq_2, r1, bnS_e]
    exact all_lp hnn hp k (i + 1) Y1 (by omega) r2
theorem get_lp {nn gg : Nat} {C me : Int32} {f u b : Nat → Int32} {D : Nat → Nat → Int32} {K A : Int64} {P : Pm} {g : Gh} {e : Nat} (htg : ∀ i, i < 6 → ¬ ndB (D 18) i < 0 → ∃ k, k < 5243392 ∧ tgA (D 11) (D 16) (ndB (D 18) i).toNatClampNeg = nI k) (h7 : D 7 7 = nI e) (h8 : D 7 8 = g.mp e) (he : e ≤ g.ep) :
    ∀ (k i : Nat) (Y : List Mg), i + k ≤ 6 → MOL P g Y → ∃ Y', G_125 nn gg C me f u b k i D K A Y = (D, K, A, Y') ∧ MOL P g Y'
  | 0, i, Y, _, h => ⟨Y, rfl, h⟩
  | k + 1, i, Y, hik, h => by
    have hF : ∃ Y1, F_126 nn gg C me f u b D K A Y (ndB (D 18) i) = (D, K, A, Y1) ∧ MOL P g Y1 := by
      unfold F_126
      simp only [bnN_e]
      repeat' split
      · exact ⟨Y, rfl, h⟩
      · exact ⟨Y, rfl, h⟩
      · exact ⟨Y, rfl, h⟩
      · exact ⟨_, rfl, h.put (MO.m_gt6 (e := e) (by rw [va_up_n _ _ (by decide)]; rfl) (by rw [va_up_n _ _ (by decide)]; exact h7) he (by rw [va_up_n _ _ (by decide)]; exact h8) (by rw [va_up_s]; exact htg i (by omega) (by assumption)))⟩
    obtain ⟨Y1, r1, r2⟩ := hF
    rw [G_125.eq_2, r1, bnS_e]
    exact get_lp htg h7 h8 he k (i + 1) Y1 (by omega) r2
theorem put_ok {P : Pm} {g : Gh} {e : Nat} {me : Int32} {D : Nat → Nat → Int32} {o k : Nat} (h7 : D 7 7 = nI e) (h8 : D 7 8 = g.mp e) (he : e ≤ g.ep) (hB : Bg P g (fun x => D 21 (o + x))) (hk : D 21 (o + 1) = nI k) (hkb : k < 5243392) : ∀ (n : Nat) (Y : List Mg), MOL P g Y → MOL P g (pst Y (va_up (mg 10 me (nI n) (D 7 7) (D 7 8)) 5 ((D 21) (o + 1)), fun x => D 21 (o + x))) := fun n Y h => h.put (MO.m_pu (e := e) (by rw [va_up_n _ _ (by decide)]; rfl) (by rw [va_up_n _ _ (by decide)]; exact h7) he (by rw [va_up_n _ _ (by decide)]; exact h8) ⟨k, hkb, by rw [va_up_s]; exact hk, hk, hB⟩)
theorem push_lem {P : Pm} {g : Gh} {e : Nat} {me : Int32} {u b : Nat → Int32} {D : Nat → Nat → Int32} {K A : Int64} {Y : List Mg} (hG : GO g) (hnn : P.nn ≤ 6) (h : LO P g e D K) (hY : MOL P g Y) : ∃ Y', F_125 P.nn P.gg P.C me P.f u b D K A Y = (D, K, A, Y') ∧ MOL P g Y' := by
  unfold F_125
  rcases h.st with ⟨z, _⟩ | ⟨z, _⟩ | ⟨z, zf⟩ | ⟨z, o, zo⟩ | ⟨z, o, zo⟩
  · rw [z, if_pos (by decide), if_pos (by decide), if_pos (by decide)]
    exact ⟨Y, rfl, hY⟩
  · rw [z, if_pos (by decide), if_pos (by decide), if_pos (by decide)]
    exact ⟨Y, rfl, hY⟩
  · rw [z, if_neg (fun y => y rfl)]
    refine get_lp (fun i hi6 hi => ?_) h.l1.1 h.l1.2.1 h.l1.2.2.1 6 0 Y (by omega) hY
    obtain ⟨o, ⟨ho, _⟩, z1, _⟩ := zf
    have h512 := hG.1
    have hT := hG.tok (Nat.le_of_lt ho)
    obtain ⟨sp, c, a, s1, s2, s3, s4, s5, s6, _, _⟩ := z1.sp
    have hnd : nI i < D 18 11 ∧ ¬ (D 18 12 >>> (nI i &&& 31)) &&& 1 = 0 := by
      unfold ndB at hi
      by_cases q : nI i < D 18 11 ∧ ¬ (D 18 12 >>> (nI i &&& 31)) &&& 1 = 0
      · exact q
      · rw [if_neg q] at hi; exact absurd (by decide) hi
    have hbi : bt (D 18 12) i = true := by
      cases q : bt (D 18 12) i with
      | true => rfl
      | false => exact absurd ((bitz _ (by omega)).mpr q) hnd.2
    obtain ⟨hic, fx, f1, f2, f3⟩ := s6 i (by omega) hbi
    have hsp : 0 < sp := by
      rcases Nat.eq_zero_or_pos sp with y | y
      · rw [s4 y] at hic; omega
      · exact y
    obtain ⟨t1, t2, t3, t4⟩ := s5 hsp
    have hx : ndB (D 18) i = nI (fx * 20 + a / 448 + i) := by
      unfold ndB
      rw [if_pos hnd, f2, t3, show (20 : Int32) = nI 20 from rfl, nI_mul, nI_add, nI_add]
    rw [hx, nI_clamp (by omega)]
    exact h.tagn hG (by omega) f3
  · rw [z, if_pos (by decide), if_neg (fun y => y rfl)]
    refine all_lp hnn (fun j hj => ?_) 8 0 Y (by omega) hY
    rcases zo.nb.b1 j (by omega) with y | ⟨_, _, y3, k, y4, y5, _⟩
    · left
      have := y 0 (by omega)
      rw [Nat.add_zero] at this
      exact this
    · exact Or.inr (put_ok h.l1.1 h.l1.2.1 h.l1.2.2.1 y3 y4 (by omega))
  · rw [z, if_pos (by decide), if_pos (by decide), if_neg (fun y => y rfl)]
    have hb : rtg o < 5243392 := by
      have := zo.wa.o1
      have := hG.1
      unfold rtg tgN
      omega
    obtain ⟨Y', r1, r2⟩ := one_lem (nn := P.nn) (gg := P.gg) (C := P.C) (me := me) (f := P.f) (u := u) (b := b) (K := K) (A := A) (j := 8) hnn (Or.inr (put_ok (o := 8 * 128) h.l1.1 h.l1.2.1 h.l1.2.2.1 zo.b8.2.2 zo.b8.2.1 hb)) hY
    rw [r1, bnS_e]
    exact ⟨Y', rfl, r2⟩

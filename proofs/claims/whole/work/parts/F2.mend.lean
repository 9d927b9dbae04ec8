/-! mend -/
def pc (x : Int32) : Nat → Nat → Nat
  | 0, _ => 0
  | k + 1, i => (if bt x i = true then 1 else 0) + pc x k (i + 1)
theorem pc_le (x : Int32) : ∀ (k m i : Nat), pc x k i ≤ pc x (k + m) i
  | 0, m, i => Nat.zero_le _
  | k + 1, m, i => by
    have := pc_le x k m (i + 1)
    rw [show k + 1 + m = (k + m) + 1 by omega]
    show _ + pc x k (i + 1) ≤ _ + pc x (k + m) (i + 1)
    omega
theorem pc_bd (x : Int32) : ∀ (k i : Nat), pc x k i ≤ k
  | 0, i => Nat.le_refl _
  | k + 1, i => by
    have := pc_bd x k (i + 1)
    show (if bt x i = true then 1 else 0) + pc x k (i + 1) ≤ k + 1
    split <;> omega
theorem bcI_64 : ∀ v, v < 64 → bcI (nI v) = nI (pc (nI v) 6 0) := by decide +kernel
theorem small6 {x : Int32} (h : ∀ j, 6 ≤ j → j < 32 → bt x j = false) : ∃ v, v < 64 ∧ x = nI v := by
  refine ⟨x.toBitVec.toNat, ?_, ?_⟩
  · refine Nat.lt_pow_two_of_testBit (n := 6) _ (fun i hi => ?_)
    rcases Nat.lt_or_ge i 32 with q | q
    · exact h i hi q
    · exact Nat.testBit_lt_two_pow (Nat.lt_of_lt_of_le x.toBitVec.isLt (Nat.pow_le_pow_right (by decide) q))
  · refine Int32.toBitVec_inj.mp ?_
    show x.toBitVec = BitVec.ofNat 32 _
    rw [BitVec.ofNat_toNat, BitVec.setWidth_eq]
/-- SEND of the ITEM at a to NODE n -/
def mSE (nn : Nat) (me : Int32) (D : Nat → Nat → Int32) (a n : Nat) : Mg := (va_up (va_up (mg 9 me (nI (oneO ((D 17) a) nn nn ((D 7 13)).toNatClampNeg)) (D 7 7) (D 7 8)) 5 (tgA (D 11) (D 16) a)) 6 (nI n), fun _ => 0)
theorem send_z {nn gg : Nat} {C me : Int32} {f u b : Nat → Int32} {D : Nat → Nat → Int32} {K A : Int64} {x : Int32} {a : Nat} : ∀ (k i : Nat), i + k ≤ 32 → ∃ Z, (∀ Y, G_139 nn gg C me f u b x a k i D K A Y = (bcI x, D, K, A, psl Y Z)) ∧ Z.length = pc x k i ∧ (∀ z ∈ Z, ∃ j, i ≤ j ∧ j < i + k ∧ bt x j = true ∧ z = mSE nn me D a j) ∧ ∀ j, i ≤ j → j < i + k → bt x j = true → mSE nn me D a j ∈ Z
  | 0, i, _ => ⟨[], fun _ => rfl, rfl, fun z h => (by cases h), fun j h1 h2 => by omega⟩
  | k + 1, i, hi => by
    obtain ⟨Z, z1, z2, z3, z4⟩ := send_z (nn := nn) (gg := gg) (C := C) (me := me) (f := f) (u := u) (b := b) (D := D) (K := K) (A := A) (x := x) (a := a) k (i + 1) (by omega)
    have hb := bitz x (show i < 32 by omega)
    cases c : bt x i with
    | false =>
      refine ⟨Z, fun Y => ?_, ?_, fun z hz => ?_, fun j h1 h2 h3 => ?_⟩
      · show (if ((x >>> ((nI i) &&& 31)) &&& 1) = 0 then G_139 nn gg C me f u b x a k (i + 1) D K A Y else _) = _
        rw [if_pos (hb.mpr c), z1 Y]
      · show Z.length = (if bt x i = true then 1 else 0) + pc x k (i + 1)
        rw [c, z2]; simp
      · obtain ⟨j, a1, a2, a3, a4⟩ := z3 z hz
        exact ⟨j, by omega, by omega, a3, a4⟩
      · rcases Nat.lt_or_ge i j with q | q
        · exact z4 j (by omega) (by omega) h3
        · have : j = i := by omega
          rw [this, c] at h3; cases h3
    | true =>
      refine ⟨mSE nn me D a i :: Z, fun Y => ?_, ?_, fun z hz => ?_, fun j h1 h2 h3 => ?_⟩
      · show (if ((x >>> ((nI i) &&& 31)) &&& 1) = 0 then _ else G_139 nn gg C me f u b x a k (i + 1) D K A (pst Y (mSE nn me D a i))) = _
        rw [if_neg (fun z => by rw [hb.mp z] at c; cases c), z1 _]
        rfl
      · show Z.length + 1 = (if bt x i = true then 1 else 0) + pc x k (i + 1)
        rw [c, z2, if_pos rfl]; omega
      · rcases List.mem_cons.mp hz with e | e
        · exact ⟨i, Nat.le_refl _, by omega, c, e⟩
        · obtain ⟨j, a1, a2, a3, a4⟩ := z3 z e
          exact ⟨j, by omega, by omega, a3, a4⟩
      · rcases Nat.lt_or_ge i j with q | q
        · exact List.mem_cons_of_mem _ (z4 j (by omega) (by omega) h3)
        · have : j = i := by omega
          rw [this]; exact List.mem_cons_self
/-- the NODES that the ITEM at a is sent to -/
def mxA (gg : Nat) (D : Nat → Nat → Int32) (a : Nat) : Int32 := ((D 8 (grp (D 11) gg a)) &&& ((D 17 a) ^^^ (-1))) &&& (D 7 9)
def MR (D D' : Nat → Nat → Int32) : Prop := (∀ q, q ≠ 7 → D' q = D q) ∧ ∀ x, x ≠ 12 → x ≠ 14 → D' 7 x = D 7 x
theorem MR.rf (D : Nat → Nat → Int32) : MR D D := ⟨fun _ _ => rfl, fun _ _ _ => rfl⟩
theorem MR.tr {D D1 D2 : Nat → Nat → Int32} (h : MR D D1) (h2 : MR D1 D2) : MR D D2 := ⟨fun q hq => by rw [h2.1 q hq, h.1 q hq], fun x h1 h3 => by rw [h2.2 x h1 h3, h.2 x h1 h3]⟩
theorem MR.se {nn : Nat} {me : Int32} {D D' : Nat → Nat → Int32} (h : MR D D') (a n : Nat) : mSE nn me D' a n = mSE nn me D a n := by
  unfold mSE
  rw [h.1 17 (by decide), h.1 11 (by decide), h.1 16 (by decide), h.2 13 (by decide) (by decide), h.2 7 (by decide) (by decide), h.2 8 (by decide) (by decide)]
theorem MR.mx {gg : Nat} {D D' : Nat → Nat → Int32} (h : MR D D') (a : Nat) : mxA gg D' a = mxA gg D a := by
  unfold mxA
  rw [h.1 8 (by decide), h.1 17 (by decide), h.1 11 (by decide), h.2 9 (by decide) (by decide)]
/-- ITEM at a is wanted, and not where it should be -/
def unS (gg : Nat) (D : Nat → Nat → Int32) (a : Nat) : Prop := ¬ D 16 a < 0 ∧ sfB (D 8) (D 11) (D 16) (D 17) gg a = 0
theorem MR.un {gg : Nat} {D D' : Nat → Nat → Int32} (h : MR D D') (a : Nat) : unS gg D' a ↔ unS gg D a := by
  unfold unS
  rw [h.1 8 (by decide), h.1 17 (by decide), h.1 11 (by decide), h.1 16 (by decide)]
/-- one round of mend -/
theorem mend1 {nn gg : Nat} {C me : Int32} {f u b : Nat → Int32} {D : Nat → Nat → Int32} {K A : Int64} {a : Nat} (hnn : nn ≤ 6) (ha : a < 961) (ea : D 7 12 = nI a) (hm : ∀ j, nn ≤ j → j < 32 → bt (D 8 (grp (D 11) gg a)) j = false) :
    ∃ (D1 : Nat → Nat → Int32) (Z : List Mg) (y : Nat), MR D D1 ∧ D1 7 12 = nI ((a + 1) % 961) ∧ Z.length ≤ y ∧ y ≤ 6 ∧
      (∀ (k i c : Nat) (Y : List Mg), c < 24 → G_138 nn gg C me f u b (k + 1) i (nI c) D K A Y = G_138 nn gg C me f u b k (i + 1) (nI (c + y)) D1 K A (psl Y Z)) ∧
      (∀ z ∈ Z, ∃ n, n < nn ∧ unS gg D a ∧ ¬ D 17 a = 0 ∧ bt (mxA gg D a) n = true ∧ z = mSE nn me D a n) ∧
      ((unS gg D a ∧ D1 7 14 = 0 ∧ (¬ D 17 a = 0 → (∀ n, n < nn → bt (mxA gg D a) n = true → mSE nn me D a n ∈ Z) ∧ (mxA gg D a = 0 → y = 0)) ∧ (D 17 a = 0 → y = 0)) ∨ (¬ unS gg D a ∧ D1 7 14 = D 7 14 ∧ y = 0)) := by
  have hcl : (D 7 12).toNatClampNeg = a := by rw [ea, nI_clamp (by omega)]
  have w : ∀ c, c < 24 → ¬ (24 : Int32) ≤ nI c := fun c hc z => by
    have : nI c < nI 24 := (nI_ltI (by omega) (by decide)).mpr hc
    exact absurd this (Int32.not_lt.mpr z)
  by_cases c1 : D 16 a < 0
  · refine ⟨va_up D 7 (upd (D 7) 12 (nI ((a + 1) % 961))), [], 0, ⟨fun q hq => va_up_n _ _ hq, fun x h1 h2 => by rw [va_up_s, pk_un h1]⟩, by rw [va_up_s, pk_us], Nat.le_refl _, by omega, fun k i c Y hc => ?_, fun z hz => (by cases hz), Or.inr ⟨fun z => z.1 c1, by rw [va_up_s, pk_un (by decide)], rfl⟩⟩
    rw [G_138.eq_2, bnN_e, hcl, if_neg (w c hc), if_pos c1]
    rfl
  · by_cases c2 : sfB (D 8) (D 11) (D 16) (D 17) gg a = 0
    · have hx : ∃ v, v < 64 ∧ mxA gg D a = nI v := small6 (fun j h1 h2 => by
        unfold mxA
        rw [b_and, b_and, hm j (by omega) h2]; rfl)
      obtain ⟨v, v1, v2⟩ := hx
      have hun : unS gg D a := ⟨c1, c2⟩
      generalize hD1 : va_up D 7 (upd (upd (D 7) 12 (nI ((a + 1) % 961))) 14 0) = D1
      have hmr : MR D D1 := ⟨fun q hq => by rw [← hD1, va_up_n _ _ hq], fun x h1 h2 => by rw [← hD1, va_up_s, pk_un h2, pk_un h1]⟩
      have h12 : D1 7 12 = nI ((a + 1) % 961) := by rw [← hD1, va_up_s, pk_un (by decide), pk_us]
      have h14 : D1 7 14 = 0 := by rw [← hD1, va_up_s, pk_us]
      have h17 : D1 17 a = D 17 a := by rw [hmr.1 17 (by decide)]
      by_cases c3 : D 17 a = 0
      · refine ⟨D1, [], 0, hmr, h12, Nat.le_refl _, by omega, fun k i c Y hc => ?_, fun z hz => (by cases hz), Or.inl ⟨hun, h14, fun z => absurd c3 z, fun _ => rfl⟩⟩
        rw [G_138.eq_2, bnN_e, hcl, if_neg (w c hc), if_neg c1, if_neg (fun z => z c2), hD1]
        have hF : F_139 nn gg C me f u b D1 K A Y ((((D 8) (grp (D 11) gg a)) &&& (((D 17) a) ^^^ (-1))) &&& (D 7 9)) a = (0, D1, K, A, Y) := by
          unfold F_139
          rw [if_neg (fun z => z (h17.trans c3))]
        rw [hF, bnR_e]
        show G_138 nn gg C me f u b k (i + 1) (nI c + 0) D1 K A Y = _
        rw [Int32.add_zero]
        rfl
      · obtain ⟨Z, z1, z2, z3, z4⟩ := send_z (nn := nn) (gg := gg) (C := C) (me := me) (f := f) (u := u) (b := b) (D := D1) (K := K) (A := A) (x := mxA gg D a) (a := a) nn 0 (by omega)
        have hy : bcI (mxA gg D a) = nI (pc (mxA gg D a) 6 0) := by rw [v2]; exact bcI_64 v v1
        have hpl : pc (mxA gg D a) nn 0 ≤ pc (mxA gg D a) 6 0 := by
          have := pc_le (mxA gg D a) nn (6 - nn) 0
          rw [show nn + (6 - nn) = 6 by omega] at this
          exact this
        refine ⟨D1, Z, pc (mxA gg D a) 6 0, hmr, h12, by rw [z2]; exact hpl, pc_bd _ _ _, fun k i c Y hc => ?_, fun z hz => ?_, Or.inl ⟨hun, h14, fun _ => ⟨fun n hn hb => ?_, fun hz => ?_⟩, fun z => absurd z c3⟩⟩
        · rw [G_138.eq_2, bnN_e, hcl, if_neg (w c hc), if_neg c1, if_neg (fun z => z c2), hD1]
          have hF : F_139 nn gg C me f u b D1 K A Y ((((D 8) (grp (D 11) gg a)) &&& (((D 17) a) ^^^ (-1))) &&& (D 7 9)) a = (bcI (mxA gg D a), D1, K, A, psl Y Z) := by
            unfold F_139
            rw [if_pos (fun z => c3 (h17.symm.trans z)), ← z1 Y]
            rfl
          rw [hF, bnR_e, hy]
          show G_138 nn gg C me f u b k (i + 1) (nI c + nI _) D1 K A _ = _
          rw [nI_add]
        · obtain ⟨j, _, a2, a3, a4⟩ := z3 z hz
          exact ⟨j, by omega, hun, c3, a3, by rw [a4, hmr.se]⟩
        · have := z4 n (Nat.zero_le _) (by omega) hb
          rw [hmr.se] at this
          exact this
        · rw [hz]; decide
    · refine ⟨va_up D 7 (upd (D 7) 12 (nI ((a + 1) % 961))), [], 0, ⟨fun q hq => va_up_n _ _ hq, fun x h1 h2 => by rw [va_up_s, pk_un h1]⟩, by rw [va_up_s, pk_us], Nat.le_refl _, by omega, fun k i c Y hc => ?_, fun z hz => (by cases hz), Or.inr ⟨fun z => c2 z.2, by rw [va_up_s, pk_un (by decide)], rfl⟩⟩
      rw [G_138.eq_2, bnN_e, hcl, if_neg (w c hc), if_neg c1, if_pos c2]
      rfl
/-- mend as a whole -/
theorem mend_z {nn gg : Nat} {C me : Int32} {f u b : Nat → Int32} {K A : Int64} (hnn : nn ≤ 6) : ∀ (k i c a : Nat) (D : Nat → Nat → Int32), c ≤ 29 → a < 961 → D 7 12 = nI a → (∀ a, a < 961 → ∀ j, nn ≤ j → j < 32 → bt (D 8 (grp (D 11) gg a)) j = false) →
    ∃ (D' : Nat → Nat → Int32) (Z : List Mg), (∀ Y, G_138 nn gg C me f u b k i (nI c) D K A Y = (D', K, A, psl Y Z)) ∧ MR D D' ∧ inR 961 (D' 7 12) ∧ c + Z.length ≤ 29 ∧
      (∀ z ∈ Z, ∃ a n, a < 961 ∧ n < nn ∧ unS gg D a ∧ ¬ D 17 a = 0 ∧ bt (mxA gg D a) n = true ∧ z = mSE nn me D a n) ∧
      (D' 7 14 = D 7 14 ∨ D' 7 14 = 0) ∧
      (c = 0 → ((∃ a, a < 961 ∧ unS gg D a ∧ ¬ D 17 a = 0 ∧ ¬ mxA gg D a = 0 ∧ ∀ n, n < nn → bt (mxA gg D a) n = true → mSE nn me D a n ∈ Z) ∨ ∀ j, j < k → unS gg D ((a + j) % 961) → D 17 ((a + j) % 961) = 0 ∨ mxA gg D ((a + j) % 961) = 0) ∧ (¬ D' 7 14 = 0 → ∀ j, j < k → ¬ unS gg D ((a + j) % 961)))
  | 0, i, c, a, D, hc, ha, ea, hm => ⟨D, [], fun _ => rfl, MR.rf D, ⟨a, ha, ea⟩, hc, fun z hz => (by cases hz), Or.inl rfl, fun _ => ⟨Or.inr (fun j h => by omega), fun _ j h => by omega⟩⟩
  | k + 1, i, c, a, D, hc, ha, ea, hm => by
    rcases Nat.lt_or_ge c 24 with hlt | hge
    · obtain ⟨D1, Z, y, m1, m2, m3, m4, m5, m6, m7⟩ := mend1 (nn := nn) (gg := gg) (C := C) (me := me) (f := f) (u := u) (b := b) (K := K) (A := A) hnn ha ea (hm a ha)
      obtain ⟨D2, Z2, n1, n2, n3, n4, n5, n6, n7⟩ := mend_z (gg := gg) (C := C) (me := me) (f := f) (u := u) (b := b) (K := K) (A := A) hnn k (i + 1) (c + y) ((a + 1) % 961) D1 (by omega) (Nat.mod_lt _ (by decide)) m2 (by rw [m1.1 8 (by decide), m1.1 11 (by decide)]; exact hm)
      refine ⟨D2, Z ++ Z2, fun Y => ?_, m1.tr n2, n3, by rw [List.length_append]; omega, fun z hz => ?_, ?_, fun e0 => ?_⟩
      · rw [m5 k i c Y hlt, n1 _, psl_app]
      · rcases List.mem_append.mp hz with e | e
        · obtain ⟨n, a1, a2⟩ := m6 z e
          exact ⟨a, n, ha, a1, a2⟩
        · obtain ⟨a', n, a1, a2, a3, a4, a5, a6⟩ := n5 z e
          exact ⟨a', n, a1, a2, (m1.un a').mp a3, by rw [m1.1 17 (by decide)] at a4; exact a4, by rw [m1.mx] at a5; exact a5, by rw [a6, m1.se]⟩
      · rcases m7 with ⟨_, q, _⟩ | ⟨_, q, _⟩
        · rcases n6 with r | r
          · exact Or.inr (by rw [r, q])
          · exact Or.inr r
        · rcases n6 with r | r
          · exact Or.inl (by rw [r, q])
          · exact Or.inr r
      · subst e0
        have hmod : ∀ j, ((a + 1) % 961 + j) % 961 = (a + (j + 1)) % 961 := fun j => by omega
        rcases m7 with ⟨q1, q2, q3, q4⟩ | ⟨q1, q2, q3⟩
        · -- not where it should be
          have hno : ¬ (¬ D2 7 14 = 0) := fun z => z (by
            rcases n6 with r | r
            · rw [r, q2]
            · exact r)
          refine ⟨?_, fun z => absurd z hno⟩
          by_cases h17 : D 17 a = 0
          · have hy := q4 h17
            subst hy
            rcases (n7 rfl).1 with ⟨a', b1, b2, b3, b4, b5⟩ | r
            · refine Or.inl ⟨a', b1, (m1.un a').mp b2, by rw [m1.1 17 (by decide)] at b3; exact b3, by rw [m1.mx] at b4; exact b4, fun n hn hb => ?_⟩
              have := b5 n hn (by rw [m1.mx]; exact hb)
              rw [m1.se] at this
              exact List.mem_append.mpr (Or.inr this)
            · refine Or.inr (fun j hj hu => ?_)
              cases j with
              | zero => rw [Nat.add_zero, Nat.mod_eq_of_lt ha]; exact Or.inl h17
              | succ j =>
                rw [← hmod j] at hu ⊢
                have := r j (by omega) ((m1.un _).mpr hu)
                rw [m1.1 17 (by decide), m1.mx] at this
                exact this
          · by_cases hx : mxA gg D a = 0
            · have hy : y = 0 := (q3 h17).2 hx
              subst hy
              rcases (n7 rfl).1 with ⟨a', b1, b2, b3, b4, b5⟩ | r
              · refine Or.inl ⟨a', b1, (m1.un a').mp b2, by rw [m1.1 17 (by decide)] at b3; exact b3, by rw [m1.mx] at b4; exact b4, fun n hn hb => ?_⟩
                have := b5 n hn (by rw [m1.mx]; exact hb)
                rw [m1.se] at this
                exact List.mem_append.mpr (Or.inr this)
              · refine Or.inr (fun j hj hu => ?_)
                cases j with
                | zero => rw [Nat.add_zero, Nat.mod_eq_of_lt ha]; exact Or.inr hx
                | succ j =>
                  rw [← hmod j] at hu ⊢
                  have := r j (by omega) ((m1.un _).mpr hu)
                  rw [m1.1 17 (by decide), m1.mx] at this
                  exact this
            · exact Or.inl ⟨a, ha, q1, h17, hx, fun n hn hb => List.mem_append.mpr (Or.inl ((q3 h17).1 n hn hb))⟩
        · subst q3
          have hz : Z = [] := List.eq_nil_of_length_eq_zero (by omega)
          refine ⟨?_, fun z j hj hu => ?_⟩
          · rcases (n7 rfl).1 with ⟨a', b1, b2, b3, b4, b5⟩ | r
            · refine Or.inl ⟨a', b1, (m1.un a').mp b2, by rw [m1.1 17 (by decide)] at b3; exact b3, by rw [m1.mx] at b4; exact b4, fun n hn hb => ?_⟩
              have := b5 n hn (by rw [m1.mx]; exact hb)
              rw [m1.se] at this
              exact List.mem_append.mpr (Or.inr this)
            · refine Or.inr (fun j hj hu => ?_)
              cases j with
              | zero => rw [Nat.add_zero, Nat.mod_eq_of_lt ha] at hu; exact absurd hu q1
              | succ j =>
                rw [← hmod j] at hu ⊢
                have := r j (by omega) ((m1.un _).mpr hu)
                rw [m1.1 17 (by decide), m1.mx] at this
                exact this
          · cases j with
            | zero => rw [Nat.add_zero, Nat.mod_eq_of_lt ha] at hu; exact q1 hu
            | succ j =>
              rw [← hmod j] at hu
              exact (n7 rfl).2 z j (by omega) ((m1.un _).mpr hu)
    · refine ⟨D, [], fun Y => ?_, MR.rf D, ⟨a, ha, ea⟩, hc, fun z hz => (by cases hz), Or.inl rfl, fun e0 => by omega⟩
      have hcl : (D 7 12).toNatClampNeg = a := by rw [ea, nI_clamp (by omega)]
      have : (24 : Int32) ≤ nI c := by
        have : ¬ nI c < nI 24 := fun z => by
          have := (nI_ltI (by omega) (by decide)).mp z
          omega
        exact Int32.not_lt.mp this
      rw [G_138.eq_2, bnN_e, hcl, if_pos this]
      rfl

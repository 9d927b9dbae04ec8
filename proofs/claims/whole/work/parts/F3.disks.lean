/-! a NODE's DISK: what is FLUSHED, what is not yet, and what is posted -/
def pnd (D : Nat → Nat → Int32) (t : Int32) : Prop := ∃ s, s < 280 ∧ D 6 s = t ∧ ¬ D 5 s = -1
theorem ft_all {tf sw : Nat → Int32} : ∀ (k i c : Nat) (bf : Nat → Int32), ∀ m, i ≤ m → m < i + k → ¬ tf (sw m).toNatClampNeg < 0 → ∃ j, c ≤ j ∧ j < ftC tf sw k i c ∧ ftF tf sw k i c bf j = tf (sw m).toNatClampNeg
  | 0, i, c, bf, m, h1, h2, _ => absurd h2 (by omega)
  | k + 1, i, c, bf, m, h1, h2, h3 => by
    unfold ftC ftF
    by_cases d : tf (sw i).toNatClampNeg < 0
    · rw [if_pos d, if_pos d]
      have : m ≠ i := fun z => by subst z; exact h3 d
      exact ft_all k (i + 1) c bf m (by omega) (by omega) h3
    · rw [if_neg d, if_neg d]
      by_cases e : m = i
      · subst e
        obtain ⟨a1, a2, _⟩ := ft_sp (tf := tf) (sw := sw) k (m + 1) (c + 1) (upd bf c (tf (sw m).toNatClampNeg))
        exact ⟨c, Nat.le_refl _, by omega, by rw [a2 c (by omega), pk_us]⟩
      · obtain ⟨j, j1, j2, j3⟩ := ft_all k (i + 1) (c + 1) (upd bf c (tf (sw i).toNatClampNeg)) m (by omega) (by omega) h3
        exact ⟨j, by omega, j2, j3⟩
/-- HAVE as NODE me tells of it -/
def isHV (nn : Nat) (me : Int32) (f : Nat → Int32) (D : Nat → Nat → Int32) (z : Mg) : Prop := ∃ (c : Nat) (bf : Nat → Int32), c ≤ 32 ∧ z = (va_up (mg 11 me (nof f 0 (D 0 8) nn 0 0) (D 0 7) (D 0 8)) 7 (nI c), bf)
def hvT (z : Mg) (t : Int32) : Prop := ∃ i, i < (z.1 7).toNatClampNeg ∧ z.2 i = t
theorem isHV.cg {nn : Nat} {me : Int32} {f : Nat → Int32} {D D' : Nat → Nat → Int32} {z : Mg} (h : isHV nn me f D' z) (h0 : D' 0 = D 0) : isHV nn me f D z := by
  obtain ⟨c, bf, a, b⟩ := h
  exact ⟨c, bf, a, by rw [b, h0]⟩
theorem flush_z {B : (Nat → Int32) → Prop} {nn gg : Nat} {C me : Int32} {f u b : Nat → Int32} {D : Nat → Nat → Int32} {K A : Int64} (hB : BX B) (h : DUD B D) :
    ∃ (D' : Nat → Nat → Int32) (Z : List Mg), (∀ Y, F_60 nn gg C me f u b D K A Y = (D', K, A, psl Y Z)) ∧ DUD B D' ∧ D' 1 4 = 0 ∧ (∀ q, q ≠ 1 → q ≠ 2 → q ≠ 5 → D' q = D q) ∧ (∀ s, s < 280 → D' 5 s = -1) ∧
      ((D 1 4 = 0 ∧ D' = D ∧ Z = []) ∨ (¬ D 1 4 = 0 ∧ ∃ z, Z = [z] ∧ isHV nn me f D z ∧ (∀ i, i < (z.1 7).toNatClampNeg → ∃ s, s < 280 ∧ z.2 i = D 6 s ∧ ¬ D 6 s < 0 ∧ ¬ D 5 s = -1) ∧ ∀ s, s < 280 → ¬ D 6 s < 0 → ¬ D 5 s = -1 → hvT z (D 6 s))) := by
  obtain ⟨D', Y', r1, r2, r3, r4, r5, _⟩ := flush_lem (nn := nn) (gg := gg) (C := C) (me := me) (f := f) (u := u) (b := b) (K := K) (A := A) (Y := []) hB h
  by_cases c0 : D 1 4 = 0
  · have hF : ∀ Y, F_60 nn gg C me f u b D K A Y = (D, K, A, Y) := fun Y => by unfold F_60; rw [if_pos c0]
    have e : D = D' := (Prod.mk.inj ((hF []).symm.trans r1)).1
    subst e
    exact ⟨D, [], hF, r2, r3, r4, r5, Or.inl ⟨c0, rfl, rfl⟩⟩
  · obtain ⟨c, hc, ec, h1, h2, _⟩ := h
    have hcl : (D 1 4).toNatClampNeg = c := by rw [ec, nI_clamp (by omega)]
    have hF : ∀ Y, F_60 nn gg C me f u b D K A Y = (va_up (va_up (va_up D 1 (upd (D 1) 4 0)) 2 (flsF (D 3) (D 4) c (D 2))) 5 (flsO (D 4) c (D 5)), K, A, pst Y (va_up (mg 11 me (nof f 0 (D 0 8) nn 0 0) (D 0 7) (D 0 8)) 7 (nI (ftC (D 6) (D 4) c 0 0)), ftF (D 6) (D 4) c 0 0 (fun _ => 0))) := fun Y => by
      unfold F_60
      rw [if_neg c0, bnN_e, hcl]
    have e := (Prod.mk.inj ((hF []).symm.trans r1)).1
    have hle : ftC (D 6) (D 4) c 0 0 ≤ 32 := by have := ftC_le (D 6) (D 4) c 0 0; omega
    refine ⟨D', [(va_up (mg 11 me (nof f 0 (D 0 8) nn 0 0) (D 0 7) (D 0 8)) 7 (nI (ftC (D 6) (D 4) c 0 0)), ftF (D 6) (D 4) c 0 0 (fun _ => 0))], fun Y => by rw [hF Y, e]; rfl, r2, r3, r4, r5, Or.inr ⟨c0, _, rfl, ⟨_, _, hle, rfl⟩, fun i hi => ?_, fun s hs h6 h5 => ?_⟩⟩
    · have hi : i < (va_up (mg 11 me (nof f 0 (D 0 8) nn 0 0) (D 0 7) (D 0 8)) 7 (nI (ftC (D 6) (D 4) c 0 0)) 7).toNatClampNeg := hi
      rw [va_up_s, nI_clamp (by omega)] at hi
      obtain ⟨_, _, a3⟩ := ft_sp (tf := D 6) (sw := D 4) c 0 0 (fun _ => 0)
      obtain ⟨m, m1, m2, m3, m4⟩ := a3 i (by omega) hi
      obtain ⟨s, s1, s2, s3⟩ := h1 m (by omega)
      rw [s2, nI_clamp (by omega)] at m3 m4
      exact ⟨s, s1, m3, m4, by rw [s3]; exact nIneg (by omega)⟩
    · rcases h2 s hs with y | ⟨j, j1, j2, j3⟩
      · exact absurd y h5
      · have hs' : (D 4 j).toNatClampNeg = s := by rw [j3, nI_clamp (by omega)]
        obtain ⟨i, _, i2, i3⟩ := ft_all (tf := D 6) (sw := D 4) c 0 0 (fun _ => 0) j (by omega) (by omega) (by rw [hs']; exact h6)
        refine ⟨i, ?_, by rw [← hs']; exact i3⟩
        show i < (va_up (mg 11 me (nof f 0 (D 0 8) nn 0 0) (D 0 7) (D 0 8)) 7 (nI (ftC (D 6) (D 4) c 0 0)) 7).toNatClampNeg
        rw [va_up_s, nI_clamp (by omega)]
        exact i2
/-- what one MESSAGE does to a DISK -/
def DKR (nn : Nat) (me : Int32) (f : Nat → Int32) (D D' : Nat → Nat → Int32) (Z : List Mg) (t0 : Int32) : Prop :=
  (∀ q, q = 0 ∨ 6 < q → D' q = D q) ∧ (∀ z ∈ Z, isHV nn me f D z) ∧
  (∀ t, ¬ t < 0 → stb D' t → stb D t ∨ (pnd D t ∧ ∃ z Z', Z = z :: Z' ∧ hvT z t)) ∧
  (∀ t, ¬ t < 0 → pnd D' t → pnd D t ∨ t = t0)
theorem DKR.rf (nn : Nat) (me : Int32) (f : Nat → Int32) (D : Nat → Nat → Int32) (t0 : Int32) : DKR nn me f D D [] t0 := ⟨fun _ _ => rfl, fun z hz => (by cases hz), fun t _ h => Or.inl h, fun t _ h => Or.inl h⟩
theorem DUD.np {B : (Nat → Int32) → Prop} {D : Nat → Nat → Int32} (h : DUD B D) (h0 : D 1 4 = 0) {t : Int32} : ¬ pnd D t := fun ⟨s, s1, _, s3⟩ => by
  obtain ⟨c, hc, ec, _, h2, _⟩ := h
  have : c = 0 := by
    rw [h0] at ec
    exact (nI_inj (a := 0) (by decide) (by omega) ec).symm
  rcases h2 s s1 with e | ⟨j, a, _⟩
  · exact s3 e
  · omega
/-- a FLUSH, and one step more that FLUSHES nothing -/
theorem DKR.fl {B : (Nat → Int32) → Prop} {nn gg : Nat} {C me : Int32} {f u b : Nat → Int32} {D : Nat → Nat → Int32} {K A : Int64} (hB : BX B) (h : DUD B D) (h0 : ¬ D 1 4 = 0) :
    ∃ (D2 : Nat → Nat → Int32) (z : Mg), (∀ Y, F_60 nn gg C me f u b D K A Y = (D2, K, A, pst Y z)) ∧ DUD B D2 ∧ D2 1 4 = 0 ∧ D2 6 = D 6 ∧ (∀ s, s < 280 → D2 5 s = -1) ∧ ∀ (D' : Nat → Nat → Int32) (Z : List Mg) (t0 : Int32), DKR nn me f D2 D' Z t0 → DKR nn me f D D' (z :: Z) t0 := by
  obtain ⟨D2, Z, r1, r2, r3, r4, r5, r6⟩ := flush_z (nn := nn) (gg := gg) (C := C) (me := me) (f := f) (u := u) (b := b) (K := K) (A := A) hB h
  rcases r6 with ⟨z, _⟩ | ⟨_, z, z1, z2, z3, z4⟩
  · exact absurd z h0
  · subst z1
    have e6 : D2 6 = D 6 := r4 6 (by decide) (by decide) (by decide)
    refine ⟨D2, z, r1, r2, r3, e6, r5, fun D' Z t0 hk => ⟨fun q hq => by rw [hk.1 q hq, r4 q (by omega) (by omega) (by omega)], fun y hy => ?_, fun t ht hs => ?_, fun t ht hp => ?_⟩⟩
    · rcases List.mem_cons.mp hy with e | e
      · rw [e]; exact z2
      · exact (hk.2.1 y e).cg (r4 0 (by decide) (by decide) (by decide))
    · rcases hk.2.2.1 t ht hs with ⟨s, s1, s2, _⟩ | ⟨y, _⟩
      · rw [e6] at s2
        by_cases q : D 5 s = -1
        · exact Or.inl ⟨s, s1, s2, q⟩
        · refine Or.inr ⟨⟨s, s1, s2, q⟩, z, Z, rfl, ?_⟩
          have := z4 s s1 (by rw [s2]; exact ht) q
          rw [s2] at this
          exact this
      · exact absurd y (r2.np r3)
    · rcases hk.2.2.2 t ht hp with y | y
      · exact absurd y (r2.np r3)
      · exact Or.inr y
/-- store -/
theorem store_y {B : (Nat → Int32) → Prop} {nn gg : Nat} {C me : Int32} {f u b : Nat → Int32} {D : Nat → Nat → Int32} {K A : Int64} (hB : BX B) (h : DUD B D) (hb : B b) (hb1 : b 1 = u 5) (h5 : ¬ u 5 < 0) :
    ∃ (D' : Nat → Nat → Int32) (Z : List Mg), (∀ Y, F_59 nn gg C me f u b D K A Y = (D', K, A, psl Y Z)) ∧ DUD B D' ∧ Z.length ≤ 1 ∧ DKR nn me f D D' Z (u 5) ∧
      ((∃ z, stb D (u 5) ∧ D' = D ∧ Z = [z] ∧ hvT z (u 5)) ∨ pnd D' (u 5) ∨ (¬ mem D (u 5) ∧ ∀ s, s < 280 → ¬ D' 6 s = -1 ∨ ¬ D' 5 s = -1)) := by
  have hm1 : ¬ u 5 = -1 := neg1 h5
  -- a block is written
  have wr : ∀ (D2 : Nat → Nat → Int32), DUD B D2 → (∀ i, i < 280 → ¬ D2 6 i = u 5) → (∃ c, c < 32 ∧ D2 1 4 = nI c) → ∃ D3, (∀ Y2, (if freB (D2 6) (D2 5) = -1 then (D2, K, A, Y2) else bnN ((freB (D2 6) (D2 5)).toNatClampNeg) (fun fr_ => bnN ((D2 1 4).toNatClampNeg) (fun c => (va_up (va_up (va_up (va_up (va_up D2 1 (upd (D2 1) 4 (nI (c + 1)))) 3 (wrF b (D2 3) c (ostB (D2 2) fr_))) 4 (upd (D2 4) c (nI fr_))) 5 (upd (D2 5) fr_ (nI c))) 6 (upd (D2 6) fr_ (u 5)), K, A, Y2)))) = ((D3, K, A, Y2) : St)) ∧ DUD B D3 ∧ DKR nn me f D2 D3 [] (u 5) ∧ (pnd D3 (u 5) ∨ ∀ s, s < 280 → ¬ D3 6 s = -1 ∨ ¬ D3 5 s = -1) := fun D2 n2 n4 n5 => by
    rcases freB_or (D2 6) (D2 5) with z | ⟨j, j1, j2, j3, j4⟩
    · refine ⟨D2, fun Y2 => by rw [if_pos z], n2, DKR.rf _ _ _ _ _, Or.inr (fun s hs => ?_)⟩
      rcases fst1_spec (fun i => decide (D2 6 i = -1 ∧ D2 5 i < 0)) 280 0 with ⟨j, _, j2, _, _, j5⟩ | ⟨y, _⟩
      · have z : fst1 (fun i => decide (D2 6 i = -1 ∧ D2 5 i < 0)) 280 0 = -1 := z
        rw [j5] at z
        exact absurd z (nIneg (by omega))
      · have := of_decide_eq_false (y s (by omega) (by omega))
        by_cases q : D2 6 s = -1
        · refine Or.inr (fun w => this ⟨q, ?_⟩)
          rw [w]; decide
        · exact Or.inl q
    · obtain ⟨c, c1, c2⟩ := n5
      have hcl : (freB (D2 6) (D2 5)).toNatClampNeg = j := by rw [j2, nI_clamp (by omega)]
      have hcc : (D2 1 4).toNatClampNeg = c := by rw [c2, nI_clamp (by omega)]
      obtain ⟨p1, _⟩ := put_lem hB n2 c2 c1 j1 j3 j4 hb hb1 n4
      generalize hD3 : va_up (va_up (va_up (va_up (va_up D2 1 (upd (D2 1) 4 (nI (c + 1)))) 3 (wrF b (D2 3) c (ostB (D2 2) j))) 4 (upd (D2 4) c (nI j))) 5 (upd (D2 5) j (nI c))) 6 (upd (D2 6) j (u 5)) = D3 at p1
      have g5 : D3 5 = upd (D2 5) j (nI c) := by rw [← hD3, va_up_n _ _ (by decide), va_up_s]
      have g6 : D3 6 = upd (D2 6) j (u 5) := by rw [← hD3, va_up_s]
      refine ⟨D3, fun Y2 => ?_, p1, ⟨fun q hq => ?_, fun z hz => (by cases hz), fun t ht hs => ?_, fun t ht hp => ?_⟩, Or.inl ⟨j, j1, by rw [g6, pk_us], by rw [g5, pk_us]; exact nIneg (by omega)⟩⟩
      · rw [if_neg (by rw [j2]; exact nIneg (by omega)), bnN_e, hcl, bnN_e, hcc, hD3]
      · rw [← hD3, va_up_n _ _ (by omega), va_up_n _ _ (by omega), va_up_n _ _ (by omega), va_up_n _ _ (by omega), va_up_n _ _ (by omega)]
      · obtain ⟨s, s1, s2, s3⟩ := hs
        by_cases e : s = j
        · rw [g5, e, pk_us] at s3; exact absurd s3 (nIneg (by omega))
        · rw [g6, pk_un e] at s2; rw [g5, pk_un e] at s3
          exact Or.inl ⟨s, s1, s2, s3⟩
      · obtain ⟨s, s1, s2, s3⟩ := hp
        by_cases e : s = j
        · rw [g6, e, pk_us] at s2; exact Or.inr s2.symm
        · rw [g6, pk_un e] at s2; rw [g5, pk_un e] at s3
          exact Or.inl ⟨s, s1, s2, s3⟩
  rcases sloB_cs (D 6) (u 5) with ⟨z1, z2⟩ | ⟨j, j1, j2, j3⟩
  · have hmem : ¬ mem D (u 5) := fun ⟨s, s1, s2⟩ => z2 s s1 s2
    by_cases c : D 1 4 = 32
    · obtain ⟨D2, z, r1, r2, r3, r4, r5, r6⟩ := DKR.fl (nn := nn) (gg := gg) (C := C) (me := me) (f := f) (u := u) (b := b) (K := K) (A := A) hB h (by rw [c]; decide)
      obtain ⟨D3, w1, w2, w3, w4⟩ := wr D2 r2 (fun i hi => by rw [r4]; exact z2 i hi) ⟨0, by omega, r3⟩
      refine ⟨D3, [z], fun Y => ?_, w2, Nat.le_refl _, r6 D3 [] (u 5) w3, ?_⟩
      · unfold F_59
        rw [if_pos z1, if_pos c, r1 Y, bnS_e]
        exact w1 _
      · rcases w4 with y | y
        · exact Or.inr (Or.inl y)
        · exact Or.inr (Or.inr ⟨hmem, y⟩)
    · obtain ⟨c0, c1, c2⟩ := DUD.cnt h
      have hlt : c0 < 32 := by
        rcases Nat.lt_or_ge c0 32 with y | y
        · exact y
        · exact absurd (by rw [c2, show c0 = 32 by omega]; rfl) c
      obtain ⟨D3, w1, w2, w3, w4⟩ := wr D h z2 ⟨c0, hlt, c2⟩
      refine ⟨D3, [], fun Y => ?_, w2, by decide, w3, ?_⟩
      · unfold F_59
        rw [if_pos z1, if_neg c]
        exact w1 _
      · rcases w4 with y | y
        · exact Or.inr (Or.inl y)
        · exact Or.inr (Or.inr ⟨hmem, y⟩)
  · have hcl : (sloB (D 6) (u 5)).toNatClampNeg = j := by rw [j2, nI_clamp (by omega)]
    by_cases c : isF (D 5 j) = 0
    · have hlt : D 5 j < 0 := by
        unfold isF at c
        by_cases y : D 5 j < 0
        · exact y
        · rw [if_neg y] at c; exact absurd c (by decide)
      have ho := (h.ow j1).mp hlt
      refine ⟨D, [(va_up (mg 11 me (nof f 0 (D 0 8) nn (0 * nn) 0) (D 0 7) (D 0 8)) 7 1, upd (fun _ => 0) 0 (u 5))], fun Y => ?_, h, Nat.le_refl _, ⟨fun _ _ => rfl, fun z hz => ?_, fun t _ hs => Or.inl hs, fun t _ hp => Or.inl hp⟩, Or.inl ⟨_, ⟨j, j1, j3, ho⟩, rfl, rfl, 0, ?_, (show upd (fun _ => (0 : Int32)) 0 (u 5) 0 = u 5 from pk_us)⟩⟩
      · unfold F_59
        rw [if_neg (by rw [j2]; exact nIneg (by omega)), bnN_e, hcl, if_neg (fun z => z c)]
        rfl
      · rw [List.mem_singleton.mp hz, Nat.zero_mul]
        exact ⟨1, _, by decide, rfl⟩
      · show 0 < (va_up (mg 11 me (nof f 0 (D 0 8) nn (0 * nn) 0) (D 0 7) (D 0 8)) 7 1 7).toNatClampNeg
        rw [va_up_s]; decide
    · refine ⟨D, [], fun Y => ?_, h, by decide, DKR.rf _ _ _ _ _, Or.inr (Or.inl ⟨j, j1, j3, fun z => c (by unfold isF; rw [z]; decide)⟩)⟩
      unfold F_59
      rw [if_neg (by rw [j2]; exact nIneg (by omega)), bnN_e, hcl, if_pos c]
      rfl
/-- a block is erased -/
theorem DKR.er {nn : Nat} {me : Int32} {f : Nat → Int32} {D D3 D' : Nat → Nat → Int32} {Z : List Mg} (hq : ∀ q, q = 0 ∨ 6 < q → D3 q = D q) (hs : ∀ t, ¬ t < 0 → stb D3 t → stb D t) (hp : ∀ t, ¬ t < 0 → pnd D3 t → pnd D t) (h : DKR nn me f D3 D' Z (-1)) : DKR nn me f D D' Z (-1) :=
  ⟨fun q z => by rw [h.1 q z, hq q z], fun z hz => (h.2.1 z hz).cg (hq 0 (Or.inl rfl)), fun t ht z => by
    rcases h.2.2.1 t ht z with y | ⟨y1, y2⟩
    · exact Or.inl (hs t ht y)
    · exact Or.inr ⟨hp t ht y1, y2⟩, fun t ht z => by
    rcases h.2.2.2 t ht z with y | y
    · exact Or.inl (hp t ht y)
    · exact absurd (by rw [y]; decide) ht⟩
/-- dropAll: those that it names are gone -/
theorem drop_z {B : (Nat → Int32) → Prop} {nn gg : Nat} {C me : Int32} {f u b : Nat → Int32} {K A : Int64} (hB : BX B) :
    ∀ (k i c : Nat) (D : Nat → Nat → Int32), (∀ m, m < i + k → ¬ b m < 0) → DUD B D → D 1 4 = nI c → c ≤ 32 → ∃ (D' : Nat → Nat → Int32) (Z : List Mg) (c' : Nat), (∀ Y, G_66 nn gg C me f u b k i D K A Y = (D', K, A, psl Y Z)) ∧ DUD B D' ∧ D' 1 4 = nI c' ∧ 32 * Z.length + c' ≤ c + k ∧ DKR nn me f D D' Z (-1) ∧ (∀ t, mem D' t → mem D t ∨ t = -1) ∧ ∀ m, i ≤ m → m < i + k → ¬ mem D' (b m)
  | 0, i, c, D, hb, h, hc, hc2 => ⟨D, [], c, fun _ => rfl, h, hc, by show 0 + c ≤ c + 0; omega, DKR.rf _ _ _ _ _, fun t ht => Or.inl ht, fun m h1 h2 => by omega⟩
  | k + 1, i, c, D, hb, h, hc, hc2 => by
    have hbi := hb i (by omega)
    rcases sloB_cs (D 6) (b i) with ⟨z1, z2⟩ | ⟨j, j1, j2, j3⟩
    · obtain ⟨D', Z, c', r1, r2, r3, r4, r5, r6, r7⟩ := drop_z (nn := nn) (gg := gg) (C := C) (me := me) (f := f) (u := u) (b := b) (K := K) (A := A) hB k (i + 1) c D (fun m hm => hb m (by omega)) h hc hc2
      refine ⟨D', Z, c', fun Y => ?_, r2, r3, by omega, r5, r6, fun m h1 h2 hm => ?_⟩
      · rw [G_66.eq_2, if_pos z1, r1 Y]
      · rcases Nat.lt_or_ge i m with q | q
        · exact r7 m (by omega) (by omega) hm
        · have : m = i := by omega
          subst this
          rcases r6 _ hm with ⟨s, s1, s2⟩ | y
          · exact z2 s s1 s2
          · exact hbi (by rw [y]; decide)
    · have hcl : (sloB (D 6) (b i)).toNatClampNeg = j := by rw [j2, nI_clamp (by omega)]
      have hne : ¬ sloB (D 6) (b i) = -1 := by rw [j2]; exact nIneg (by omega)
      -- erase in D2
      have er : ∀ (D2 : Nat → Nat → Int32) (c2 : Nat), DUD B D2 → D2 6 = D 6 → D2 1 4 = nI c2 → c2 < 32 → ∃ (D' : Nat → Nat → Int32) (Z : List Mg) (c' : Nat), (∀ Y, bnN ((D2 1 4).toNatClampNeg) (fun c => if D2 5 j < 0 then G_66 nn gg C me f u b k (i + 1) (va_up (va_up (va_up (va_up (va_up D2 1 (upd (D2 1) 4 (nI (c + 1)))) 3 (erF (D2 3) c)) 4 (upd (D2 4) c (nI j))) 5 (upd (D2 5) j (nI c))) 6 (upd (D2 6) j (-1))) K A Y else bnN ((D2 5 j).toNatClampNeg) (fun kk => G_66 nn gg C me f u b k (i + 1) (va_up (va_up (va_up D2 1 (upd (D2 1) 4 (nI c))) 3 (erF (D2 3) kk)) 6 (upd (D2 6) j (-1))) K A Y)) = (D', K, A, psl Y Z)) ∧ DUD B D' ∧ D' 1 4 = nI c' ∧ 32 * Z.length + c' ≤ c2 + (k + 1) ∧ DKR nn me f D2 D' Z (-1) ∧ (∀ t, mem D' t → mem D t ∨ t = -1) ∧ ∀ m, i ≤ m → m < i + (k + 1) → ¬ mem D' (b m) := fun D2 c2 n2 n3 n4 n5 => by
        have hcc : (D2 1 4).toNatClampNeg = c2 := by rw [n4, nI_clamp (by omega)]
        -- go on behind it
        have go : ∀ (D3 : Nat → Nat → Int32) (c3 : Nat), DUD B D3 → D3 1 4 = nI c3 → c3 ≤ c2 + 1 → (∀ q, q = 0 ∨ 6 < q → D3 q = D2 q) → D3 6 = upd (D2 6) j (-1) → (∀ s, s < 280 → s ≠ j → D3 5 s = D2 5 s) → ∃ (D' : Nat → Nat → Int32) (Z : List Mg) (c' : Nat), (∀ Y, G_66 nn gg C me f u b k (i + 1) D3 K A Y = (D', K, A, psl Y Z)) ∧ DUD B D' ∧ D' 1 4 = nI c' ∧ 32 * Z.length + c' ≤ c2 + (k + 1) ∧ DKR nn me f D2 D' Z (-1) ∧ (∀ t, mem D' t → mem D t ∨ t = -1) ∧ ∀ m, i ≤ m → m < i + (k + 1) → ¬ mem D' (b m) := fun D3 c3 p1 p2 p3 p4 p5 p6 => by
          obtain ⟨D', Z, c', r1, r2, r3, r4, r5, r6, r7⟩ := drop_z (nn := nn) (gg := gg) (C := C) (me := me) (f := f) (u := u) (b := b) (K := K) (A := A) hB k (i + 1) c3 D3 (fun m hm => hb m (by omega)) p1 p2 (by omega)
          have hmem : ∀ t, mem D3 t → mem D t ∨ t = -1 := fun t ⟨s, s1, s2⟩ => by
            by_cases e : s = j
            · rw [p5, e, pk_us] at s2; exact Or.inr s2.symm
            · rw [p5, pk_un e, n3] at s2; exact Or.inl ⟨s, s1, s2⟩
          refine ⟨D', Z, c', r1, r2, r3, by omega, r5.er p4 (fun t ht ⟨s, s1, s2, s3⟩ => ?_) (fun t ht ⟨s, s1, s2, s3⟩ => ?_), fun t ht => ?_, fun m h1 h2 hm => ?_⟩
          · by_cases e : s = j
            · rw [p5, e, pk_us] at s2; exact absurd (by rw [← s2]; decide) ht
            · rw [p5, pk_un e] at s2; rw [p6 s s1 e] at s3; exact ⟨s, s1, s2, s3⟩
          · by_cases e : s = j
            · rw [p5, e, pk_us] at s2; exact absurd (by rw [← s2]; decide) ht
            · rw [p5, pk_un e] at s2; rw [p6 s s1 e] at s3; exact ⟨s, s1, s2, s3⟩
          · rcases r6 t ht with y | y
            · exact hmem t y
            · exact Or.inr y
          · rcases Nat.lt_or_ge i m with q | q
            · exact r7 m (by omega) (by omega) hm
            · have : m = i := by omega
              subst this
              rcases r6 _ hm with ⟨s, s1, s2⟩ | y
              · by_cases e : s = j
                · rw [p5, e, pk_us] at s2; exact hbi (by rw [← s2]; decide)
                · rw [p5, pk_un e] at s2
                  obtain ⟨_, _, _, _, _, _, _, _, hu⟩ := n2
                  exact e (hu s j s1 j1 (by rw [s2, n3, j3]) (by rw [s2]; exact neg1 hbi))
              · exact hbi (by rw [y]; decide)
        by_cases q : D2 5 j < 0
        · obtain ⟨p1, _⟩ := er_lem hB n2 n4 n5 j1 q
          generalize hD3 : va_up (va_up (va_up (va_up (va_up D2 1 (upd (D2 1) 4 (nI (c2 + 1)))) 3 (erF (D2 3) c2)) 4 (upd (D2 4) c2 (nI j))) 5 (upd (D2 5) j (nI c2))) 6 (upd (D2 6) j (-1)) = D3 at p1
          obtain ⟨D', Z, c', r⟩ := go D3 (c2 + 1) p1 (by rw [← hD3]; (iterate 4 rw [va_up_n _ _ (by decide)]); rw [va_up_s, pk_us]) (Nat.le_refl _) (fun q hq => by rw [← hD3, va_up_n _ _ (by omega), va_up_n _ _ (by omega), va_up_n _ _ (by omega), va_up_n _ _ (by omega), va_up_n _ _ (by omega)]) (by rw [← hD3, va_up_s]) (fun s _ e => by rw [← hD3, va_up_n _ _ (by decide), va_up_s, pk_un e])
          refine ⟨D', Z, c', fun Y => ?_, r.2⟩
          rw [bnN_e, hcc, if_pos q, hD3]
          exact r.1 Y
        · have hkk : ∃ kk, kk < c2 ∧ D2 5 j = nI kk := by
            obtain ⟨c', hc', ec', h1, h2, _⟩ := n2
            have : c' = c2 := nI_inj (by omega) (by omega) (ec'.symm.trans n4)
            subst this
            rcases h2 j j1 with y | ⟨m, m1, m2, _⟩
            · rw [y] at q; exact absurd (by decide) q
            · exact ⟨m, m1, m2⟩
          obtain ⟨kk, kk1, kk2⟩ := hkk
          have hck : (D2 5 j).toNatClampNeg = kk := by rw [kk2, nI_clamp (by omega)]
          obtain ⟨p1, _⟩ := er2_lem hB n2 n4 (by omega) j1 kk1 kk2
          generalize hD3 : va_up (va_up (va_up D2 1 (upd (D2 1) 4 (nI c2))) 3 (erF (D2 3) kk)) 6 (upd (D2 6) j (-1)) = D3 at p1
          obtain ⟨D', Z, c', r⟩ := go D3 c2 p1 (by rw [← hD3, va_up_n _ _ (by decide), va_up_n _ _ (by decide), va_up_s, pk_us]) (Nat.le_succ _) (fun q hq => by rw [← hD3, va_up_n _ _ (by omega), va_up_n _ _ (by omega), va_up_n _ _ (by omega)]) (by rw [← hD3, va_up_s]) (fun s _ e => by rw [← hD3]; iterate 3 rw [va_up_n _ _ (by decide)])
          refine ⟨D', Z, c', fun Y => ?_, r.2⟩
          rw [bnN_e, hcc, if_neg q, bnN_e, hck, hD3]
          exact r.1 Y
      by_cases e32 : D 1 4 = 32
      · obtain ⟨D2, z, r1, r2, r3, r4, r5, r6⟩ := DKR.fl (nn := nn) (gg := gg) (C := C) (me := me) (f := f) (u := u) (b := b) (K := K) (A := A) hB h (by rw [e32]; decide)
        obtain ⟨D', Z, c', w1, w2, w3, w4, w5, w6, w7⟩ := er D2 0 r2 r4 r3 (by omega)
        have : c = 32 := nI_inj (by omega) (by decide) (hc.symm.trans e32)
        refine ⟨D', z :: Z, c', fun Y => ?_, w2, w3, by show 32 * (Z.length + 1) + c' ≤ _; omega, r6 D' Z (-1) w5, w6, w7⟩
        rw [G_66.eq_2, if_neg hne, bnN_e, hcl, if_pos e32, r1 Y, bnS_e]
        exact w1 _
      · have hlt : c < 32 := by
          rcases Nat.lt_or_ge c 32 with y | y
          · exact y
          · exact absurd (by rw [hc, show c = 32 by omega]; rfl) e32
        obtain ⟨D', Z, c', w1, w2, w3, w4, w5, w6, w7⟩ := er D c h rfl hc hlt
        refine ⟨D', Z, c', fun Y => ?_, w2, w3, w4, w5, w6, w7⟩
        rw [G_66.eq_2, if_neg hne, bnN_e, hcl, if_neg e32]
        exact w1 _

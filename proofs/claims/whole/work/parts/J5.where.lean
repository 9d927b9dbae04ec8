/-! where, onDisk: the store answers as the reference does -/
theorem stp_at {T : TS} {o k f f' i s : Nat} {E M : Nat → Nat → Int32} (hT : TOK T o) (ho : o ≤ 512) (hc : T.cnt ≤ 48) (e58 : E 58 9 = nI T.cnt) (hk : k < T.cnt) (hs : s < 19) (hB : BTH T E M k f f' i) : (T.vr i s = -1 ∧ stpV E (nI k) (nI s) = -1) ∨ ∃ v, v < o ∧ T.vr i s = nI v ∧ stpV E (nI k) (nI s) = nI (f * 20 + s) := by
  obtain ⟨b1, b2, b3, b4, b5, b6, b7, b8, b9, b10, b11⟩ := hB
  have hst : stpV E (nI k) (nI s) = if T.vr i s < 0 then -1 else nI (f * 20 + s) := by
    unfold stpV
    rw [if_neg (fun z => by
      rcases z with z | z | z | z
      · exact nI_pos (by omega) z
      · rw [e58] at z
        have := (nI_leI (by omega) (by omega)).mp z
        omega
      · exact nI_pos (by omega) z
      · have := (nI_leI (a := 19) (b := s) (by omega) (by omega)).mp z
        omega), nI_clamp (by omega), nI_clamp (by omega), b5, nI_clamp (by omega), b9 s (by omega)]
  rcases hT.v1 i s with e | ⟨v, v1, e⟩
  · exact Or.inl ⟨e, by rw [hst, e, if_pos (by decide)]⟩
  · exact Or.inr ⟨v, v1, e, by rw [hst, e, if_neg (nI_pos (by omega))]⟩
theorem grp_at {E : Nat → Nat → Int32} {gg f i s : Nat} (hf : f < 48) (hi : i < 512) (hs : s < 19) (e : E 59 f = nI i) : grp (E 59) gg (f * 20 + s) = (i * 31 + s * 7) % gg := by
  unfold grp
  rw [if_neg (by omega), show (f * 20 + s) / 20 = f by omega, show (f * 20 + s) % 20 = s by omega, e, nI_clamp (by omega)]
theorem tgN_lt {i p v : Nat} (hi : i < 512) (hp : p < 20) (hv : v < 512) : tgN i p v < 5243392 := by unfold tgN; omega
theorem len_e {z : Nat} (hz : z < 2 ^ 31) : (if nI z < 448 then nI z else 448) = nI (if z < 448 then z else 448) := by
  have e : (448 : Int32) = nI 448 := rfl
  by_cases c : z < 448
  · rw [if_pos c, if_pos (by rw [e]; exact (nI_ltI hz (by decide)).mpr c)]
  · rw [if_neg c, if_neg (fun q => c (by rw [e] at q; exact (nI_ltI hz (by decide)).mp q))]
    rfl
theorem by_ix {sl iv : Nat} : (sl * 512 + 60 + iv) / 4 = sl * 128 + (60 + iv) / 4 ∧ (sl * 512 + 60 + iv) % 4 = (60 + iv) % 4 := by omega
/-- what is true where all is CALM, on both sides -/
def CBO (P : Pm) (g : Gh) (E M : Nat → Nat → Int32) (D : Nat → Nat → Nat → Int32) : Prop := E 4 14 = allN P.nn ∧ CAT (tsp g.ops g.bg) (efv g.ops g.bg) E ∧ RF M (tsp g.ops g.bg) ∧ CLM P g D
theorem whr_eq {P : Pm} {R : Nat} {g : Gh} {E M : Nat → Nat → Int32} {D : Nat → Nat → Nat → Int32} {x y z v : Int32} (hP : PmO P) (hG : GO g) (hA : RwA P.nn P.gg P.f) (hC : P.C = nI R) (hR : R ≤ P.nn) (e1 : M 0 1 = nI R) (h7 : M 0 7 = E 100 10) (hc : ¬ E 100 10 = 0 → CBO P g E M D) (hq : rwhQ P.nn P.gg M x y z v) : whrV P.f P.nn P.gg P.C E x y z = v := by
  have hnn := hP.nn
  have h5 := hG.1
  have hT := hG.tok (Nat.le_refl g.bg)
  unfold whrV
  rcases hq with ⟨rfl, q⟩ | ⟨rfl, q, hor⟩ | ⟨k, s, r, a, d, q, rfl, k48, k20, rfl, s19, rfl, rnn, r1, q19, q16, d5, rfl, ann, hrk⟩
  · rw [h7] at q
    rw [if_pos q]
  · rw [h7] at q
    rw [if_neg q, if_pos ?_]
    obtain ⟨_, hCt, hF, _⟩ := hc q
    obtain ⟨e20, hc48, hk⟩ := cat_ref hT hCt hF
    have e58 := hCt.2.2.1
    rw [e20] at hor
    rw [e1] at hor
    rw [hC]
    have hstp : (x < 0 ∨ nI (tsp g.ops g.bg).cnt ≤ x ∨ y < 0 ∨ 19 ≤ y) → stpV E x y < 0 := fun z => by
      unfold stpV
      rw [if_pos (by rw [e58]; exact z)]; decide
    rcases hor with z0 | z0 | z0 | z0 | z0 | z0 | ⟨k, s, rfl, k48, k20, rfl, s19, z0⟩
    · exact Or.inl (hstp (Or.inl z0))
    · exact Or.inl (hstp (Or.inr (Or.inl z0)))
    · exact Or.inl (hstp (Or.inr (Or.inr (Or.inl z0))))
    · refine Or.inl (hstp (Or.inr (Or.inr (Or.inr ?_))))
      rw [Int32.lt_iff_toInt_lt] at z0
      rw [Int32.le_iff_toInt_le]
      have a1 : (18 : Int32).toInt = 18 := by decide
      have a2 : (19 : Int32).toInt = 19 := by decide
      omega
    · exact Or.inr (Or.inl z0)
    · exact Or.inr (Or.inr z0)
    · left
      have hkc := (nI_ltI (by omega) (by omega)).mp k20
      obtain ⟨f, f', i, hB⟩ := hk k hkc
      have hB0 := hB
      obtain ⟨b1, b2, b3, b4, b5, b6, b7, b8, b9, b10, b11⟩ := hB
      rw [b10, nI_clamp (by omega)] at z0
      have hv := (b11.2.2.2.2.2 s s19).mp z0
      rcases stp_at hT h5 hc48 e58 hkc s19 hB0 with ⟨_, w⟩ | ⟨w, w1, w2, _⟩
      · rw [w]; decide
      · rw [hv] at w2; exact absurd w2.symm (nIneg (by omega))
  · rw [h7] at q
    rw [if_neg q]
    obtain ⟨e14, hCt, hF, _⟩ := hc q
    obtain ⟨e20, hc48, hk⟩ := cat_ref hT hCt hF
    have e58 := hCt.2.2.1
    rw [e20] at k20
    have hkc := (nI_ltI (by omega) (by omega)).mp k20
    obtain ⟨f, f', i, hB⟩ := hk k hkc
    have hB0 := hB
    obtain ⟨b1, b2, b3, b4, b5, b6, b7, b8, b9, b10, b11⟩ := hB
    rw [b10, nI_clamp (by omega)] at q19 q16
    have hdi : d = i := nI_inj (by omega) (by omega) (q16.symm.trans b11.1)
    subst hdi
    have hv : ¬ (tsp g.ops g.bg).vr d s = -1 := fun z => q19 ((b11.2.2.2.2.2 s s19).mpr z)
    rcases stp_at hT h5 hc48 e58 hkc s19 hB0 with ⟨w, _⟩ | ⟨w, w1, w2, w3⟩
    · exact absurd w hv
    rw [e1] at r1
    have hrR := (nI_ltI (by omega) (by omega)).mp r1
    rw [w3, if_neg (fun z => by
      rcases z with z | z | z
      · exact nI_pos (by omega) z
      · exact nI_pos (by omega) z
      · rw [hC] at z
        have := (nI_leI (by omega) (by omega)).mp z
        omega), nI_clamp (by omega), grp_at b1 b3 s19 b6, e14]
    have hx : (d * 31 + s * 7) % P.gg < P.gg := Nat.mod_lt _ hP.gg
    have := nof_at (base := (d * 31 + s * 7) % P.gg * P.nn) (r := r) hP.f hnn P.nn 0 0 (Nat.zero_le _) (by omega) (by omega)
    rw [Nat.add_zero, nI_0, Nat.sub_zero] at this
    rw [this]
    obtain ⟨a', a1, a2⟩ := (hA _ hx).1 r rnn
    rw [a2]
    have hr2 := row_rk hnn (hA _ hx) r a' rnn a1 a2
    rw [rk_inj a1 ann (by omega) (hr2.trans hrk.symm)]
/-- a STRIPE stands where it must -/
theorem CLM.stripe {P : Pm} {R : Nat} {g : Gh} {D : Nat → Nat → Nat → Int32} {n i s v : Nat} (hP : PmO P) (hA : RwA P.nn P.gg P.f) (hC : P.C = nI R) (hR : R ≤ P.nn) (hR1 : 1 ≤ R) (h : CLM P g D) (hn : n < P.nn) (hi : i < 512) (hs : s < 19) (hv : v < 512) (hx : (tsp g.ops g.bg).ex i = true) (e : (tsp g.ops g.bg).vr i s = nI v) : (∃ sl, Cps (D n 2) sl (tgN i s v)) ↔ rkS (nI ((i * 31 + s * 7) % P.gg)) (nI n) P.nn 0 0 < R := by
  obtain ⟨t1, t2, t3⟩ := tgN_d (i := i) (p := s) (v := v) (by omega) hv
  have hk : tgN i s v < 5243392 := by unfold tgN; omega
  have hgr : gr P.gg (tgN i s v) = (i * 31 + s * 7) % P.gg := by
    unfold gr
    rw [t1, t2, if_neg (by omega)]
  rw [h.cp hn hk, hgr, hC, gm_rk hP.f hP.nn hR hR1 hA hP.gg (Nat.mod_lt _ hP.gg) hn]
  exact ⟨fun z => z.2, fun z => ⟨Or.inr ⟨by rw [t1]; exact hi, by rw [t1]; exact hx, by rw [t1, t2, t3]; exact e⟩, z⟩⟩
theorem od_eq {P : Pm} {R : Nat} {g : Gh} {E M : Nat → Nat → Int32} {D : Nat → Nat → Nat → Int32} {x y z iw v : Int32} (hP : PmO P) (hG : GO g) (hA : RwA P.nn P.gg P.f) (hC : P.C = nI R) (hR : R ≤ P.nn) (hR1 : 1 ≤ R) (e1 : M 0 1 = nI R) (h7 : M 0 7 = E 100 10) (hc : ¬ E 100 10 = 0 → CBO P g E M D) (hq : rodQ P.nn P.gg M x y z iw v) : odV P.f P.nn P.gg P.C E D x y z iw = v := by
  have hnn := hP.nn
  have h5 := hG.1
  have hT := hG.tok (Nat.le_refl g.bg)
  obtain ⟨w, hw, hor⟩ := hq
  have hwe := whr_eq hP hG hA hC hR e1 h7 hc hw
  unfold odV
  rw [hwe]
  rcases hor with ⟨w0, rfl⟩ | ⟨k, s, zz, w0, rfl, k48, rfl, s19, e17, hzz, hv⟩
  · rw [if_pos w0]
  rw [if_neg w0]
  rcases hw with ⟨rfl, _⟩ | ⟨rfl, _⟩ | ⟨k', s', r, a, d, q, ek, k48', k20, es, s19', rfl, rnn, r1, q19, q16, d5, rfl, ann, hrk⟩
  · exact absurd (by decide) w0
  · exact absurd (by decide) w0
  have : k = k' := nI_inj (by omega) (by omega) ek
  subst this
  have : s = s' := nI_inj (by omega) (by omega) es
  subst this
  rw [h7] at q
  obtain ⟨e14, hCt, hF, hL⟩ := hc q
  obtain ⟨e20, hc48, hk⟩ := cat_ref hT hCt hF
  have e58 := hCt.2.2.1
  rw [e20] at k20
  have hkc := (nI_ltI (by omega) (by omega)).mp k20
  obtain ⟨f, f', i, hB⟩ := hk k hkc
  have hB0 := hB
  obtain ⟨b1, b2, b3, b4, b5, b6, b7, b8, b9, b10, b11⟩ := hB
  rw [b10, nI_clamp (by omega)] at q19 q16 e17 hv
  have hdi : d = i := nI_inj (by omega) (by omega) (q16.symm.trans b11.1)
  subst hdi
  have hz1 := hT.z1 d
  have hzs : zz = (tsp g.ops g.bg).sz d := nI_inj (by omega) (by omega) (e17.symm.trans b11.2.1)
  subst hzs
  have hvr : ¬ (tsp g.ops g.bg).vr d s = -1 := fun z => q19 ((b11.2.2.2.2.2 s s19).mpr z)
  have hsz := hT.v2 d s s19 hvr
  rcases stp_at hT h5 hc48 e58 hkc s19 hB0 with ⟨w, _⟩ | ⟨vv, w1, w2, w3⟩
  · exact absurd w hvr
  rw [e1] at r1
  have hrR := (nI_ltI (by omega) (by omega)).mp r1
  obtain ⟨sl, hsl⟩ := (hL.stripe hP hA hC hR hR1 ann b3 s19 (show vv < 512 by omega) b4 w2).mpr (by rw [hrk]; exact hrR)
  obtain ⟨t1, t2, t3⟩ := tgN_d (i := d) (p := s) (v := vv) (by omega) (show vv < 512 by omega)
  have hkt : tgN d s vv < 5243392 := tgN_lt b3 (by omega) (by omega)
  have htg : tgA (E 59) (E 64) (stpV E (nI k) (nI s)).toNatClampNeg = nI (tgN d s vv) := by
    rw [w3, nI_clamp (by omega)]
    exact tgA_v b1 (by omega) b6 (by rw [b9 s (by omega)]; exact w2)
  have hsk := seek_yes (hL.du ann) (hL.z ann) hsl
  unfold seekF at hsk
  have hsl280 := hsl.1
  rw [nI_clamp (show a < 2 ^ 31 by omega), htg, hsk, nI_clamp (show sl < 2 ^ 31 by omega), nI_clamp (show k < 2 ^ 31 by omega), b5, nI_clamp (show f < 2 ^ 31 by omega), b7, show nI s * 448 = nI (s * 448) from pk_mul s 448, nI_sub (show s * 448 ≤ (tsp g.ops g.bg).sz d by omega)]
  rw [len_e (show (tsp g.ops g.bg).sz d - s * 448 < 2 ^ 31 by omega)]
  rcases hv with ⟨rfl, hno⟩ | ⟨iv, rfl, i4, iz, rfl⟩
  · rw [if_pos ?_]
    rcases hno with z | ⟨iv, i3, rfl, z⟩
    · exact Or.inl z
    · refine Or.inr (Or.inl ((nI_leI ?_ i3).mpr ?_))
      · split <;> omega
      · split <;> omega
  · rw [if_neg (fun z => by
      rcases z with z | z | z
      · exact nI_pos (by omega) z
      · have := (nI_leI (by split <;> omega) (by omega)).mp z
        split at this <;> omega
      · exact nI_pos (by omega) z), nI_clamp (show iv < 2 ^ 31 by omega)]
    have hct := ((hL.ct ann hkt hsl).2.2 (by rw [t1]; omega) (by rw [t2]; omega)).2 iv i4
    rw [t1, t2, t3] at hct
    obtain ⟨_, _, _, _, _, s6⟩ := (hG.stb (Nat.le_refl g.bg)).s d s vv (by omega) (by omega) w2
    rw [← s6 s19 iv i4] at hct
    have e2 := b11.2.2.2.2.1 (448 * s + iv) iz
    unfold rby at e2
    have e3 := uN_inj e2
    rw [e3, ← hct]
    refine byt_cg ?_ ?_
    · show D a 2 ((sl * 512 + 60 + iv) / 4) = D a 2 (sl * 128 + (60 + iv) / 4)
      rw [by_ix.1]
    · exact by_ix.2

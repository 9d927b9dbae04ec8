/-! where all is CALM, audit finds nothing -/
theorem TK.pl {T : TS} {fl r : Int32} {jf zf nf mf fo vf : Nat → Int32} {K : Int64} (h : TK T fl jf zf nf mf fo vf K) (hr : vf 960 = r) {k : Nat} (hk : k < 5243392) (hi : isIt T r k) : ∃ a, a < 961 ∧ fndI fo vf (nI k) = nI a ∧ plc jf k a ∧ vf a = nI (k % 512) := by
  have hex : ∃ a, plc jf k a ∧ vf a = nI (k % 512) := by
    rcases hi with ⟨z1, z2⟩ | ⟨z1, z2, z3⟩
    · exact ⟨960, Or.inl ⟨z1, rfl⟩, by rw [hr]; exact z2⟩
    · obtain ⟨f, f1, f2, f3⟩ := h.1.fx z1 z2
      have hp : k / 512 % 20 < 20 := Nat.mod_lt _ (by decide)
      exact ⟨f * 20 + k / 512 % 20, Or.inr ⟨z1, f, f1, f3, rfl⟩, by rw [(h.at f1 z1 f3).2.2.2 _ hp]; exact z3⟩
  rcases h.1.find (k := k) (by omega) with ⟨_, z⟩ | ⟨a, a1, a2, a3, a4⟩
  · obtain ⟨a, b, c⟩ := hex
    exact absurd c (z a b)
  · exact ⟨a, a1, a2, a3, a4⟩
theorem pl_uq {jf vf : Nat → Int32} {k k' a : Nat} (hk : k < 5243392) (hk' : k' < 5243392) (h1 : plc jf k a) (h2 : plc jf k' a) (e1 : vf a = nI (k % 512)) (e2 : vf a = nI (k' % 512)) : k = k' := by
  have hm : k % 512 = k' % 512 := nI_inj (by omega) (by omega) (e1.symm.trans e2)
  have p1 : k / 512 % 20 < 20 := Nat.mod_lt _ (by decide)
  have p2 : k' / 512 % 20 < 20 := Nat.mod_lt _ (by decide)
  rcases h1 with ⟨z1, z2⟩ | ⟨z1, f, f1, f2, f3⟩
  · rcases h2 with ⟨y1, y2⟩ | ⟨y1, f, f1, f2, f3⟩
    · omega
    · omega
  · rcases h2 with ⟨y1, y2⟩ | ⟨y1, f', g1, g2, g3⟩
    · omega
    · have : f = f' := by omega
      subst this
      have : k / 10240 = k' / 10240 := nI_inj (by omega) (by omega) (f2.symm.trans g2)
      omega
theorem pl_gr {E : Nat → Nat → Int32} {gg k a : Nat} (hk : k < 5243392) (h : plc (E 59) k a) : grp (E 59) gg a = gr gg k := by
  have p1 : k / 512 % 20 < 20 := Nat.mod_lt _ (by decide)
  unfold grp gr
  rcases h with ⟨z1, z2⟩ | ⟨z1, f, f1, f2, f3⟩
  · rw [if_pos (Or.inl z2), if_pos (Or.inl z1)]
  · by_cases c : k / 512 % 20 = 19
    · rw [if_pos (Or.inr (by omega)), if_pos (Or.inr c)]
    · rw [if_neg (by omega), if_neg (by omega), show a / 20 = f by omega, show a % 20 = k / 512 % 20 by omega, f2, nI_clamp (by omega)]
/-- two COPIES of one ITEM say the same -/
theorem ct_same {ops : Nat → Mg} {k : Nat} {w w' : Nat → Int32} (h : ctW ops k w) (h' : ctW ops k w') : ∀ x, 2 ≤ x → x < 127 → w x = w' x := fun x x1 x2 => by
  by_cases c1 : k / 10240 = 512
  · rw [h.1 c1 x x1 x2, h'.1 c1 x x1 x2]
  · by_cases c2 : k / 512 % 20 = 19
    · rw [h.2.1 c1 c2 x x1 x2, h'.2.1 c1 c2 x x1 x2]
    · obtain ⟨s1, s2⟩ := h.2.2 c1 c2
      obtain ⟨s1', s2'⟩ := h'.2.2 c1 c2
      rcases Nat.lt_or_ge x 15 with z | z
      · rw [s1 x x1 z, s1' x x1 z]
      · refine byt_w (fun r hr => ?_)
        have e1 := s2 (4 * x + r - 60) (by omega)
        have e2 := s2' (4 * x + r - 60) (by omega)
        rw [show 60 + (4 * x + r - 60) = 4 * x + r by omega] at e1 e2
        rw [e1, e2]
theorem bc_6 : ∀ v, v < 64 → bcI (nI v) = nI (cb 6 (nI v)) := by decide +kernel
theorem bc_cb {nn : Nat} {x : Int32} (hnn : nn ≤ 6) (h : ∀ m, nn ≤ m → bt x m = false) : bcI x = nI (cb nn x) := by
  have h6 : cb 6 x = cb nn x := by
    unfold cb
    have := Sm_tail (g := fun n => if bt x n = true then 1 else 0) (n := nn) (6 - nn) (fun i h1 _ => by
      show (if bt x i = true then 1 else 0) = 0
      rw [h i h1]; rfl)
    rw [show nn + (6 - nn) = 6 by omega] at this
    exact this
  have hx : uN x < 64 := by
    have : uN x < 2 ^ 6 := Nat.lt_pow_two_of_testBit _ (fun i hi => by rw [uN_bt]; exact h i (by omega))
    exact this
  have e : x = nI (uN x) := u_nI (by omega)
  have e2 := bc_6 _ hx
  rw [← e, h6] at e2
  exact e2
theorem gm_bits {P : Pm} {x : Nat} (hf : Rg P.nn P.f) (hnn : P.nn ≤ 6) (hx : x < P.gg) (hA : RwA P.nn P.gg P.f) {R : Nat} (hC : P.C = nI R) (hR : R ≤ P.nn) (hR1 : 1 ≤ R) : (∀ m, P.nn ≤ m → bt (gm P.nn P.C P.f (allN P.nn) x) m = false) ∧ cb P.nn (gm P.nn P.C P.f (allN P.nn) x) = R := by
  rw [hC]
  have hm := mof_all hf hnn hR P.nn (x * P.nn) 0 0 (by omega) (by omega)
  rw [nI_0] at hm
  refine ⟨fun m hmn => ?_, ?_⟩
  · unfold gm mof2
    rw [if_pos hm]
    exact mof_bits hf hnn (nI R) (allN P.nn) P.nn _ 0 0 (fun y _ => b_0 y) m hmn
  · obtain ⟨c', c1, c2, c3⟩ := mof_cnt (C := nI R) (set := allN P.nn) (base := x * P.nn) hf hnn (fun i j hi hj e => RwA.rk (C := nI R) hA x i j hx hi hj e) P.nn 0 0 0 (by omega) (by omega) (Sm_z (fun i _ => by rw [b_0]; rfl)) (fun v _ hb => by rw [b_0] at hb; cases hb)
    rw [Nat.add_zero, nI_0] at c2 c3
    have : c' = R := nI_inj (by omega) (by omega) (c2.symm.trans hm)
    unfold gm mof2
    rw [if_pos hm, c3, this]
theorem aud_ok {P : Pm} {R : Nat} {g : Gh} {E M : Nat → Nat → Int32} {D : Nat → Nat → Nat → Int32} (hP : PmO P) (hG : GO g) (hA : RwA P.nn P.gg P.f) (hC : P.C = nI R) (hR : R ≤ P.nn) (hR1 : 1 ≤ R) (hB : CBO P g E M D) : AUD P.nn P.gg P.C P.f E D := by
  have hnn := hP.nn
  have h5 := hG.1
  have hT := hG.tok (Nat.le_refl g.bg)
  obtain ⟨e14, hCt, _, hL⟩ := hB
  obtain ⟨⟨K, hTK⟩, _, _, _, _, e960⟩ := hCt
  -- what a slot holds
  have hsl : ∀ j s, j < P.nn → s < 280 → whB (D j 2) s → ∃ k a, k < 5243392 ∧ a < 961 ∧ Cps (D j 2) s k ∧ atS E D j s = nI a ∧ plc (E 59) k a ∧ E 64 a = nI (k % 512) ∧ bt (gm P.nn P.C P.f (allN P.nn) (gr P.gg k)) j = true ∧ ctW g.ops k (fun x => D j 2 (s * 128 + x)) := fun j s hj hs hw => by
    obtain ⟨k, k1, k2, k3, k4, k5⟩ := hL.sl hj hs hw
    obtain ⟨a, a1, a2, a3, a4⟩ := hTK.pl e960 k1 k3
    exact ⟨k, a, k1, a1, k2, by unfold atS; rw [k2.2.2]; exact a2, a3, a4, k4, k5⟩
  refine ⟨fun j s hj hs hw => ?_, fun j s j' s' hj hs hj' hs' hw hw' he => ?_, fun a ha hv h hb => ?_⟩
  · obtain ⟨k, a, k1, a1, k2, a2, a3, a4, a5, _⟩ := hsl j s hj hs hw
    refine ⟨a, a1, a2, ?_⟩
    rw [e14, pl_gr k1 a3]
    exact a5
  · obtain ⟨k, a, k1, a1, k2, a2, a3, a4, a5, a6⟩ := hsl j s hj hs hw
    obtain ⟨k', a', k1', a1', k2', a2', a3', a4', a5', a6'⟩ := hsl j' s' hj' hs' hw'
    have : a = a' := nI_inj (by omega) (by omega) (a2.symm.trans (he.trans a2'))
    subst this
    have : k = k' := pl_uq (vf := E 64) k1 k1' a3 a3' a4 a4'
    subst this
    refine ⟨fun w w1 w2 => ?_, fun e => ?_⟩
    · by_cases c : w = 1
      · rw [c, k2.2.2, k2'.2.2]
      · exact ct_same a6 a6' w (by omega) w2
    · subst e
      exact clm_uq (hL.du hj) (hL.z hj) k2 k2'
  · -- the ITEM at place a
    have hit : ∃ k, k < 5243392 ∧ plc (E 59) k a ∧ E 64 a = nI (k % 512) ∧ isIt (tsp g.ops g.bg) (efv g.ops g.bg) k := by
      by_cases c : a = 960
      · subst c
        rw [e960] at hv
        rcases efv_or g.ops g.bg with z | ⟨v, v1, v2, _⟩
        · rw [z] at hv; exact absurd (by decide) hv
        · obtain ⟨t1, t2, t3⟩ := tgN_d (i := 512) (p := 0) (v := v) (by decide) (by omega)
          have t1 : rtg v / 10240 = 512 := t1
          have t3 : rtg v % 512 = v := t3
          exact ⟨rtg v, by unfold rtg tgN; omega, Or.inl ⟨t1, rfl⟩, by rw [e960, v2, t3], Or.inl ⟨t1, by rw [v2, t3]⟩⟩
      · have hp : a % 20 < 20 := Nat.mod_lt _ (by decide)
        have hae : a = a / 20 * 20 + a % 20 := by omega
        rcases hTK.1.b2 (a / 20) (by omega) with ⟨_, _, _, z⟩ | ⟨i, i1, i2, _⟩
        · have := z (a % 20) hp
          rw [← hae] at this
          rw [this] at hv; exact absurd (by decide) hv
        · obtain ⟨x1, _⟩ := hTK.1.jx (by omega) i1 i2
          have hva := (hTK.at (by omega) i1 i2).2.2.2 (a % 20) hp
          rw [← hae] at hva
          rcases hT.v1 i (a % 20) with z | ⟨v, v1, v2⟩
          · rw [hva, z] at hv; exact absurd (by decide) hv
          · obtain ⟨t1, t2, t3⟩ := tgN_d (i := i) (p := a % 20) (v := v) hp (by omega)
            exact ⟨tgN i (a % 20) v, tgN_lt i1 hp (by omega), Or.inr ⟨by rw [t1]; exact i1, a / 20, by omega, by rw [t1]; exact i2, by rw [t2]; exact hae⟩, by rw [hva, v2, t3], Or.inr ⟨by rw [t1]; exact i1, by rw [t1]; exact x1, by rw [t1, t2, t3]; exact v2⟩⟩
    obtain ⟨k, k1, k2, k3, k4⟩ := hit
    obtain ⟨a', a1', a2', a3', a4'⟩ := hTK.pl e960 k1 k4
    have haa : a' = a := by
      -- both are the place of k
      rcases k2 with ⟨z1, z2⟩ | ⟨z1, f, f1, f2, f3⟩
      · rcases a3' with ⟨y1, y2⟩ | ⟨y1, _⟩
        · omega
        · omega
      · rcases a3' with ⟨y1, _⟩ | ⟨y1, f', g1, g2, g3⟩
        · omega
        · have := hTK.1.inj g1 f1 z1 g2 f2
          omega
    subst haa
    obtain ⟨hb1, hb2⟩ := gm_bits (P := P) hP.f hnn (gr_lt hP.gg k) hA hC hR hR1
    have hh : h = gm P.nn P.C P.f (allN P.nn) (gr P.gg k) := bt_ext (fun m hm => by
      rw [Bool.eq_iff_iff, hb m hm]
      refine ⟨fun ⟨s, s1, s2, s3, s4⟩ => ?_, fun z => ?_⟩
      · obtain ⟨k', a, q1, q2, q3, q4, q5, q6, q7, _⟩ := hsl m s s2 s1 s3
        have : a = a' := nI_inj (by omega) (by omega) (q4.symm.trans s4)
        subst this
        have : k' = k := pl_uq (vf := E 64) q1 k1 q5 k2 q6 k3
        rw [← this]; exact q7
      · have hmn : m < P.nn := by
          rcases Nat.lt_or_ge m P.nn with y | y
          · exact y
          · rw [hb1 m y] at z; cases z
        obtain ⟨s, hs⟩ := (hL.cp hmn k1).mpr ⟨k4, z⟩
        exact ⟨s, hs.1, hmn, hs.2.1, by unfold atS; rw [hs.2.2]; exact a2'⟩)
    rw [hh, bc_cb hnn hb1, hb2, hC]
    exact Int32.sub_self _

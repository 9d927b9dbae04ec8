/-! what is foretold is the ANSWER -/
theorem sr_inj {y y' : Int32} {D D' : Nat → Nat → Int32} {K A : Int64} {Y : List Mg} (h : ((y, D, K, A, Y) : SR) = (y', D', K, A, Y)) : y = y' ∧ D = D' := by
  rw [Prod.mk.injEq, Prod.mk.injEq] at h
  exact ⟨h.1, h.2.1⟩
theorem ite_sr {c : Prop} [Decidable c] {p q r : SR} (h : (if c then p else q) = r) : p = r ∨ q = r := by
  by_cases z : c
  · rw [if_pos z] at h; exact Or.inl h
  · rw [if_neg z] at h; exact Or.inr h
theorem fore_v {T : TS} {m : Mg} {o : Nat} {nn gg : Nat} {C me : Int32} {f u b : Nat → Int32} {D D' : Nat → Nat → Int32} {K A : Int64} {Y : List Mg} {ro y : Int32}
    (hT : TOK T o) (ho : o < 512) (hk : TKD T D K) (ha : AKD m o D) (hf : fdP (D 11) (D 18 7) (fdN T m.2 0 (m.1 3).toNatClampNeg)) (hg : m.1 0 = 9 ∨ fdP (D 11) (D 18 8) (fdN T m.2 50 (m.1 4).toNatClampNeg)) (hr : ro = nI (32768 - T.tot)) (h9 : D 18 9 = 0) (hx : m.1 0 = 9 → fdP (D 11) (D 18 8) (nxN T m.2 (m.1 3).toNatClampNeg))
    (hF : F_99 nn gg C me f u b D K A Y ro = (y, D', K, A, Y)) : y = anS T o m ∧ (m.1 0 = 4 → ¬ y < 0 → D' 18 9 = y) := by
  obtain ⟨y1, D1, e1, _, _, _, _, out⟩ := fore_lem (nn := nn) (gg := gg) (C := C) (me := me) (f := f) (u := u) (b := b) (A := A) (Y := Y) (D6 := f) hT ho hk ha hf hg hr h9
  obtain ⟨ey, eD⟩ := sr_inj (e1.symm.trans hF)
  subst ey eD
  have hcase : (∃ a : Nat, a < 2 ^ 31 ∧ y1 = nI a ∧ (∃ T', stp T o m = some (a, T')) ∧ ¬ (m.1 0 = 4 ∨ m.1 0 = 8 ∨ m.1 0 = 9)) ∨ (stp T o m = none ∧ (y1 < 0 ∨ m.1 0 = 4 ∨ m.1 0 = 8 ∨ m.1 0 = 9)) := by
    rcases out with ⟨z1, z2⟩ | ⟨_, z1, z2, _⟩ | ⟨a, T', z1, z2, z3, _, z5, _⟩
    · exact Or.inr ⟨z2, Or.inl z1⟩
    · exact Or.inr ⟨z2, Or.inr z1⟩
    · exact Or.inl ⟨a, z1, z2, ⟨T', z3⟩, z5⟩
  rcases hcase with ⟨a, _, z2, ⟨T', z3⟩, z4⟩ | ⟨hst, hneg⟩
  · exact ⟨by rw [(an_some z3).1, z2], fun k => absurd (Or.inl k) z4⟩
  clear out e1
  obtain ⟨aq, op, h0, h1, h2, h3, h4, h5, w1, w2⟩ := ha
  have hpos : ∀ {n : Nat}, n < 2 ^ 31 → y1 = nI n → ¬ m.1 0 = 4 → ¬ m.1 0 = 8 → ¬ m.1 0 = 9 → False := fun {n} hn e a4 a8 a9 => by
    rcases hneg with z | z | z | z
    · rw [e] at z; exact nI_pos hn z
    · exact a4 z
    · exact a8 z
    · exact a9 z
  have an : ∀ v : Int32, tdO T m = none → erS T m = v → y1 = v → y1 = anS T o m := fun v t1 t2 t3 => by rw [(an_none hst t1).1, t2, t3]
  have l5 := inR_c2 aq.2.2.2.2.2 (by decide)
  obtain ⟨k, hk10, ek⟩ := aq.1
  have hkc : k = 0 ∨ k = 1 ∨ k = 2 ∨ k = 3 ∨ k = 4 ∨ k = 5 ∨ k = 6 ∨ k = 7 ∨ k = 8 ∨ k = 9 := by omega
  have td : ¬ m.1 0 = 4 → ¬ m.1 0 = 9 → tdO T m = none := tdO_no
  unfold F_99 at hF
  rw [h0] at hF
  rcases hf with ⟨e7, ef⟩ | ⟨fx, i, hfx, hi, e7, eji, ef⟩
  · rw [if_pos e7, bnN_e] at hF
    rcases hkc with rfl | rfl | rfl | rfl | rfl | rfl | rfl | rfl | rfl | rfl
    · replace ek : m.1 0 = 0 := ek
      rw [if_pos ek] at hF
      refine ⟨?_, fun z => absurd (ek.symm.trans z) (by decide)⟩
      by_cases c : D 10 9 = 48
      · rw [if_neg (fun z => z c)] at hF
        refine an (-4) (td (by rw [ek]; decide) (by rw [ek]; decide)) ?_ (sr_inj hF).1.symm
        unfold erS; rw [if_pos ek, ef]
      · rw [if_pos c] at hF
        exact (hpos (n := 0) (by decide) (sr_inj hF).1.symm (by rw [ek]; decide) (by rw [ek]; decide) (by rw [ek]; decide)).elim
    · replace ek : m.1 0 = 1 := ek
      rw [if_neg (by rw [ek]; decide), if_pos ek, bnN_e, bnN_e] at hF
      refine ⟨?_, fun z => absurd (ek.symm.trans z) (by decide)⟩
      rcases ite_sr hF with hF | hF
      · refine an (-4) (td (by rw [ek]; decide) (by rw [ek]; decide)) ?_ (sr_inj hF).1.symm
        unfold erS; rw [if_neg (by rw [ek]; decide), if_pos (Or.inl ek)]
      · exact (hpos (n := (D 19 5).toNatClampNeg) (by rw [h5]; omega) (sr_inj hF).1.symm (by rw [ek]; decide) (by rw [ek]; decide) (by rw [ek]; decide)).elim
    · replace ek : m.1 0 = 2 := ek
      rw [if_neg (by rw [ek]; decide), if_neg (by rw [ek]; decide), if_pos ek, bnN_e] at hF
      refine ⟨?_, fun z => absurd (ek.symm.trans z) (by decide)⟩
      rcases ite_sr hF with hF | hF
      · refine an (-4) (td (by rw [ek]; decide) (by rw [ek]; decide)) ?_ (sr_inj hF).1.symm
        unfold erS; rw [if_neg (by rw [ek]; decide), if_pos (Or.inr ek)]
      · exact (hpos (n := (D 19 5).toNatClampNeg) (by rw [h5]; omega) (sr_inj hF).1.symm (by rw [ek]; decide) (by rw [ek]; decide) (by rw [ek]; decide)).elim
    · replace ek : m.1 0 = 3 := ek
      rw [if_neg (by rw [ek]; decide), if_neg (by rw [ek]; decide), if_neg (by rw [ek]; decide), if_pos ek] at hF
      refine ⟨an (-2) (td (by rw [ek]; decide) (by rw [ek]; decide)) ?_ (sr_inj hF).1.symm, fun z => absurd (ek.symm.trans z) (by decide)⟩
      unfold erS; rw [if_neg (by rw [ek]; decide), if_neg (by rw [ek]; decide), if_pos ek, ef]
    · replace ek : m.1 0 = 4 := ek
      rw [if_neg (by rw [ek]; decide), if_neg (by rw [ek]; decide), if_neg (by rw [ek]; decide), if_neg (by rw [ek]; decide), if_pos ek, bnN_e, bnN_e] at hF
      have ey := (sr_inj hF).1.symm
      refine ⟨an (-2) ?_ ?_ ey, fun _ z => absurd (by rw [ey]; decide) z⟩
      · unfold tdO; rw [if_pos ek, ef]
      · unfold erS; rw [if_neg (by rw [ek]; decide), if_neg (by rw [ek]; decide), if_neg (by rw [ek]; decide), if_neg (by rw [ek]; decide)]
    · replace ek : m.1 0 = 5 := ek
      rw [if_neg (by rw [ek]; decide), if_neg (by rw [ek]; decide), if_neg (by rw [ek]; decide), if_neg (by rw [ek]; decide), if_neg (by rw [ek]; decide), if_pos ek] at hF
      refine ⟨an (-2) (td (by rw [ek]; decide) (by rw [ek]; decide)) ?_ (sr_inj hF).1.symm, fun z => absurd (ek.symm.trans z) (by decide)⟩
      unfold erS; rw [if_neg (by rw [ek]; decide), if_neg (by rw [ek]; decide), if_neg (by rw [ek]; decide), if_neg (by rw [ek]; decide)]
    · replace ek : m.1 0 = 6 := ek
      rw [if_neg (by rw [ek]; decide), if_neg (by rw [ek]; decide), if_neg (by rw [ek]; decide), if_neg (by rw [ek]; decide), if_neg (by rw [ek]; decide), if_neg (by rw [ek]; decide), if_pos ek] at hF
      have ey : y1 = -2 := by
        rcases ite_sr hF with hF | hF
        · exact (sr_inj hF).1.symm
        · rw [bnN_e] at hF; exact (sr_inj hF).1.symm
      refine ⟨an (-2) (td (by rw [ek]; decide) (by rw [ek]; decide)) ?_ ey, fun z => absurd (ek.symm.trans z) (by decide)⟩
      unfold erS; rw [if_neg (by rw [ek]; decide), if_neg (by rw [ek]; decide), if_neg (by rw [ek]; decide), if_neg (by rw [ek]; decide)]
    · replace ek : m.1 0 = 7 := ek
      rw [if_neg (by rw [ek]; decide), if_neg (by rw [ek]; decide), if_neg (by rw [ek]; decide), if_neg (by rw [ek]; decide), if_neg (by rw [ek]; decide), if_neg (by rw [ek]; decide), if_neg (by rw [ek]; decide), if_pos ek] at hF
      have ey : y1 = -2 := by
        rcases ite_sr hF with hF | hF
        · exact (sr_inj hF).1.symm
        · rw [bnN_e] at hF; exact (sr_inj hF).1.symm
      refine ⟨an (-2) (td (by rw [ek]; decide) (by rw [ek]; decide)) ?_ ey, fun z => absurd (ek.symm.trans z) (by decide)⟩
      unfold erS; rw [if_neg (by rw [ek]; decide), if_neg (by rw [ek]; decide), if_neg (by rw [ek]; decide), if_neg (by rw [ek]; decide)]
    · replace ek : m.1 0 = 8 := ek
      rw [if_neg (by rw [ek]; decide), if_neg (by rw [ek]; decide), if_neg (by rw [ek]; decide), if_neg (by rw [ek]; decide), if_neg (by rw [ek]; decide), if_neg (by rw [ek]; decide), if_neg (by rw [ek]; decide), if_neg (by rw [ek]; decide), if_pos ek] at hF
      refine ⟨an (-2) (td (by rw [ek]; decide) (by rw [ek]; decide)) ?_ (sr_inj hF).1.symm, fun z => absurd (ek.symm.trans z) (by decide)⟩
      unfold erS; rw [if_neg (by rw [ek]; decide), if_neg (by rw [ek]; decide), if_neg (by rw [ek]; decide), if_pos ek, ef]
    · replace ek : m.1 0 = 9 := ek
      rw [if_neg (by rw [ek]; decide), if_neg (by rw [ek]; decide), if_neg (by rw [ek]; decide), if_neg (by rw [ek]; decide), if_neg (by rw [ek]; decide), if_neg (by rw [ek]; decide), if_neg (by rw [ek]; decide), if_neg (by rw [ek]; decide), if_neg (by rw [ek]; decide)] at hF
      refine ⟨?_, fun z => absurd (ek.symm.trans z) (by decide)⟩
      rcases hx ek with ⟨x1, x2⟩ | ⟨gx, j, x1, x2, x3, x4, x5⟩
      · rw [if_pos x1] at hF
        refine an (-2) ?_ ?_ (sr_inj hF).1.symm
        · unfold tdO; rw [if_neg (by rw [ek]; decide), if_pos ek, x2]
        · unfold erS; rw [if_neg (by rw [ek]; decide), if_neg (by rw [ek]; decide), if_neg (by rw [ek]; decide), if_neg (by rw [ek]; decide)]
      · rw [if_neg (by rw [x3]; exact nIneg (by omega)), bnN_e, bnN_e, x3, nI_clamp (by omega), (hk.at x1 x2 x4).2.1] at hF
        have hn := hT.n1 j (hk.1.jx x1 x2 x4).1
        rw [nI_clamp (by omega)] at hF
        have hd : tdO T m = some (T.nl j, nmP T j) := by unfold tdO; rw [if_neg (by rw [ek]; decide), if_pos ek, x5]
        rw [(an_told hst hd).1]
        exact (sr_inj hF).1.symm
  · have hnx : ¬ D 18 7 = -1 := by rw [e7]; exact nIneg (by omega)
    have hz := hk.at hfx hi eji
    have hz8 := hT.z1 i
    rw [if_neg hnx, bnN_e, bnN_e] at hF
    rw [show (D 18 7).toNatClampNeg = fx by rw [e7, nI_clamp (by omega)], show (D 12 fx).toNatClampNeg = T.sz i by rw [hz.1, nI_clamp (by omega)]] at hF
    rcases hkc with rfl | rfl | rfl | rfl | rfl | rfl | rfl | rfl | rfl | rfl
    · replace ek : m.1 0 = 0 := ek
      rw [if_pos ek] at hF
      refine ⟨an (-3) (td (by rw [ek]; decide) (by rw [ek]; decide)) ?_ (sr_inj hF).1.symm, fun z => absurd (ek.symm.trans z) (by decide)⟩
      unfold erS; rw [if_pos ek, ef]
    · replace ek : m.1 0 = 1 := ek
      rw [if_neg (by rw [ek]; decide), if_pos ek, bnN_e, bnN_e] at hF
      refine ⟨?_, fun z => absurd (ek.symm.trans z) (by decide)⟩
      rcases ite_sr hF with hF | hF
      · refine an (-4) (td (by rw [ek]; decide) (by rw [ek]; decide)) ?_ (sr_inj hF).1.symm
        unfold erS; rw [if_neg (by rw [ek]; decide), if_pos (Or.inl ek)]
      · exact (hpos (n := (D 19 5).toNatClampNeg) (by rw [h5]; omega) (sr_inj hF).1.symm (by rw [ek]; decide) (by rw [ek]; decide) (by rw [ek]; decide)).elim
    · replace ek : m.1 0 = 2 := ek
      rw [if_neg (by rw [ek]; decide), if_neg (by rw [ek]; decide), if_pos ek, bnN_e] at hF
      refine ⟨?_, fun z => absurd (ek.symm.trans z) (by decide)⟩
      rcases ite_sr hF with hF | hF
      · refine an (-4) (td (by rw [ek]; decide) (by rw [ek]; decide)) ?_ (sr_inj hF).1.symm
        unfold erS; rw [if_neg (by rw [ek]; decide), if_pos (Or.inr ek)]
      · exact (hpos (n := (D 19 5).toNatClampNeg) (by rw [h5]; omega) (sr_inj hF).1.symm (by rw [ek]; decide) (by rw [ek]; decide) (by rw [ek]; decide)).elim
    · replace ek : m.1 0 = 3 := ek
      rw [if_neg (by rw [ek]; decide), if_neg (by rw [ek]; decide), if_neg (by rw [ek]; decide), if_pos ek, bnN_e] at hF
      refine ⟨?_, fun z => absurd (ek.symm.trans z) (by decide)⟩
      rcases ite_sr hF with hF | hF
      · rw [bnN_e] at hF
        exact (hpos (n := T.sz i) (by omega) (sr_inj hF).1.symm (by rw [ek]; decide) (by rw [ek]; decide) (by rw [ek]; decide)).elim
      · refine an (-4) (td (by rw [ek]; decide) (by rw [ek]; decide)) ?_ (sr_inj hF).1.symm
        unfold erS; rw [if_neg (by rw [ek]; decide), if_neg (by rw [ek]; decide), if_pos ek, ef]
    · replace ek : m.1 0 = 4 := ek
      rw [if_neg (by rw [ek]; decide), if_neg (by rw [ek]; decide), if_neg (by rw [ek]; decide), if_neg (by rw [ek]; decide), if_pos ek, bnN_e, bnN_e, h1 (by rw [ek]; decide), h2] at hF
      obtain ⟨ey, eD⟩ := sr_inj hF
      have hd : tdO T m = some (min (T.sz i - (m.1 1).toNatClampNeg) (m.1 2).toNatClampNeg, fun x => uN (T.dt i ((m.1 1).toNatClampNeg + x))) := by unfold tdO; rw [if_pos ek, ef]
      refine ⟨?_, fun _ _ => ?_⟩
      · rw [(an_told hst hd).1, ← ey]
        show nI (min _ _) = nI (min _ _)
        rw [Nat.min_comm]
      · rw [← eD, va_up_s, pk_us]; exact ey
    · replace ek : m.1 0 = 5 := ek
      rw [if_neg (by rw [ek]; decide), if_neg (by rw [ek]; decide), if_neg (by rw [ek]; decide), if_neg (by rw [ek]; decide), if_neg (by rw [ek]; decide), if_pos ek] at hF
      exact (hpos (n := T.sz i) (by omega) (sr_inj hF).1.symm (by rw [ek]; decide) (by rw [ek]; decide) (by rw [ek]; decide)).elim
    · replace ek : m.1 0 = 6 := ek
      rw [if_neg (by rw [ek]; decide), if_neg (by rw [ek]; decide), if_neg (by rw [ek]; decide), if_neg (by rw [ek]; decide), if_neg (by rw [ek]; decide), if_neg (by rw [ek]; decide), if_pos ek] at hF
      have ey : y1 = nI 0 ∨ y1 = nI 1 := by
        rcases ite_sr hF with hF | hF
        · exact Or.inl (sr_inj hF).1.symm
        · rw [bnN_e] at hF
          rcases ite_sr hF with hF | hF
          · exact Or.inl (sr_inj hF).1.symm
          · exact Or.inr (sr_inj hF).1.symm
      rcases ey with ey | ey
      · exact (hpos (n := 0) (by decide) ey (by rw [ek]; decide) (by rw [ek]; decide) (by rw [ek]; decide)).elim
      · exact (hpos (n := 1) (by decide) ey (by rw [ek]; decide) (by rw [ek]; decide) (by rw [ek]; decide)).elim
    · replace ek : m.1 0 = 7 := ek
      rw [if_neg (by rw [ek]; decide), if_neg (by rw [ek]; decide), if_neg (by rw [ek]; decide), if_neg (by rw [ek]; decide), if_neg (by rw [ek]; decide), if_neg (by rw [ek]; decide), if_neg (by rw [ek]; decide), if_pos ek] at hF
      refine ⟨?_, fun z => absurd (ek.symm.trans z) (by decide)⟩
      rcases ite_sr hF with hF | hF
      · refine an (-2) (td (by rw [ek]; decide) (by rw [ek]; decide)) ?_ (sr_inj hF).1.symm
        unfold erS; rw [if_neg (by rw [ek]; decide), if_neg (by rw [ek]; decide), if_neg (by rw [ek]; decide), if_neg (by rw [ek]; decide)]
      · rw [bnN_e] at hF
        exact (hpos (n := 0) (by decide) (sr_inj hF).1.symm (by rw [ek]; decide) (by rw [ek]; decide) (by rw [ek]; decide)).elim
    · replace ek : m.1 0 = 8 := ek
      rw [if_neg (by rw [ek]; decide), if_neg (by rw [ek]; decide), if_neg (by rw [ek]; decide), if_neg (by rw [ek]; decide), if_neg (by rw [ek]; decide), if_neg (by rw [ek]; decide), if_neg (by rw [ek]; decide), if_neg (by rw [ek]; decide), if_pos ek] at hF
      refine ⟨an (nI (T.sz i)) (td (by rw [ek]; decide) (by rw [ek]; decide)) ?_ (sr_inj hF).1.symm, fun z => absurd (ek.symm.trans z) (by decide)⟩
      unfold erS; rw [if_neg (by rw [ek]; decide), if_neg (by rw [ek]; decide), if_neg (by rw [ek]; decide), if_pos ek, ef]
    · replace ek : m.1 0 = 9 := ek
      rw [if_neg (by rw [ek]; decide), if_neg (by rw [ek]; decide), if_neg (by rw [ek]; decide), if_neg (by rw [ek]; decide), if_neg (by rw [ek]; decide), if_neg (by rw [ek]; decide), if_neg (by rw [ek]; decide), if_neg (by rw [ek]; decide), if_neg (by rw [ek]; decide)] at hF
      refine ⟨?_, fun z => absurd (ek.symm.trans z) (by decide)⟩
      rcases hx ek with ⟨x1, x2⟩ | ⟨gx, j, x1, x2, x3, x4, x5⟩
      · rw [if_pos x1] at hF
        refine an (-2) ?_ ?_ (sr_inj hF).1.symm
        · unfold tdO; rw [if_neg (by rw [ek]; decide), if_pos ek, x2]
        · unfold erS; rw [if_neg (by rw [ek]; decide), if_neg (by rw [ek]; decide), if_neg (by rw [ek]; decide), if_neg (by rw [ek]; decide)]
      · rw [if_neg (by rw [x3]; exact nIneg (by omega)), bnN_e, bnN_e, x3, nI_clamp (by omega), (hk.at x1 x2 x4).2.1] at hF
        have hn := hT.n1 j (hk.1.jx x1 x2 x4).1
        rw [nI_clamp (by omega)] at hF
        have hd : tdO T m = some (T.nl j, nmP T j) := by unfold tdO; rw [if_neg (by rw [ek]; decide), if_pos ek, x5]
        rw [(an_told hst hd).1]
        exact (sr_inj hF).1.symm
/-- the bytes that are read -/
theorem rd_lp {nn gg : Nat} {C me : Int32} {f u b : Nat → Int32} {K A : Int64} {Y : List Mg} {a sp : Nat} (hsp : sp ≤ 2048) (ha : a + sp ≤ 8192) : ∀ (k i : Nat) (D1 : Nat → Nat → Int32), D1 19 1 = nI a → D1 18 9 = nI sp →
    ∃ D' : Nat → Nat → Int32, G_107 nn gg C me f u b 0 k i D1 K A Y = (D', K, A, Y) ∧ (∀ q, q ≠ 20 → D' q = D1 q) ∧ ∀ y, y < sp → bytA (D' 20) (400 + y) = if i ≤ (a + y) / 448 - a / 448 ∧ (a + y) / 448 - a / 448 < i + k then bytA (D1 21) (((a + y) / 448 - a / 448) * 512 + 60 + (a + y) % 448) else bytA (D1 20) (400 + y)
  | 0, i, D1, h1, h9 => ⟨D1, rfl, fun _ _ => rfl, fun y hy => by rw [if_neg (by omega)]⟩
  | k + 1, i, D1, h1, h9 => by
    unfold G_107
    rw [bnN_e, bnN_e, h1, h9, nI_clamp (by omega), nI_clamp (by omega), if_pos rfl]
    obtain ⟨D', r1, r2, r3⟩ := rd_lp (nn := nn) (gg := gg) (C := C) (me := me) (f := f) (u := u) (b := b) (K := K) (A := A) (Y := Y) hsp ha k (i + 1) (va_up D1 20 (mvF (D1 21) (i * 512 + 60 + max a ((a / 448 + i) * 448) - ((a / 448 + i) * 448)) (400 + max a ((a / 448 + i) * 448) - a) (min (a + sp) (((a / 448 + i) * 448) + 448) - max a ((a / 448 + i) * 448)) (D1 20))) (by rw [va_up_n _ _ (by decide)]; exact h1) (by rw [va_up_n _ _ (by decide)]; exact h9)
    refine ⟨D', r1, fun q hq => by rw [r2 q hq, va_up_n _ _ hq], fun y hy => ?_⟩
    rw [r3 y hy, va_up_n _ _ (by decide), va_up_s, mvF_byt]
    by_cases c1 : i + 1 ≤ (a + y) / 448 - a / 448 ∧ (a + y) / 448 - a / 448 < i + 1 + k
    · rw [if_pos c1, if_pos (by omega)]
    · rw [if_neg c1]
      by_cases c2 : (a + y) / 448 - a / 448 = i
      · have e : (a / 448 + i) * 448 = (a + y) / 448 * 448 := by rw [show a / 448 + i = (a + y) / 448 by omega]
        rw [if_pos (by omega), if_pos (by omega), e, c2]
        refine congrArg _ ?_
        omega
      · rw [if_neg (by omega), if_neg (by omega)]

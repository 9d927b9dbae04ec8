/-! one MESSAGE at a NODE of its EPOCH -/
/-- as a NODE -/
def NRl (P : Pm) (n : Nat) (u b : Nat → Int32) (D D' : Nat → Nat → Int32) (Z : List Mg) : Prop :=
  (u 0 = 0 ∧ D' = D ∧ Z = [mHD P.nn n D]) ∨ (u 0 = 4 ∧ D' = D ∧ Z = [mLS n D (u 1)]) ∨
  (u 0 = 6 ∧ D' = D ∧ ∃ z, Z = [z] ∧ z.1 1 = nI n ∧ z.1 3 = D 0 7 ∧ z.1 4 = D 0 8 ∧ z.1 5 = u 5 ∧ z.1 2 = u 1 ∧ ((stb D (u 5) ∧ z.1 0 = 7) ∨ (¬ stb D (u 5) ∧ z.1 0 = 8))) ∨
  (u 0 = 9 ∧ D' = D ∧ ∃ z, Z = [z] ∧ z.1 1 = nI n ∧ z.1 3 = D 0 7 ∧ z.1 4 = D 0 8 ∧ z.1 5 = u 5 ∧ ((stb D (u 5) ∧ z.1 0 = 10 ∧ z.1 2 = u 6) ∨ (¬ stb D (u 5) ∧ z.1 0 = 8 ∧ z.1 2 = u 1))) ∨
  (u 0 = 10 ∧ Z.length ≤ 1 ∧ DKR P.nn (nI n) P.f D D' Z (u 5) ∧ ((∃ z, stb D (u 5) ∧ D' = D ∧ Z = [z] ∧ hvT z (u 5)) ∨ pnd D' (u 5) ∨ (¬ mem D (u 5) ∧ ∀ s, s < 280 → ¬ D' 6 s = -1 ∨ ¬ D' 5 s = -1))) ∨
  (u 0 = 12 ∧ Z.length ≤ 9 ∧ DKR P.nn (nI n) P.f D D' Z (-1) ∧ (∀ t, mem D' t → mem D t ∨ t = -1) ∧ ∀ m, m < (u 7).toNatClampNeg → ¬ mem D' (b m))
def isN (k : Int32) : Prop := k = 0 ∨ k = 4 ∨ k = 6 ∨ k = 9 ∨ k = 10 ∨ k = 12
theorem isHV.v {nn : Nat} {me : Int32} {f : Nat → Int32} {D : Nat → Nat → Int32} {z : Mg} (h : isHV nn me f D z) : z.1 0 = 11 ∧ z.1 1 = me ∧ z.1 2 = nof f 0 (D 0 8) nn 0 0 ∧ z.1 3 = D 0 7 ∧ z.1 4 = D 0 8 := by
  obtain ⟨c, bf, _, e⟩ := h
  have w : ∀ x, x ≠ 7 → z.1 x = mg 11 me (nof f 0 (D 0 8) nn 0 0) (D 0 7) (D 0 8) x := fun x hx => by
    rw [e]
    show va_up (mg 11 me (nof f 0 (D 0 8) nn 0 0) (D 0 7) (D 0 8)) 7 (nI c) x = _
    rw [va_up_n _ _ hx]
  exact ⟨w 0 (by decide), w 1 (by decide), w 2 (by decide), w 3 (by decide), w 4 (by decide)⟩
theorem isHV.ms {P : Pm} {g : Gh} {nn : Nat} {me : Int32} {f : Nat → Int32} {D : Nat → Nat → Int32} {z : Mg} (h : isHV nn me f D z) : MS P g z := by
  have h0 := h.v.1
  exact MS.no (by rw [h0]; decide) (by rw [h0]; decide) (by rw [h0]; decide) (by rw [h0]; decide)
theorem HV_wt {N : Nat} {nn : Nat} {me : Int32} {f : Nat → Int32} {D : Nat → Nat → Int32} {Z : List Mg} (h : ∀ z ∈ Z, isHV nn me f D z) : Wt N Z ≤ 1 * Z.length := Wt_le (fun z hz => by rw [(h z hz).v.1]; exact Nat.le_refl 1)
/-- what comes of it -/
def NKz (P : Pm) (g : Gh) (n e : Nat) (u b : Nat → Int32) (D : Nat → Nat → Int32) (K A : Int64) (D' : Nat → Nat → Int32) (K' A' : Int64) (Z : List Mg) : Prop :=
  (isN (u 0) ∧ K' = K ∧ A' = A ∧ (∀ q, q = 0 ∨ 6 < q → D' q = D q) ∧ (∀ N, Wt N Z + 1 ≤ wk N (u 0)) ∧ NRl P n u b D D' Z) ∨
  (¬ isN (u 0) ∧ ¬ ldB P.f P.nn (nI n) (D 0 8) = 0 ∧ LHr P g (nI n) u b D K A D' K' A' Z) ∨
  (¬ isN (u 0) ∧ ldB P.f P.nn (nI n) (D 0 8) = 0 ∧ D' = D ∧ K' = K ∧ A' = A ∧ Z = [])
theorem node_z {P : Pm} {g : Gh} {n e : Nat} {u b : Nat → Int32} {D : Nat → Nat → Int32} {K A : Int64} {Y : List Mg} (hG : GO g) (hb12 : g.bg ≤ g.sn + 12) (hgg : 0 < P.gg) (hnn : P.nn ≤ 6) (hf : Rg P.nn P.f) (hn : n < P.nn) (h : NU P g n e D K) (hm : MO P g e (u, b)) (hs : MS P g (u, b)) :
    ∃ (D' : Nat → Nat → Int32) (K' A' : Int64) (Z : List Mg), F_55_k P.nn P.gg P.C (nI n) P.f u b D K A Y = (D', K', A', psl Y Z) ∧ (∀ z ∈ Z, MS P g z ∧ z.1 3 = nI e) ∧ NKz P g n e u b D K A D' K' A' Z := by
  have hep := h.ep.1
  -- as the leader
  have ld : ¬ isN (u 0) → F_55_k P.nn P.gg P.C (nI n) P.f u b D K A Y = (if (ldB P.f P.nn (nI n) (D 0 8)) = 0 then (D, K, A, Y) else bnS (F_67 P.nn P.gg P.C (nI n) P.f u b D K A Y) (fun D3 K3 A3 Y3 => bnS (F_91 P.nn P.gg P.C (nI n) P.f u b D3 K3 A3 Y3) (fun D4 K4 A4 Y4 => (D4, K4, A4, Y4)))) → ∃ (D' : Nat → Nat → Int32) (K' A' : Int64) (Z : List Mg), F_55_k P.nn P.gg P.C (nI n) P.f u b D K A Y = (D', K', A', psl Y Z) ∧ (∀ z ∈ Z, MS P g z ∧ z.1 3 = nI e) ∧ NKz P g n e u b D K A D' K' A' Z := fun hno hF => by
    by_cases c : ldB P.f P.nn (nI n) (D 0 8) = 0
    · rw [if_pos c] at hF
      exact ⟨D, K, A, [], hF, fun z hz => (by cases hz), Or.inr (Or.inr ⟨hno, c, rfl, rfl, rfl, rfl⟩)⟩
    · rw [if_neg c] at hF
      have hLO := h.ld c
      obtain ⟨D', K', A', Z, r1, r2, r3⟩ := lead_z (me := nI n) (A := A) (Y := Y) hG hb12 hgg hnn hf hLO h.ni hm hs
      refine ⟨D', K', A', Z, hF.trans r1, fun z hz => ?_, Or.inr (Or.inl ⟨hno, c, r3⟩)⟩
      obtain ⟨a1, a2, _⟩ := r3.2.2.2.2.1 z hz
      exact ⟨a1, by rw [a2]; exact hLO.l1.1⟩
  unfold F_55_k at ld ⊢
  by_cases c0 : u 0 = 0
  · rw [if_pos c0]
    refine ⟨D, K, A, [mHD P.nn n D], rfl, fun z hz => ?_, Or.inl ⟨Or.inl c0, rfl, rfl, fun _ _ => rfl, fun N => ?_, Or.inl ⟨c0, rfl, rfl⟩⟩⟩
    · rw [List.mem_singleton.mp hz]
      exact ⟨MS.no (show ¬ (1 : Int32) = 5 by decide) (show ¬ (1 : Int32) = 10 by decide) (show ¬ (1 : Int32) = 9 by decide) (show ¬ (1 : Int32) = 12 by decide), hep⟩
    · rw [c0]; exact Nat.le_refl 2
  by_cases c4 : u 0 = 4
  · rw [if_neg c0, if_neg (show ¬ u 0 = 1 by rw [c4]; decide), if_neg (show ¬ u 0 = 2 by rw [c4]; decide), if_neg (show ¬ u 0 = 3 by rw [c4]; decide), if_pos c4]
    obtain ⟨v0, v1, v2, v3, v6, cn, v7, v8, v9, v10, _⟩ := mLS_v (to := u 1) h
    refine ⟨D, K, A, [mLS n D (u 1)], rfl, fun z hz => ?_, Or.inl ⟨Or.inr (Or.inl c4), rfl, rfl, fun _ _ => rfl, fun N => ?_, Or.inr (Or.inl ⟨c4, rfl, rfl⟩)⟩⟩
    · rw [List.mem_singleton.mp hz]
      exact ⟨⟨fun _ => ⟨cn, v7, v8, v9, fun i hi => (v10 i hi).1⟩, fun z => absurd (v0.symm.trans z) (by decide), fun z => absurd (v0.symm.trans z) (by decide), fun z => absurd (v0.symm.trans z) (by decide)⟩, v3⟩
    · show wk N ((mLS n D (u 1)).1 0) + 0 + 1 ≤ _
      rw [v0, c4]
      show 11 + 2 * N + 0 + 1 ≤ 12 + 2 * N
      omega
  by_cases c6 : u 0 = 6
  · obtain ⟨k, k1, k2⟩ := hm.gt (Or.inl c6)
    have k2 : u 5 = nI k := k2
    obtain ⟨z, z1, z2, z3, z4, z5, z6⟩ := give_z (nn := P.nn) (gg := P.gg) (C := P.C) (me := nI n) (f := P.f) (u := u) (b := b) (K := K) (A := A) (kd := 7) (t := u 5) (tt := u 1) (ask := u 1) h.du (by rw [k2]; exact nIneg (by omega))
    have hkd : z.1 0 = 7 ∨ z.1 0 = 8 := by rcases z6 with ⟨_, y, _⟩ | ⟨_, y, _⟩; exact Or.inl y; exact Or.inr y
    rw [if_neg c0, if_neg (show ¬ u 0 = 1 by rw [c6]; decide), if_neg (show ¬ u 0 = 2 by rw [c6]; decide), if_neg (show ¬ u 0 = 3 by rw [c6]; decide), if_neg c4, if_neg (show ¬ u 0 = 5 by rw [c6]; decide), if_pos c6, z1 Y, bnS_e]
    refine ⟨D, K, A, [z], rfl, fun y hy => ?_, Or.inl ⟨Or.inr (Or.inr (Or.inl c6)), rfl, rfl, fun _ _ => rfl, fun N => ?_, Or.inr (Or.inr (Or.inl ⟨c6, rfl, z, rfl, z2, z3, z4, z5, ?_⟩))⟩⟩
    · rw [List.mem_singleton.mp hy]
      exact ⟨MS.no (by rcases hkd with y | y <;> rw [y] <;> decide) (by rcases hkd with y | y <;> rw [y] <;> decide) (by rcases hkd with y | y <;> rw [y] <;> decide) (by rcases hkd with y | y <;> rw [y] <;> decide), by rw [z3]; exact hep⟩
    · show wk N (z.1 0) + 0 + 1 ≤ _
      rw [c6]
      rcases hkd with y | y <;> rw [y] <;> exact Nat.le_refl 2
    · rcases z6 with ⟨y1, y2, y3⟩ | ⟨y1, y2, y3⟩
      · exact ⟨y3, Or.inl ⟨y1, y2⟩⟩
      · exact ⟨y3, Or.inr ⟨y1, y2⟩⟩
  by_cases c9 : u 0 = 9
  · obtain ⟨k, k1, k2⟩ := hm.gt (Or.inr c9)
    have k2 : u 5 = nI k := k2
    obtain ⟨e', n', k', s1, s2, s3, s4, s5, s6, s7⟩ := hs.2.2.1 c9
    have s1 : u 3 = nI e' := s1
    have s3 : u 6 = nI n' := s3
    have s5 : u 5 = nI k' := s5
    obtain ⟨z, z1, z2, z3, z4, z5, z6⟩ := give_z (nn := P.nn) (gg := P.gg) (C := P.C) (me := nI n) (f := P.f) (u := u) (b := b) (K := K) (A := A) (kd := 10) (t := u 5) (tt := u 6) (ask := u 1) h.du (by rw [k2]; exact nIneg (by omega))
    rw [if_neg c0, if_neg (show ¬ u 0 = 1 by rw [c9]; decide), if_neg (show ¬ u 0 = 2 by rw [c9]; decide), if_neg (show ¬ u 0 = 3 by rw [c9]; decide), if_neg c4, if_neg (show ¬ u 0 = 5 by rw [c9]; decide), if_neg c6, if_neg (show ¬ u 0 = 7 by rw [c9]; decide), if_neg (show ¬ u 0 = 8 by rw [c9]; decide), if_pos c9, z1 Y, bnS_e]
    refine ⟨D, K, A, [z], rfl, fun y hy => ?_, Or.inl ⟨Or.inr (Or.inr (Or.inr (Or.inl c9))), rfl, rfl, fun _ _ => rfl, fun N => ?_, Or.inr (Or.inr (Or.inr (Or.inl ⟨c9, rfl, z, rfl, z2, z3, z4, z5, z6⟩)))⟩⟩
    · rw [List.mem_singleton.mp hy]
      refine ⟨?_, by rw [z3]; exact hep⟩
      rcases z6 with ⟨_, y2, y3⟩ | ⟨_, y2, _⟩
      · exact ⟨fun q => absurd (y2.symm.trans q) (by decide), fun _ => ⟨e', n', k', by rw [z3, hep]; exact hm.ep.1.symm.trans s1, s2, by rw [y3]; exact s3, s4, by rw [z5]; exact s5, s6, s7⟩, fun q => absurd (y2.symm.trans q) (by decide), fun q => absurd (y2.symm.trans q) (by decide)⟩
      · exact MS.no (by rw [y2]; decide) (by rw [y2]; decide) (by rw [y2]; decide) (by rw [y2]; decide)
    · show wk N (z.1 0) + 0 + 1 ≤ _
      rw [c9]
      rcases z6 with ⟨_, y2, _⟩ | ⟨_, y2, _⟩ <;> rw [y2]
      · exact Nat.le_refl 3
      · show 1 + 0 + 1 ≤ 3
        omega
  by_cases c10 : u 0 = 10
  · obtain ⟨k, k1, k2, k3, k4⟩ := hm.pu c10
    have k2 : u 5 = nI k := k2
    have k3 : b 1 = nI k := k3
    obtain ⟨D', Z, r1, r2, r3, r4, r5⟩ := store_y (nn := P.nn) (gg := P.gg) (C := P.C) (me := nI n) (f := P.f) (u := u) (b := b) (K := K) (A := A) (Bg_X P g) h.du k4 (by rw [k3, k2]) (by rw [k2]; exact nI_pos (by omega))
    rw [if_neg c0, if_neg (show ¬ u 0 = 1 by rw [c10]; decide), if_neg (show ¬ u 0 = 2 by rw [c10]; decide), if_neg (show ¬ u 0 = 3 by rw [c10]; decide), if_neg c4, if_neg (show ¬ u 0 = 5 by rw [c10]; decide), if_neg c6, if_neg (show ¬ u 0 = 7 by rw [c10]; decide), if_neg (show ¬ u 0 = 8 by rw [c10]; decide), if_neg c9, if_pos c10, r1 Y, bnS_e]
    refine ⟨D', K, A, Z, rfl, fun y hy => ⟨(r4.2.1 y hy).ms, by rw [(r4.2.1 y hy).v.2.2.2.1]; exact hep⟩, Or.inl ⟨Or.inr (Or.inr (Or.inr (Or.inr (Or.inl c10)))), rfl, rfl, r4.1, fun N => ?_, Or.inr (Or.inr (Or.inr (Or.inr (Or.inl ⟨c10, r3, r4, r5⟩))))⟩⟩
    have := HV_wt (N := N) r4.2.1
    rw [c10]
    show _ + 1 ≤ 2
    omega
  by_cases c12 : u 0 = 12
  · obtain ⟨n', q1, q2, q3⟩ := hm.dr c12
    obtain ⟨cn, cn1, cn2⟩ := hs.2.2.2 c12
    have cn2 : u 7 = nI cn := cn2
    have hcl : (u 7).toNatClampNeg = cn := by rw [cn2, nI_clamp (by omega)]
    obtain ⟨c, c1, c2⟩ := DUD.cnt h.du
    obtain ⟨D', Z, c', r1, r2, r3, r4, r5, r6, r7⟩ := drop_z (nn := P.nn) (gg := P.gg) (C := P.C) (me := nI n) (f := P.f) (u := u) (b := b) (K := K) (A := A) (Bg_X P g) cn 0 c D (fun m hm' => by
      obtain ⟨k, k1, k2, _⟩ := q3 m (by show m < (u 7).toNatClampNeg; rw [hcl]; omega)
      have k1 : b m = nI k := k1
      rw [k1]; exact nI_pos (by omega)) h.du c2 c1
    rw [if_neg c0, if_neg (show ¬ u 0 = 1 by rw [c12]; decide), if_neg (show ¬ u 0 = 2 by rw [c12]; decide), if_neg (show ¬ u 0 = 3 by rw [c12]; decide), if_neg c4, if_neg (show ¬ u 0 = 5 by rw [c12]; decide), if_neg c6, if_neg (show ¬ u 0 = 7 by rw [c12]; decide), if_neg (show ¬ u 0 = 8 by rw [c12]; decide), if_neg c9, if_neg c10, if_neg (show ¬ u 0 = 11 by rw [c12]; decide), if_pos c12]
    have hF : F_66 P.nn P.gg P.C (nI n) P.f u b D K A Y = (D', K, A, psl Y Z) := by
      unfold F_66
      rw [bnN_e, hcl]
      exact r1 Y
    rw [hF, bnS_e]
    refine ⟨D', K, A, Z, rfl, fun y hy => ⟨(r5.2.1 y hy).ms, by rw [(r5.2.1 y hy).v.2.2.2.1]; exact hep⟩, Or.inl ⟨Or.inr (Or.inr (Or.inr (Or.inr (Or.inr c12)))), rfl, rfl, r5.1, fun N => ?_, Or.inr (Or.inr (Or.inr (Or.inr (Or.inr ⟨c12, by omega, r5, r6, fun m hm' => r7 m (Nat.zero_le _) (by rw [hcl] at hm'; omega)⟩))))⟩⟩
    have := HV_wt (N := N) r5.2.1
    rw [c12]
    show _ + 1 ≤ 10
    omega
  · have hno : ¬ isN (u 0) := fun z => by
      rcases z with z | z | z | z | z | z
      · exact c0 z
      · exact c4 z
      · exact c6 z
      · exact c9 z
      · exact c10 z
      · exact c12 z
    refine ld hno ?_
    rw [if_neg c0, if_neg c4, if_neg c6, if_neg c9, if_neg c10, if_neg c12]
    simp only [ite_self]

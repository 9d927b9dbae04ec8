/-! another EPOCH; hear of a NODE -/
theorem masks_z {nn gg : Nat} {C me : Int32} {f u b : Nat → Int32} {K A : Int64} : ∀ (k i : Nat) (D : Nat → Nat → Int32), ∃ D' : Nat → Nat → Int32, (∀ Y, G_32 nn gg C me f u b k i D K A Y = bnS (F_35 nn gg C me f u b D' K A Y) (fun D1 K1 A1 Y1 => (D1, K1, A1, Y1))) ∧ ∀ q, q ≠ 8 → D' q = D q
  | 0, i, D => ⟨D, fun _ => rfl, fun _ _ => rfl⟩
  | k + 1, i, D => by
    obtain ⟨D', r1, r2⟩ := masks_z (nn := nn) (gg := gg) (C := C) (me := me) (f := f) (u := u) (b := b) (K := K) (A := A) k (i + 1) (va_up D 8 (upd (D 8) i (mof2 C (mof f C (D 7 8) nn (i * nn) 0 0))))
    exact ⟨D', fun Y => r1 Y, fun q hq => by rw [r2 q hq, va_up_n _ _ hq]⟩
theorem TN_13 : TN 13 = 6565 := rfl
theorem zA_0 : zA 0 = 48 := by decide +kernel
theorem knA_00 : ¬ knA 0 0 = 0 := by decide +kernel
/-- a NODE comes to EPOCH e2 -/
def FLz (P : Pm) (g : Gh) (n e2 : Nat) (D : Nat → Nat → Int32) (D' : Nat → Nat → Int32) (K' A' : Int64) (Z : List Mg) : Prop :=
  D' 0 = upd (upd (D 0) 7 (nI e2)) 8 (g.mp e2) ∧ (∀ q, 0 < q → q < 7 → D' q = D q) ∧
  ((ldB P.f P.nn (nI n) (g.mp e2) = 0 ∧ Z = []) ∨ (¬ ldB P.f P.nn (nI n) (g.mp e2) = 0 ∧ D' 16 960 = -1 ∧ Nn g (D' 16 960) = 13 ∧ D' 7 10 = 0 ∧ Wt 13 Z + Ph g D' K' A' ≤ 6889 ∧ (∀ z ∈ Z, ∃ j, j < P.nn ∧ z = mLI (nI n) D' j ∧ z.1 3 = nI e2) ∧ (∀ j, j < P.nn → mLI (nI n) D' j ∈ Z) ∧ LOr P.nn (nI n) D' Z))
theorem follow_z {P : Pm} {g : Gh} {n e2 : Nat} {u b : Nat → Int32} {D : Nat → Nat → Int32} {K A : Int64} (hnn : P.nn ≤ 6) : ∃ (D' : Nat → Nat → Int32) (K' A' : Int64) (Z : List Mg), (∀ Y, F_29 P.nn P.gg P.C (nI n) P.f u b D K A Y (nI e2) (g.mp e2) = (D', K', A', psl Y Z)) ∧ FLz P g n e2 D D' K' A' Z := by
  by_cases c : ldB P.f P.nn (nI n) (g.mp e2) = 0
  · refine ⟨_, 0, 0, [], fun Y => by unfold F_29 F_33; rw [if_pos c, bnS_e]; rfl, ?_, fun q h1 h2 => ?_, Or.inl ⟨c, rfl⟩⟩
    · (iterate 8 rw [va_up_n _ _ (by decide)]); rw [va_up_s]
    · (iterate 8 rw [va_up_n _ _ (by omega)]); rw [va_up_n _ _ (by omega)]
  · generalize hD0 : va_up D 0 (upd (upd (D 0) 7 (nI e2)) 8 (g.mp e2)) = D0
    generalize hD1 : va_up (va_up (va_up (va_up (va_up (va_up (va_up (va_up D0 7 (upd (upd (upd (upd (upd (D0 7) 9 0) 10 0) 12 0) 13 0) 14 0)) 10 (upd (upd (D0 10) 9 0) 10 0)) 11 (ax_fill (D0 11) 0 48 (-1))) 12 (ax_fill (D0 12) 0 48 0)) 15 (ax_fill (D0 15) 0 512 (-1))) 16 (ax_fill (D0 16) 0 961 (-1))) 17 (ax_fill (D0 17) 0 961 0)) 18 (upd (upd (D0 18) 3 0) 4 (-1)) = D1
    obtain ⟨D2, m1, m2⟩ := masks_z (nn := P.nn) (gg := P.gg) (C := P.C) (me := nI n) (f := P.f) (u := u) (b := b) (K := 0) (A := 0) P.gg 0 (va_up D1 7 (upd (upd (D1 7) 7 (nI e2)) 8 (g.mp e2)))
    obtain ⟨Z, z1, z2, z3, z4, z5⟩ := poll_w (nn := P.nn) (gg := P.gg) (C := P.C) (me := nI n) (f := P.f) (u := u) (b := b) (D := D2) (K := 0) (A := 0) hnn
    have q7 : D2 7 = upd (upd (upd (upd (upd (upd (upd (D0 7) 9 0) 10 0) 12 0) 13 0) 14 0) 7 (nI e2)) 8 (g.mp e2) := by
      rw [m2 7 (by decide), va_up_s, ← hD1]
      (iterate 7 rw [va_up_n _ _ (by decide)])
      rw [va_up_s]
    have q0 : ∀ q, q < 7 → D2 q = D0 q := fun q hq => by
      rw [m2 q (by omega), va_up_n _ _ (by omega), ← hD1]
      (iterate 7 rw [va_up_n _ _ (by omega)])
      rw [va_up_n _ _ (by omega)]
    have q10 : D2 10 = upd (upd (D0 10) 9 0) 10 0 := by
      rw [m2 10 (by decide), va_up_n _ _ (by decide), ← hD1]
      (iterate 6 rw [va_up_n _ _ (by decide)])
      rw [va_up_s]
    have q16 : D2 16 = ax_fill (D0 16) 0 961 (-1) := by
      rw [m2 16 (by decide), va_up_n _ _ (by decide), ← hD1]
      (iterate 2 rw [va_up_n _ _ (by decide)])
      rw [va_up_s]
    have q18 : D2 18 = upd (upd (D0 18) 3 0) 4 (-1) := by
      rw [m2 18 (by decide), va_up_n _ _ (by decide), ← hD1]
      rw [va_up_s]
    have h960 : D2 16 960 = -1 := by rw [q16, ax_fill_in _ _ (by omega) (by omega)]
    have hN : Nn g (D2 16 960) = 13 := by unfold Nn; rw [h960, if_pos (by decide)]
    have h710 : D2 7 10 = 0 := by rw [q7]; (iterate 5 rw [pk_un (by decide)]); rw [pk_us]
    refine ⟨D2, 0, 0, Z, fun Y => ?_, ?_, fun q h1 h2 => ?_, Or.inr ⟨c, h960, hN, h710, ?_, fun z hz => ?_, fun j hj => z4 j hj (by rw [h710]; exact b_0 j), z5.all h710 (fun _ => rfl)⟩⟩
    · have hF : ∀ Y, F_33 P.nn P.gg P.C (nI n) P.f u b D0 K A Y = (D1, 0, 0, Y) := fun Y => by unfold F_33; rw [hD1]
      have hF2 : F_32 P.nn P.gg P.C (nI n) P.f u b D0 K A Y (nI e2) (g.mp e2) = (D2, 0, 0, psl Y Z) := by
        unfold F_32
        rw [hF Y, bnS_e, m1 Y, z1 Y, bnS_e]
      unfold F_29
      rw [if_neg c, hD0, hF2, bnS_e]
    · rw [q0 0 (by decide), ← hD0, va_up_s]
    · rw [q0 q h2, ← hD0, va_up_n _ _ (by omega)]
    · have := z2 13
      unfold Ph
      rw [hN, q10, pk_un (by decide), pk_us, if_neg knA_00, zA_0, TN_13, q18, pk_un (by decide), pk_us]
      show _ + (6565 + 0 + 2 * 48 + 0) ≤ 6889
      omega
    · obtain ⟨j, j1, _, j3⟩ := z3 z hz
      refine ⟨j, j1, j3, ?_⟩
      rw [j3]
      show D2 7 7 = nI e2
      rw [q7, pk_un (by decide), pk_us]
/-- hear -/
def HEy (P : Pm) (g : Gh) (n e e2 : Nat) (u b : Nat → Int32) (D : Nat → Nat → Int32) (K A : Int64) (D' : Nat → Nat → Int32) (K' A' : Int64) (Z : List Mg) : Prop :=
  (e2 < e ∧ D' = D ∧ K' = K ∧ A' = A ∧ Z = []) ∨ (e2 = e ∧ NKz P g n e u b D K A D' K' A' Z) ∨
  (e < e2 ∧ ∃ (D1 : Nat → Nat → Int32) (K1 A1 : Int64) (Z1 Z2 : List Mg), Z = Z1 ++ Z2 ∧ FLz P g n e2 D D1 K1 A1 Z1 ∧ NU P g n e2 D1 K1 ∧ NKz P g n e2 u b D1 K1 A1 D' K' A' Z2)
theorem hear_y {P : Pm} {g : Gh} {n e e2 : Nat} {u b : Nat → Int32} {D : Nat → Nat → Int32} {K A : Int64} {Y : List Mg} (hG : GO g) (hb12 : g.bg ≤ g.sn + 12) (hep : g.ep < 2 ^ 31) (hgg : 0 < P.gg) (hnn : P.nn ≤ 6) (hf : Rg P.nn P.f) (hn : n < P.nn) (h : NU P g n e D K) (hm : MO P g e2 (u, b)) (hs : MS P g (u, b)) :
    ∃ (D' : Nat → Nat → Int32) (K' A' : Int64) (Z : List Mg), F_55 P.nn P.gg P.C (nI n) P.f u b D K A Y = (D', K', A', psl Y Z) ∧ (∀ z ∈ Z, MS P g z ∧ z.1 3 = nI e2) ∧ HEy P g n e e2 u b D K A D' K' A' Z := by
  have h3 : u 3 = nI e2 := hm.ep.1
  have h4 : u 4 = g.mp e2 := hm.ep.2.2
  have he := h.ep.2.1
  have he2 := hm.ep.2.1
  unfold F_55
  rw [h.ep.1, h3]
  by_cases c1 : nI e ≤ nI e2
  · rw [if_pos c1]
    have c1 := (nI_leI (by omega) (by omega)).mp c1
    by_cases c2 : nI e2 ≤ nI e
    · rw [if_pos c2]
      have c2 := (nI_leI (by omega) (by omega)).mp c2
      have : e2 = e := by omega
      subst this
      obtain ⟨D', K', A', Z, r1, r2, r3⟩ := node_z (A := A) (Y := Y) hG hb12 hgg hnn hf hn h hm hs
      exact ⟨D', K', A', Z, r1, r2, Or.inr (Or.inl ⟨rfl, r3⟩)⟩
    · rw [if_neg c2, h4]
      have hlt : e < e2 := by
        rcases Nat.lt_or_ge e e2 with q | q
        · exact q
        · exact absurd ((nI_leI (by omega) (by omega)).mpr q) c2
      obtain ⟨D1, K1, A1, Z1, f1, f2⟩ := follow_z (P := P) (g := g) (n := n) (e2 := e2) (u := u) (b := b) (D := D) (K := K) (A := A) hnn
      obtain ⟨D', K', A', Y', r1, r2, _, _⟩ := follow_lem (u := u) (b := b) (K := K) (A := A) (Y := []) h.du h.rp h.rk h.ni c1 he2 (Nat.le_trans h.ep.2.2.2 c1) (fun y hy => by cases hy)
      have e3 := (f1 []).symm.trans r1
      rw [Prod.mk.injEq, Prod.mk.injEq] at e3
      obtain ⟨e31, e32, _⟩ := e3
      subst e31 e32
      rw [f1 Y, bnS_e]
      obtain ⟨D2, K2, A2, Z2, s1, s2, s3⟩ := node_z (A := A1) (Y := psl Y Z1) hG hb12 hgg hnn hf hn r2 hm hs
      refine ⟨D2, K2, A2, Z1 ++ Z2, by rw [s1, psl_app], fun z hz => ?_, Or.inr (Or.inr ⟨hlt, D1, K1, A1, Z1, Z2, rfl, f2, r2, s3⟩)⟩
      rcases List.mem_append.mp hz with y | y
      · rcases f2.2.2 with ⟨_, q⟩ | ⟨_, _, _, _, _, q, _⟩
        · rw [q] at y; cases y
        · obtain ⟨j, j1, j2, j3⟩ := q z y
          refine ⟨?_, j3⟩
          rw [j2]
          exact MS.no (show ¬ (4 : Int32) = 5 by decide) (show ¬ (4 : Int32) = 10 by decide) (show ¬ (4 : Int32) = 9 by decide) (show ¬ (4 : Int32) = 12 by decide)
      · exact s2 z y
  · rw [if_neg c1]
    refine ⟨D, K, A, [], rfl, fun z hz => (by cases hz), Or.inl ⟨?_, rfl, rfl, rfl, rfl⟩⟩
    rcases Nat.lt_or_ge e2 e with q | q
    · exact q
    · exact absurd ((nI_leI (by omega) (by omega)).mpr q) c1

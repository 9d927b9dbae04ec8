/-! what stays on a DISK -/
def DKF (X : Int32 → Prop) (D D' : Nat → Nat → Int32) : Prop := (∀ t, ¬ t < 0 → stb D t → stb D' t ∨ X t) ∧ (∀ t, ¬ t < 0 → mem D t → mem D' t ∨ X t)
theorem DKF.rf (X : Int32 → Prop) (D : Nat → Nat → Int32) : DKF X D D := ⟨fun _ _ h => Or.inl h, fun _ _ h => Or.inl h⟩
theorem DKF.tr {X : Int32 → Prop} {D D1 D' : Nat → Nat → Int32} (h : DKF X D D1) (h2 : DKF X D1 D') : DKF X D D' := ⟨fun t ht hs => by
  rcases h.1 t ht hs with q | q
  · exact h2.1 t ht q
  · exact Or.inr q, fun t ht hs => by
  rcases h.2 t ht hs with q | q
  · exact h2.2 t ht q
  · exact Or.inr q⟩
theorem DKF.fl {X : Int32 → Prop} {D D2 : Nat → Nat → Int32} (h6 : D2 6 = D 6) (h5 : ∀ s, s < 280 → D2 5 s = -1) : DKF X D D2 := ⟨fun t _ ⟨s, s1, s2, _⟩ => Or.inl ⟨s, s1, by rw [h6]; exact s2, h5 s s1⟩, fun t _ ⟨s, s1, s2⟩ => Or.inl ⟨s, s1, by rw [h6]; exact s2⟩⟩
theorem store_f {B : (Nat → Int32) → Prop} {X : Int32 → Prop} {nn gg : Nat} {C me : Int32} {f u b : Nat → Int32} {D D' : Nat → Nat → Int32} {K A K' A' : Int64} {Y Y' : List Mg} (hB : BX B) (h : DUD B D) (hF : F_59 nn gg C me f u b D K A Y = (D', K', A', Y')) : DKF X D D' := by
  have wr : ∀ (D2 : Nat → Nat → Int32) (Y2 : List Mg), (if freB (D2 6) (D2 5) = -1 then (D2, K, A, Y2) else bnN ((freB (D2 6) (D2 5)).toNatClampNeg) (fun fr_ => bnN ((D2 1 4).toNatClampNeg) (fun c => (va_up (va_up (va_up (va_up (va_up D2 1 (upd (D2 1) 4 (nI (c + 1)))) 3 (wrF b (D2 3) c (ostB (D2 2) fr_))) 4 (upd (D2 4) c (nI fr_))) 5 (upd (D2 5) fr_ (nI c))) 6 (upd (D2 6) fr_ (u 5)), K, A, Y2)))) = ((D', K', A', Y') : St) → DKF X D2 D' := fun D2 Y2 hF => by
    rcases freB_or (D2 6) (D2 5) with z | ⟨j, j1, j2, j3, j4⟩
    · rw [if_pos z] at hF
      rw [← (Prod.mk.inj hF).1]; exact DKF.rf X D2
    · have hcl : (freB (D2 6) (D2 5)).toNatClampNeg = j := by rw [j2, nI_clamp (by omega)]
      rw [if_neg (by rw [j2]; exact nIneg (by omega)), bnN_e, hcl, bnN_e] at hF
      have e := (Prod.mk.inj hF).1
      have g5 : D' 5 = upd (D2 5) j (nI (D2 1 4).toNatClampNeg) := by rw [← e, va_up_n _ _ (by decide), va_up_s]
      have g6 : D' 6 = upd (D2 6) j (u 5) := by rw [← e, va_up_s]
      refine ⟨fun t ht ⟨s, s1, s2, s3⟩ => ?_, fun t ht ⟨s, s1, s2⟩ => ?_⟩
      · by_cases q : s = j
        · rw [q, j3] at s2; exact absurd (by rw [← s2]; decide) ht
        · exact Or.inl ⟨s, s1, by rw [g6, pk_un q]; exact s2, by rw [g5, pk_un q]; exact s3⟩
      · by_cases q : s = j
        · rw [q, j3] at s2; exact absurd (by rw [← s2]; decide) ht
        · exact Or.inl ⟨s, s1, by rw [g6, pk_un q]; exact s2⟩
  unfold F_59 at hF
  rcases sloB_cs (D 6) (u 5) with ⟨z1, z2⟩ | ⟨j, j1, j2, j3⟩
  · rw [if_pos z1] at hF
    by_cases c : D 1 4 = 32
    · obtain ⟨D2, z, r1, r2, r3, r4, r5, r6⟩ := DKR.fl (nn := nn) (gg := gg) (C := C) (me := me) (f := f) (u := u) (b := b) (K := K) (A := A) hB h (by rw [c]; decide)
      rw [if_pos c, r1 Y, bnS_e] at hF
      exact (DKF.fl r4 r5).tr (wr D2 _ hF)
    · rw [if_neg c] at hF
      exact wr D _ hF
  · rw [if_neg (by rw [j2]; exact nIneg (by omega)), bnN_e] at hF
    split at hF
    · rw [← (Prod.mk.inj hF).1]; exact DKF.rf X D
    · rw [← (Prod.mk.inj hF).1]; exact DKF.rf X D
theorem drop_f {B : (Nat → Int32) → Prop} {X : Int32 → Prop} {nn gg : Nat} {C me : Int32} {f u b : Nat → Int32} {K A : Int64} (hB : BX B) :
    ∀ (k i : Nat) (D D' : Nat → Nat → Int32) (K' A' : Int64) (Y Y' : List Mg), (∀ m, i ≤ m → m < i + k → X (b m)) → (∀ m, i ≤ m → m < i + k → ¬ b m < 0) → DUD B D → G_66 nn gg C me f u b k i D K A Y = (D', K', A', Y') → DKF X D D'
  | 0, i, D, D', K', A', Y, Y', _, _, _, hF => by
    rw [← (Prod.mk.inj (show (D, K, A, Y) = (D', K', A', Y') from hF)).1]; exact DKF.rf X D
  | k + 1, i, D, D', K', A', Y, Y', hX, hb, h, hF => by
    have hXi := hX i (Nat.le_refl _) (by omega)
    rw [G_66.eq_2] at hF
    rcases sloB_cs (D 6) (b i) with ⟨z1, z2⟩ | ⟨j, j1, j2, j3⟩
    · rw [if_pos z1] at hF
      exact drop_f hB k (i + 1) D D' K' A' Y Y' (fun m a b => hX m (by omega) (by omega)) (fun m a b => hb m (by omega) (by omega)) h hF
    · have hcl : (sloB (D 6) (b i)).toNatClampNeg = j := by rw [j2, nI_clamp (by omega)]
      rw [if_neg (by rw [j2]; exact nIneg (by omega)), bnN_e, hcl] at hF
      have er : ∀ (D2 : Nat → Nat → Int32) (c2 : Nat) (Y2 : List Mg), DUD B D2 → D2 6 = D 6 → D2 1 4 = nI c2 → c2 < 32 → bnN ((D2 1 4).toNatClampNeg) (fun c => if D2 5 j < 0 then G_66 nn gg C me f u b k (i + 1) (va_up (va_up (va_up (va_up (va_up D2 1 (upd (D2 1) 4 (nI (c + 1)))) 3 (erF (D2 3) c)) 4 (upd (D2 4) c (nI j))) 5 (upd (D2 5) j (nI c))) 6 (upd (D2 6) j (-1))) K A Y2 else bnN ((D2 5 j).toNatClampNeg) (fun kk => G_66 nn gg C me f u b k (i + 1) (va_up (va_up (va_up D2 1 (upd (D2 1) 4 (nI c))) 3 (erF (D2 3) kk)) 6 (upd (D2 6) j (-1))) K A Y2)) = ((D', K', A', Y') : St) → DKF X D2 D' := fun D2 c2 Y2 n2 n3 n4 n5 hF => by
        have hcc : (D2 1 4).toNatClampNeg = c2 := by rw [n4, nI_clamp (by omega)]
        rw [bnN_e, hcc] at hF
        have one : ∀ D3 : Nat → Nat → Int32, D3 6 = upd (D2 6) j (-1) → (∀ s, s < 280 → s ≠ j → D3 5 s = D2 5 s) → DKF X D2 D3 := fun D3 p5 p6 => by
          refine ⟨fun t ht ⟨s, s1, s2, s3⟩ => ?_, fun t ht ⟨s, s1, s2⟩ => ?_⟩
          · by_cases q : s = j
            · right; rw [← s2, q, n3, j3]; exact hXi
            · exact Or.inl ⟨s, s1, by rw [p5, pk_un q]; exact s2, by rw [p6 s s1 q]; exact s3⟩
          · by_cases q : s = j
            · right; rw [← s2, q, n3, j3]; exact hXi
            · exact Or.inl ⟨s, s1, by rw [p5, pk_un q]; exact s2⟩
        by_cases q : D2 5 j < 0
        · rw [if_pos q] at hF
          obtain ⟨p1, _⟩ := er_lem hB n2 n4 n5 j1 q
          exact (one _ (by rw [va_up_s]) (fun s _ e => by rw [va_up_n _ _ (by decide), va_up_s, pk_un e])).tr (drop_f hB k (i + 1) _ D' K' A' _ Y' (fun m a b => hX m (by omega) (by omega)) (fun m a b => hb m (by omega) (by omega)) p1 hF)
        · rw [if_neg q] at hF
          have hkk : ∃ kk, kk < c2 ∧ D2 5 j = nI kk := by
            obtain ⟨c', hc', ec', h1, h2, _⟩ := n2
            have : c' = c2 := nI_inj (by omega) (by omega) (ec'.symm.trans n4)
            subst this
            rcases h2 j j1 with y | ⟨m, m1, m2, _⟩
            · rw [y] at q; exact absurd (by decide) q
            · exact ⟨m, m1, m2⟩
          obtain ⟨kk, kk1, kk2⟩ := hkk
          have hck : (D2 5 j).toNatClampNeg = kk := by rw [kk2, nI_clamp (by omega)]
          obtain ⟨p1, _⟩ := er2_lem hB n2 n4 (by omega) j1 kk1 kk2
          rw [bnN_e, hck] at hF
          exact (one _ (by rw [va_up_s]) (fun s _ e => by (iterate 3 rw [va_up_n _ _ (by decide)]))).tr (drop_f hB k (i + 1) _ D' K' A' _ Y' (fun m a b => hX m (by omega) (by omega)) (fun m a b => hb m (by omega) (by omega)) p1 hF)
      obtain ⟨c, c1, hc⟩ := DUD.cnt h
      by_cases e32 : D 1 4 = 32
      · obtain ⟨D2, z, r1, r2, r3, r4, r5, r6⟩ := DKR.fl (nn := nn) (gg := gg) (C := C) (me := me) (f := f) (u := u) (b := b) (K := K) (A := A) hB h (by rw [e32]; decide)
        rw [if_pos e32, r1 Y, bnS_e] at hF
        exact (DKF.fl r4 r5).tr (er D2 0 _ r2 r4 r3 (by omega) hF)
      · have hlt : c < 32 := by
          rcases Nat.lt_or_ge c 32 with y | y
          · exact y
          · exact absurd (by rw [hc, show c = 32 by omega]; rfl) e32
        rw [if_neg e32] at hF
        exact er D c _ h rfl hc hlt hF
/-- a MESSAGE at a NODE: what stays on its DISK -/
theorem nk_f {P : Pm} {g : Gh} {l j : Nat} {u b : Nat → Int32} {D D' : Nat → Nat → Int32} {K A K' A' : Int64} {Y Z : List Mg} (h : NU P g j g.ep D K) (hm : MO P g g.ep (u, b)) (hk : NK2 P g l j u b D K A D' K' A' Y Z) (hF : F_55_k P.nn P.gg P.C (nI j) P.f u b D K A Y = (D', K', A', psl Y Z)) : DKF (fun t => u 0 = 12 ∧ ∃ m, m < (u 7).toNatClampNeg ∧ b m = t) D D' := by
  have same : D' 5 = D 5 → D' 6 = D 6 → DKF (fun t => u 0 = 12 ∧ ∃ m, m < (u 7).toNatClampNeg ∧ b m = t) D D' := fun e5 e6 => ⟨fun t _ ⟨s, s1, s2, s3⟩ => Or.inl ⟨s, s1, by rw [e6]; exact s2, by rw [e5]; exact s3⟩, fun t _ ⟨s, s1, s2⟩ => Or.inl ⟨s, s1, by rw [e6]; exact s2⟩⟩
  rcases hk with ⟨hn, _, _, _, hr⟩ | ⟨_, _, hL⟩ | ⟨_, _, e, _⟩
  · rcases hr with ⟨_, e, _⟩ | ⟨_, e, _⟩ | ⟨_, e, _⟩ | ⟨_, e, _⟩ | ⟨c10, _⟩ | ⟨c12, _⟩
    · rw [e]; exact DKF.rf _ _
    · rw [e]; exact DKF.rf _ _
    · rw [e]; exact DKF.rf _ _
    · rw [e]; exact DKF.rf _ _
    · unfold F_55_k at hF
      rw [if_neg (by rw [c10]; decide), if_neg (show ¬ u 0 = 1 by rw [c10]; decide), if_neg (show ¬ u 0 = 2 by rw [c10]; decide), if_neg (show ¬ u 0 = 3 by rw [c10]; decide), if_neg (show ¬ u 0 = 4 by rw [c10]; decide), if_neg (show ¬ u 0 = 5 by rw [c10]; decide), if_neg (show ¬ u 0 = 6 by rw [c10]; decide), if_neg (show ¬ u 0 = 7 by rw [c10]; decide), if_neg (show ¬ u 0 = 8 by rw [c10]; decide), if_neg (show ¬ u 0 = 9 by rw [c10]; decide), if_pos c10] at hF
      obtain ⟨D4, K4, A4, Y4, h4⟩ : ∃ D4 K4 A4 Y4, F_59 P.nn P.gg P.C (nI j) P.f u b D K A Y = (D4, K4, A4, Y4) := ⟨_, _, _, _, rfl⟩
      rw [h4, bnS_e] at hF
      have e := (Prod.mk.inj hF).1
      rw [← e]
      exact store_f (Bg_X P g) h.du h4
    · obtain ⟨n', q1, q2, q3⟩ := hm.dr c12
      unfold F_55_k at hF
      rw [if_neg (by rw [c12]; decide), if_neg (show ¬ u 0 = 1 by rw [c12]; decide), if_neg (show ¬ u 0 = 2 by rw [c12]; decide), if_neg (show ¬ u 0 = 3 by rw [c12]; decide), if_neg (show ¬ u 0 = 4 by rw [c12]; decide), if_neg (show ¬ u 0 = 5 by rw [c12]; decide), if_neg (show ¬ u 0 = 6 by rw [c12]; decide), if_neg (show ¬ u 0 = 7 by rw [c12]; decide), if_neg (show ¬ u 0 = 8 by rw [c12]; decide), if_neg (show ¬ u 0 = 9 by rw [c12]; decide), if_neg (show ¬ u 0 = 10 by rw [c12]; decide), if_neg (show ¬ u 0 = 11 by rw [c12]; decide), if_pos c12] at hF
      obtain ⟨D4, K4, A4, Y4, h4⟩ : ∃ D4 K4 A4 Y4, F_66 P.nn P.gg P.C (nI j) P.f u b D K A Y = (D4, K4, A4, Y4) := ⟨_, _, _, _, rfl⟩
      rw [h4, bnS_e] at hF
      have e := (Prod.mk.inj hF).1
      rw [← e]
      unfold F_66 at h4
      rw [bnN_e] at h4
      exact drop_f (Bg_X P g) _ 0 D D4 K4 A4 Y Y4 (fun m _ hm => ⟨c12, m, by omega, rfl⟩) (fun m _ hm => by
        obtain ⟨k, k1, k2, _⟩ := q3 m (by show m < (u 7).toNatClampNeg; omega)
        have k1 : b m = nI k := k1
        rw [k1]; exact nI_pos (by omega)) h.du h4
  · obtain ⟨D1, K1, Z1, Z2, _, _, _, _, _, _, _, _, _, q, _⟩ := hL
    exact same (q 5 (by decide)) (q 6 (by decide))
  · rw [e]; exact DKF.rf _ _

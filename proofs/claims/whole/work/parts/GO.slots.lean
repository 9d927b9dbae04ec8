/-! blocks of a DISK, one by one -/
def RSl (X : Int32 → Prop) (W : Int32 → Prop) (D D' : Nat → Nat → Int32) : Prop := ∀ s, s < 280 → (D' 6 s = D 6 s ∧ (D' 5 s = D 5 s ∨ D' 5 s = -1)) ∨ (D' 6 s = -1 ∧ X (D 6 s)) ∨ (D 6 s = -1 ∧ W (D' 6 s))
theorem RSl.rf {X W : Int32 → Prop} (D : Nat → Nat → Int32) : RSl X W D D := fun _ _ => Or.inl ⟨rfl, Or.inl rfl⟩
theorem RSl.trX {X : Int32 → Prop} {D D1 D' : Nat → Nat → Int32} (h : RSl X (fun _ => False) D D1) (h2 : RSl X (fun _ => False) D1 D') : RSl X (fun _ => False) D D' := fun s hs => by
  rcases h s hs with ⟨a1, a2⟩ | ⟨a1, a2⟩ | ⟨_, a⟩
  · rcases h2 s hs with ⟨b1, b2⟩ | ⟨b1, b2⟩ | ⟨_, b⟩
    · refine Or.inl ⟨by rw [b1, a1], ?_⟩
      rcases b2 with b2 | b2
      · rw [b2]; exact a2
      · exact Or.inr b2
    · exact Or.inr (Or.inl ⟨b1, by rw [← a1]; exact b2⟩)
    · exact absurd b id
  · rcases h2 s hs with ⟨b1, b2⟩ | ⟨b1, b2⟩ | ⟨_, b⟩
    · exact Or.inr (Or.inl ⟨by rw [b1, a1], a2⟩)
    · exact Or.inr (Or.inl ⟨b1, a2⟩)
    · exact absurd b id
  · exact absurd a id
theorem RSl.fl {X W : Int32 → Prop} {D D2 : Nat → Nat → Int32} (h6 : D2 6 = D 6) (h5 : ∀ s, s < 280 → D2 5 s = -1) : RSl X W D D2 := fun s hs => Or.inl ⟨by rw [h6], Or.inr (h5 s hs)⟩
theorem store_r {B : (Nat → Int32) → Prop} {X : Int32 → Prop} {nn gg : Nat} {C me : Int32} {f u b : Nat → Int32} {D D' : Nat → Nat → Int32} {K A K' A' : Int64} {Y Y' : List Mg} (hB : BX B) (h : DUD B D) (hF : F_59 nn gg C me f u b D K A Y = (D', K', A', Y')) : RSl X (fun t => t = u 5) D D' := by
  have wr : ∀ (D2 : Nat → Nat → Int32) (Y2 : List Mg), (if freB (D2 6) (D2 5) = -1 then (D2, K, A, Y2) else bnN ((freB (D2 6) (D2 5)).toNatClampNeg) (fun fr_ => bnN ((D2 1 4).toNatClampNeg) (fun c => (va_up (va_up (va_up (va_up (va_up D2 1 (upd (D2 1) 4 (nI (c + 1)))) 3 (wrF b (D2 3) c (ostB (D2 2) fr_))) 4 (upd (D2 4) c (nI fr_))) 5 (upd (D2 5) fr_ (nI c))) 6 (upd (D2 6) fr_ (u 5)), K, A, Y2)))) = ((D', K', A', Y') : St) → D' = D2 ∨ ∃ j c, j < 280 ∧ D2 6 j = -1 ∧ D' 5 = upd (D2 5) j c ∧ D' 6 = upd (D2 6) j (u 5) := fun D2 Y2 hF => by
    rcases freB_or (D2 6) (D2 5) with z | ⟨j, j1, j2, j3, j4⟩
    · rw [if_pos z] at hF
      exact Or.inl (Prod.mk.inj hF).1.symm
    · have hcl : (freB (D2 6) (D2 5)).toNatClampNeg = j := by rw [j2, nI_clamp (by omega)]
      rw [if_neg (by rw [j2]; exact nIneg (by omega)), bnN_e, hcl, bnN_e] at hF
      have e := (Prod.mk.inj hF).1
      exact Or.inr ⟨j, _, j1, j3, by rw [← e, va_up_n _ _ (by decide), va_up_s], by rw [← e, va_up_s]⟩
  have fin : ∀ (D2 : Nat → Nat → Int32), D2 6 = D 6 → (∀ s, s < 280 → D2 5 s = D 5 s ∨ D2 5 s = -1) → (D' = D2 ∨ ∃ j c, j < 280 ∧ D2 6 j = -1 ∧ D' 5 = upd (D2 5) j c ∧ D' 6 = upd (D2 6) j (u 5)) → RSl X (fun t => t = u 5) D D' := fun D2 e6 e5 hw s hs => by
    rcases hw with q | ⟨j, c, _, q2, q3, q4⟩
    · rw [q]; exact Or.inl ⟨by rw [e6], e5 s hs⟩
    · by_cases e : s = j
      · right; right
        rw [e] at hs ⊢
        exact ⟨by rw [← e6]; exact q2, by rw [q4, pk_us]⟩
      · left
        rw [q3, q4, pk_un e, pk_un e, e6]
        exact ⟨rfl, e5 s hs⟩
  unfold F_59 at hF
  rcases sloB_cs (D 6) (u 5) with ⟨z1, z2⟩ | ⟨j, j1, j2, j3⟩
  · rw [if_pos z1] at hF
    by_cases c : D 1 4 = 32
    · obtain ⟨D2, z, r1, r2, r3, r4, r5, r6⟩ := DKR.fl (nn := nn) (gg := gg) (C := C) (me := me) (f := f) (u := u) (b := b) (K := K) (A := A) hB h (by rw [c]; decide)
      rw [if_pos c, r1 Y, bnS_e] at hF
      exact fin D2 r4 (fun s hs => Or.inr (r5 s hs)) (wr D2 _ hF)
    · rw [if_neg c] at hF
      exact fin D rfl (fun s hs => Or.inl rfl) (wr D _ hF)
  · rw [if_neg (by rw [j2]; exact nIneg (by omega)), bnN_e] at hF
    split at hF
    · rw [← (Prod.mk.inj hF).1]; exact RSl.rf D
    · rw [← (Prod.mk.inj hF).1]; exact RSl.rf D
theorem drop_r {B : (Nat → Int32) → Prop} {X : Int32 → Prop} {nn gg : Nat} {C me : Int32} {f u b : Nat → Int32} {K A : Int64} (hB : BX B) :
    ∀ (k i : Nat) (D D' : Nat → Nat → Int32) (K' A' : Int64) (Y Y' : List Mg), (∀ m, i ≤ m → m < i + k → X (b m)) → DUD B D → G_66 nn gg C me f u b k i D K A Y = (D', K', A', Y') → RSl X (fun _ => False) D D'
  | 0, i, D, D', K', A', Y, Y', _, _, hF => by
    rw [← (Prod.mk.inj (show (D, K, A, Y) = (D', K', A', Y') from hF)).1]; exact RSl.rf D
  | k + 1, i, D, D', K', A', Y, Y', hX, h, hF => by
    have hXi := hX i (Nat.le_refl _) (by omega)
    rw [G_66.eq_2] at hF
    rcases sloB_cs (D 6) (b i) with ⟨z1, z2⟩ | ⟨j, j1, j2, j3⟩
    · rw [if_pos z1] at hF
      exact drop_r hB k (i + 1) D D' K' A' Y Y' (fun m a b => hX m (by omega) (by omega)) h hF
    · have hcl : (sloB (D 6) (b i)).toNatClampNeg = j := by rw [j2, nI_clamp (by omega)]
      rw [if_neg (by rw [j2]; exact nIneg (by omega)), bnN_e, hcl] at hF
      have er : ∀ (D2 : Nat → Nat → Int32) (c2 : Nat) (Y2 : List Mg), DUD B D2 → D2 6 = D 6 → D2 1 4 = nI c2 → c2 < 32 → bnN ((D2 1 4).toNatClampNeg) (fun c => if D2 5 j < 0 then G_66 nn gg C me f u b k (i + 1) (va_up (va_up (va_up (va_up (va_up D2 1 (upd (D2 1) 4 (nI (c + 1)))) 3 (erF (D2 3) c)) 4 (upd (D2 4) c (nI j))) 5 (upd (D2 5) j (nI c))) 6 (upd (D2 6) j (-1))) K A Y2 else bnN ((D2 5 j).toNatClampNeg) (fun kk => G_66 nn gg C me f u b k (i + 1) (va_up (va_up (va_up D2 1 (upd (D2 1) 4 (nI c))) 3 (erF (D2 3) kk)) 6 (upd (D2 6) j (-1))) K A Y2)) = ((D', K', A', Y') : St) → RSl X (fun _ => False) D2 D' := fun D2 c2 Y2 n2 n3 n4 n5 hF => by
        have hcc : (D2 1 4).toNatClampNeg = c2 := by rw [n4, nI_clamp (by omega)]
        rw [bnN_e, hcc] at hF
        have one : ∀ D3 : Nat → Nat → Int32, D3 6 = upd (D2 6) j (-1) → (∀ s, s < 280 → s ≠ j → D3 5 s = D2 5 s) → RSl X (fun _ => False) D2 D3 := fun D3 p5 p6 s hs => by
          by_cases q : s = j
          · right; left
            rw [q, p5, pk_us, n3, j3]
            exact ⟨rfl, hXi⟩
          · left
            rw [p5, pk_un q]
            exact ⟨rfl, Or.inl (p6 s hs q)⟩
        by_cases q : D2 5 j < 0
        · rw [if_pos q] at hF
          obtain ⟨p1, _⟩ := er_lem hB n2 n4 n5 j1 q
          exact (one _ (by rw [va_up_s]) (fun s _ e => by rw [va_up_n _ _ (by decide), va_up_s, pk_un e])).trX (drop_r hB k (i + 1) _ D' K' A' _ Y' (fun m a b => hX m (by omega) (by omega)) p1 hF)
        · rw [if_neg q] at hF
          have hkk : ∃ kk, kk < c2 ∧ D2 5 j = nI kk := by
            obtain ⟨c', hc', ec', h1, h2, _⟩ := n2
            have : c' = c2 := nI_inj (by omega) (by omega) (ec'.symm.trans n4)
            subst this
            rcases h2 j j1 with y | ⟨m, m1, m2, _⟩
            · rw [y] at q; exact absurd (by decide) q
            · exact ⟨m, m1, m2⟩
          obtain ⟨kk, kk1, kk2⟩ := hkk
          have hck : (D2 5 j).toNatClampNeg = kk := by rw [kk2, nI_clamp (by omega)]
          obtain ⟨p1, _⟩ := er2_lem hB n2 n4 (by omega) j1 kk1 kk2
          rw [bnN_e, hck] at hF
          exact (one _ (by rw [va_up_s]) (fun s _ e => by (iterate 3 rw [va_up_n _ _ (by decide)]))).trX (drop_r hB k (i + 1) _ D' K' A' _ Y' (fun m a b => hX m (by omega) (by omega)) p1 hF)
      obtain ⟨c, c1, hc⟩ := DUD.cnt h
      by_cases e32 : D 1 4 = 32
      · obtain ⟨D2, z, r1, r2, r3, r4, r5, r6⟩ := DKR.fl (nn := nn) (gg := gg) (C := C) (me := me) (f := f) (u := u) (b := b) (K := K) (A := A) hB h (by rw [e32]; decide)
        rw [if_pos e32, r1 Y, bnS_e] at hF
        exact (RSl.fl r4 r5).trX (er D2 0 _ r2 r4 r3 (by omega) hF)
      · have hlt : c < 32 := by
          rcases Nat.lt_or_ge c 32 with y | y
          · exact y
          · exact absurd (by rw [hc, show c = 32 by omega]; rfl) e32
        rw [if_neg e32] at hF
        exact er D c _ h rfl hc hlt hF
theorem f55_12 {P : Pm} {j : Nat} {u b : Nat → Int32} {D D' : Nat → Nat → Int32} {K A K' A' : Int64} {Y Y' : List Mg} (c12 : u 0 = 12) (hF : F_55_k P.nn P.gg P.C (nI j) P.f u b D K A Y = (D', K', A', Y')) : ∃ K4 A4 Y4, G_66 P.nn P.gg P.C (nI j) P.f u b (u 7).toNatClampNeg 0 D K A Y = (D', K4, A4, Y4) := by
  unfold F_55_k at hF
  rw [if_neg (by rw [c12]; decide), if_neg (show ¬ u 0 = 1 by rw [c12]; decide), if_neg (show ¬ u 0 = 2 by rw [c12]; decide), if_neg (show ¬ u 0 = 3 by rw [c12]; decide), if_neg (show ¬ u 0 = 4 by rw [c12]; decide), if_neg (show ¬ u 0 = 5 by rw [c12]; decide), if_neg (show ¬ u 0 = 6 by rw [c12]; decide), if_neg (show ¬ u 0 = 7 by rw [c12]; decide), if_neg (show ¬ u 0 = 8 by rw [c12]; decide), if_neg (show ¬ u 0 = 9 by rw [c12]; decide), if_neg (show ¬ u 0 = 10 by rw [c12]; decide), if_neg (show ¬ u 0 = 11 by rw [c12]; decide), if_pos c12] at hF
  obtain ⟨D4, K4, A4, Y4, h4⟩ : ∃ D4 K4 A4 Y4, F_66 P.nn P.gg P.C (nI j) P.f u b D K A Y = (D4, K4, A4, Y4) := ⟨_, _, _, _, rfl⟩
  rw [h4, bnS_e] at hF
  have e := (Prod.mk.inj hF).1
  unfold F_66 at h4
  rw [bnN_e, e] at h4
  exact ⟨K4, A4, Y4, h4⟩
/-- blocks of all DISKS in a hand-over -/
theorem St1.sl {P : Pm} {g : Gh} {l n : Nat} {x : Mg} {Z : List Mg} {S S' : SS} (hP : PmO P) (hl : l < P.nn) (h : RG P g l S) (hst : St1 P g l x Z S S') (hn : n < P.nn) : RSl (fun t => x.1 0 = 12 ∧ x.1 2 = nI n ∧ hvT x t) (fun t => x.1 0 = 10 ∧ x.1 2 = nI n ∧ x.1 5 = t) (dN S n) (dN S' n) := by
  have same : dN S' n 5 = dN S n 5 → dN S' n 6 = dN S n 6 → RSl (fun t => x.1 0 = 12 ∧ x.1 2 = nI n ∧ hvT x t) (fun t => x.1 0 = 10 ∧ x.1 2 = nI n ∧ x.1 5 = t) (dN S n) (dN S' n) := fun e5 e6 s _ => Or.inl ⟨by rw [e6], Or.inl (by rw [e5])⟩
  rcases hst.cs hP.nn hl with ⟨_, e, _⟩ | ⟨j, j1, j2, j3, _, _, e1, _, _, _, hr, hF⟩ | ⟨_, _, _, _, e1, e⟩ | ⟨_, _, _, _, _, e, _⟩
  · exact same (by show S'.2.2.2.1 n 5 = _; rw [e]) (by show S'.2.2.2.1 n 6 = _; rw [e])
  · by_cases c : n = j
    · subst c
      rcases hr with ⟨_, e, _⟩ | ⟨_, e, _⟩ | ⟨_, e, _⟩ | ⟨_, e, _⟩ | ⟨c10, _⟩ | ⟨c12, _⟩
      · rw [e]; exact RSl.rf _
      · rw [e]; exact RSl.rf _
      · rw [e]; exact RSl.rf _
      · rw [e]; exact RSl.rf _
      · obtain ⟨K4, A4, Y4, w⟩ := f55_10 c10 hF
        intro s hs
        rcases store_r (X := fun t => x.1 0 = 12 ∧ x.1 2 = nI n ∧ hvT x t) (Bg_X P g) (h.nu hn).du w s hs with q | q | ⟨q1, q2⟩
        · exact Or.inl q
        · exact Or.inr (Or.inl q)
        · exact Or.inr (Or.inr ⟨q1, c10, j2, q2.symm⟩)
      · obtain ⟨K4, A4, Y4, w⟩ := f55_12 c12 hF
        intro s hs
        rcases drop_r (X := fun t => x.1 0 = 12 ∧ x.1 2 = nI n ∧ hvT x t) (Bg_X P g) _ 0 _ _ _ _ _ _ (fun m _ hm => ⟨c12, j2, m, by omega, rfl⟩) (h.nu hn).du w s hs with q | q | ⟨_, q⟩
        · exact Or.inl q
        · exact Or.inr (Or.inl q)
        · exact absurd q id
    · rw [e1 n c]; exact RSl.rf _
  · by_cases c : n = l
    · subst c
      obtain ⟨_, _, _, _, _, _, _, _, _, _, _, _, _, q, _⟩ := e
      exact same (q 5 (by decide)) (q 6 (by decide))
    · rw [(e1 n c).1]; exact RSl.rf _
  · exact same (by show S'.2.2.2.1 n 5 = _; rw [e]) (by show S'.2.2.2.1 n 6 = _; rw [e])

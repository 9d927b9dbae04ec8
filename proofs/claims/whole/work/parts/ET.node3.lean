/-! flush, store, dropAll of a NODE -/
theorem nflush {P : Pm} {g : Gh} {n e : Nat} {u b : Nat → Int32} {D : Nat → Nat → Int32} {K A : Int64} {Y : List Mg} (hG : GO g) (hn : n < P.nn) (h : NU P g n e D K) (hY : MOL P g Y) :
    ∃ (g' : Gh) (D' : Nat → Nat → Int32) (Y' : List Mg), F_60 P.nn P.gg P.C (nI n) P.f u b D K A Y = (D', K, A, Y') ∧ NG g g' n ∧ NU P g' n e D' K ∧ MOL P g' Y' ∧ D' 1 4 = 0 ∧ (∀ q, q ≠ 1 → q ≠ 2 → q ≠ 5 → D' q = D q) ∧ (∀ s, s < 280 → D' 5 s = -1) := by
  obtain ⟨D', Y', r1, r2, r3, r4, r5, r6⟩ := flush_lem (nn := P.nn) (gg := P.gg) (C := P.C) (me := nI n) (f := P.f) (u := u) (b := b) (K := K) (A := A) (Y := Y) (Bg_X P g) h.du
  have hN : NU P g n e D' K := h.disk (fun q hq => r4 q (by omega) (by omega) (by omega)) r2 (fun k _ ⟨s, s1, s2, s3⟩ => Or.inl ⟨s, s1, by rw [r4 6 (by decide) (by decide) (by decide)]; exact s2, r5 s s1⟩)
  rcases r6 with z | ⟨c, bf, z1, z2, z3⟩
  · exact ⟨g, D', Y', r1, NG.rf g n, hN, by rw [z]; exact hY, r3, r4, r5⟩
  · have hle := g.tell_le e n (fun k => k < 5243392 ∧ stb D' (nI k))
    refine ⟨g.tell e n (fun k => k < 5243392 ∧ stb D' (nI k)), D', Y', r1, NG.tell g (Q := fun k => k < 5243392 ∧ stb D' (nI k)) (fun k z => z.1) h.ep.2.1, hN.tell hG (Q := fun k => k < 5243392 ∧ stb D' (nI k)) (fun k z => z.2) (fun k z => z.1), ?_, r3, r4, r5⟩
    rw [z2]
    refine (hY.mono hle).put (e := e) (MO.m_ls11 (by rw [va_up_n _ _ (by decide)]; rfl) (by rw [va_up_n _ _ (by decide)]; exact h.ep.1) h.ep.2.1 (by rw [va_up_n _ _ (by decide)]; exact h.ep.2.2.1) ⟨n, hn, by rw [va_up_n _ _ (by decide)]; rfl, fun i hi => ?_⟩)
    rw [va_up_s, nI_clamp (by omega)] at hi
    obtain ⟨s, s1, s2, s3⟩ := z3 i hi
    obtain ⟨k, k1, k2⟩ := h.num s1 (neg1 s3)
    exact ⟨k, by rw [s2, k2], k1, Or.inr ⟨rfl, rfl, k1, s, s1, by rw [r4 6 (by decide) (by decide) (by decide)]; exact k2, r5 s s1⟩⟩
theorem DUD.cnt {B : (Nat → Int32) → Prop} {D : Nat → Nat → Int32} (h : DUD B D) : ∃ c, c ≤ 32 ∧ D 1 4 = nI c := by
  obtain ⟨c, hc, ec, _⟩ := h
  exact ⟨c, hc, ec⟩
/-- store -/
theorem store_lem {P : Pm} {g : Gh} {n e : Nat} {u b : Nat → Int32} {D : Nat → Nat → Int32} {K A : Int64} {Y : List Mg} (hG : GO g) (hn : n < P.nn) (h : NU P g n e D K) (hY : MOL P g Y) (hx : ∃ k, k < 5243392 ∧ u 5 = nI k ∧ b 1 = nI k ∧ Bg P g b) : NOut P g n D (F_59 P.nn P.gg P.C (nI n) P.f u b D K A Y) := by
  obtain ⟨k, k1, k2, k3, k4⟩ := hx
  -- a block is written
  have wr : ∀ (g2 : Gh) (D2 : Nat → Nat → Int32) (Y2 : List Mg), NG g g2 n → NU P g2 n e D2 K → MOL P g2 Y2 → (∀ i, i < 280 → ¬ D2 6 i = u 5) → (∃ c, c < 32 ∧ D2 1 4 = nI c) → D2 0 6 = D 0 6 → NOut P g n D (if freB (D2 6) (D2 5) = -1 then (D2, K, A, Y2) else bnN ((freB (D2 6) (D2 5)).toNatClampNeg) (fun fr_ => bnN ((D2 1 4).toNatClampNeg) (fun c => (va_up (va_up (va_up (va_up (va_up D2 1 (upd (D2 1) 4 (nI (c + 1)))) 3 (wrF b (D2 3) c (ostB (D2 2) fr_))) 4 (upd (D2 4) c (nI fr_))) 5 (upd (D2 5) fr_ (nI c))) 6 (upd (D2 6) fr_ (u 5)), K, A, Y2)))) := fun g2 D2 Y2 n1 n2 n3 n4 n5 n6 => by
    rcases freB_or (D2 6) (D2 5) with z | ⟨j, j1, j2, j3, j4⟩
    · rw [if_pos z]
      exact ⟨g2, e, D2, K, A, Y2, rfl, n1, n2, n3, n6⟩
    · obtain ⟨c, c1, c2⟩ := n5
      have hcl : (freB (D2 6) (D2 5)).toNatClampNeg = j := by rw [j2, nI_clamp (by omega)]
      have hcc : (D2 1 4).toNatClampNeg = c := by rw [c2, nI_clamp (by omega)]
      rw [if_neg (by rw [j2]; exact nIneg (by omega)), bnN_e, hcl, bnN_e, hcc]
      obtain ⟨p1, p2⟩ := put_lem (Bg_X P g2) n2.du c2 c1 j1 j3 j4 (n1.le.BgM k4) (show b 1 = u 5 by rw [k3, k2]) n4
      refine ⟨g2, e, _, K, A, Y2, rfl, n1, n2.disk (fun q hq => ?_) p1 (fun x _ hs => ?_), n3, ?_⟩
      · rw [va_up_n _ _ (by omega), va_up_n _ _ (by omega), va_up_n _ _ (by omega), va_up_n _ _ (by omega), va_up_n _ _ (by omega)]
      · rcases p2 _ hs with y | y
        · exact Or.inl y
        · exact absurd y (nIneg (by omega))
      · rw [va_up_n _ _ (by decide), va_up_n _ _ (by decide), va_up_n _ _ (by decide), va_up_n _ _ (by decide), va_up_n _ _ (by decide)]
        exact n6
  unfold F_59
  rcases sloB_cs (D 6) (u 5) with ⟨z1, z2⟩ | ⟨j, j1, j2, j3⟩
  · rw [if_pos z1]
    by_cases c : D 1 4 = 32
    · rw [if_pos c]
      obtain ⟨g', D', Y', r1, r2, r3, r4, r5, r6, r7⟩ := nflush (u := u) (b := b) (A := A) hG hn h hY
      rw [r1, bnS_e]
      exact wr g' D' Y' r2 r3 r4 (fun i hi => by rw [r6 6 (by decide) (by decide) (by decide)]; exact z2 i hi) ⟨0, by omega, r5⟩ (by rw [r6 0 (by decide) (by decide) (by decide)])
    · rw [if_neg c]
      obtain ⟨c0, c1, c2⟩ := DUD.cnt h.du
      refine wr g D Y (NG.rf g n) h hY z2 ⟨c0, ?_, c2⟩ rfl
      rcases Nat.lt_or_ge c0 32 with y | y
      · exact y
      · exact absurd (by rw [c2, show c0 = 32 by omega]; rfl) c
  · have hcl : (sloB (D 6) (u 5)).toNatClampNeg = j := by rw [j2, nI_clamp (by omega)]
    rw [if_neg (by rw [j2]; exact nIneg (by omega)), bnN_e, hcl]
    by_cases c : isF (D 5 j) = 0
    · rw [if_neg (fun z => z c)]
      have hlt : D 5 j < 0 := by
        unfold isF at c
        by_cases y : D 5 j < 0
        · exact y
        · rw [if_neg y] at c; exact absurd c (by decide)
      have ho := (h.du.ow j1).mp hlt
      have hst : stb D (nI k) := ⟨j, j1, by rw [j3, k2], ho⟩
      have hle := g.tell_le e n (fun x => x = k)
      refine ⟨_, e, D, K, A, _, rfl, NG.tell g (Q := fun x => x = k) (fun x z => by rw [z]; exact k1) h.ep.2.1, h.tell hG (fun x z => by rw [z]; exact hst) (fun x z => by rw [z]; exact k1), (hY.mono hle).put (e := e) (MO.m_ls11 (by rw [va_up_n _ _ (by decide)]; rfl) (by rw [va_up_n _ _ (by decide)]; exact h.ep.1) h.ep.2.1 (by rw [va_up_n _ _ (by decide)]; exact h.ep.2.2.1) ⟨n, hn, by rw [va_up_n _ _ (by decide)]; rfl, fun i hi => ?_⟩), rfl⟩
      rw [va_up_s] at hi
      have : i = 0 := by
        have : (1 : Int32).toNatClampNeg = 1 := by decide
        omega
      subst this
      exact ⟨k, by rw [pk_us]; exact k2, k1, Or.inr ⟨rfl, rfl, rfl⟩⟩
    · rw [if_pos c]
      exact ⟨g, e, D, K, A, Y, rfl, NG.rf g n, h, hY, rfl⟩
/-- a block is erased: one more that is not FLUSHED -/
theorem er_lem {B : (Nat → Int32) → Prop} {D : Nat → Nat → Int32} {j c : Nat} (hB : BX B) (h : DUD B D) (hc : D 1 4 = nI c) (hc2 : c < 32) (hj : j < 280) (e2 : D 5 j < 0) :
    DUD B (va_up (va_up (va_up (va_up (va_up D 1 (upd (D 1) 4 (nI (c + 1)))) 3 (erF (D 3) c)) 4 (upd (D 4) c (nI j))) 5 (upd (D 5) j (nI c))) 6 (upd (D 6) j (-1))) ∧ ∀ x, stb D x → stb (va_up (va_up (va_up (va_up (va_up D 1 (upd (D 1) 4 (nI (c + 1)))) 3 (erF (D 3) c)) 4 (upd (D 4) c (nI j))) 5 (upd (D 5) j (nI c))) 6 (upd (D 6) j (-1))) x ∨ x = D 6 j := by
  generalize hD1 : va_up (va_up (va_up (va_up (va_up D 1 (upd (D 1) 4 (nI (c + 1)))) 3 (erF (D 3) c)) 4 (upd (D 4) c (nI j))) 5 (upd (D 5) j (nI c))) 6 (upd (D 6) j (-1)) = D1
  have g1 : D1 1 = upd (D 1) 4 (nI (c + 1)) := by rw [← hD1]; (iterate 4 rw [va_up_n _ _ (by decide)]); rw [va_up_s]
  have g2 : D1 2 = D 2 := by rw [← hD1]; iterate 5 rw [va_up_n _ _ (by decide)]
  have g3 : D1 3 = erF (D 3) c := by rw [← hD1]; (iterate 3 rw [va_up_n _ _ (by decide)]); rw [va_up_s]
  have g4 : D1 4 = upd (D 4) c (nI j) := by rw [← hD1]; (iterate 2 rw [va_up_n _ _ (by decide)]); rw [va_up_s]
  have g5 : D1 5 = upd (D 5) j (nI c) := by rw [← hD1, va_up_n _ _ (by decide), va_up_s]
  have g6 : D1 6 = upd (D 6) j (-1) := by rw [← hD1, va_up_s]
  have e5 := h.ow hj |>.mp e2
  have h : DU B (D 1 4) (D 2) (D 3) (D 4) (D 5) (D 6) := h
  rw [hc] at h
  refine ⟨?_, fun x ⟨s, s1, s2, s3⟩ => ?_⟩
  · show DU B (D1 1 4) (D1 2) (D1 3) (D1 4) (D1 5) (D1 6)
    rw [g1, pk_us, g2, g3, g4, g5, g6]
    exact h.erase hB hc2 hj e5
  · by_cases z : s = j
    · right; rw [← s2, z]
    · exact Or.inl ⟨s, s1, by rw [g6, pk_un z]; exact s2, by rw [g5, pk_un z]; exact s3⟩
theorem er2_lem {B : (Nat → Int32) → Prop} {D : Nat → Nat → Int32} {j c kk : Nat} (hB : BX B) (h : DUD B D) (hc : D 1 4 = nI c) (hc2 : c ≤ 32) (hj : j < 280) (hk : kk < c) (e2 : D 5 j = nI kk) :
    DUD B (va_up (va_up (va_up D 1 (upd (D 1) 4 (nI c))) 3 (erF (D 3) kk)) 6 (upd (D 6) j (-1))) ∧ ∀ x, stb D x → stb (va_up (va_up (va_up D 1 (upd (D 1) 4 (nI c))) 3 (erF (D 3) kk)) 6 (upd (D 6) j (-1))) x ∨ x = D 6 j := by
  generalize hD1 : va_up (va_up (va_up D 1 (upd (D 1) 4 (nI c))) 3 (erF (D 3) kk)) 6 (upd (D 6) j (-1)) = D1
  have g1 : D1 1 = upd (D 1) 4 (nI c) := by rw [← hD1, va_up_n _ _ (by decide), va_up_n _ _ (by decide), va_up_s]
  have g2 : D1 2 = D 2 := by rw [← hD1]; iterate 3 rw [va_up_n _ _ (by decide)]
  have g3 : D1 3 = erF (D 3) kk := by rw [← hD1, va_up_n _ _ (by decide), va_up_s]
  have g4 : D1 4 = D 4 := by rw [← hD1]; iterate 3 rw [va_up_n _ _ (by decide)]
  have g5 : D1 5 = D 5 := by rw [← hD1]; iterate 3 rw [va_up_n _ _ (by decide)]
  have g6 : D1 6 = upd (D 6) j (-1) := by rw [← hD1, va_up_s]
  have h : DU B (D 1 4) (D 2) (D 3) (D 4) (D 5) (D 6) := h
  rw [hc] at h
  refine ⟨?_, fun x ⟨s, s1, s2, s3⟩ => ?_⟩
  · show DU B (D1 1 4) (D1 2) (D1 3) (D1 4) (D1 5) (D1 6)
    rw [g1, pk_us, g2, g3, g4, g5, g6]
    exact h.erase2 hB hc2 hj hk e2
  · by_cases z : s = j
    · right; rw [← s2, z]
    · exact Or.inl ⟨s, s1, by rw [g6, pk_un z]; exact s2, by rw [g5]; exact s3⟩
/-- dropAll -/
theorem drop_lp {P : Pm} {n e cnt : Nat} {u b : Nat → Int32} {K A : Int64} (hn : n < P.nn) :
    ∀ (k i : Nat) (g : Gh) (D : Nat → Nat → Int32) (Y : List Mg), i + k = cnt → GO g → NU P g n e D K → MOL P g Y → (∀ i, i < cnt → ∃ k, b i = nI k ∧ k < 5243392 ∧ dok P g e n k) → NOut P g n D (G_66 P.nn P.gg P.C (nI n) P.f u b k i D K A Y)
  | 0, i, g, D, Y, hi, hG, h, hY, hd => ⟨g, e, D, K, A, Y, rfl, NG.rf g n, h, hY, rfl⟩
  | k + 1, i, g, D, Y, hi, hG, h, hY, hd => by
    obtain ⟨t, t1, t2, t3⟩ := hd i (by omega)
    -- one ITEM goes
    have go : ∀ (g2 : Gh) (D2 D3 : Nat → Nat → Int32) (Y2 : List Mg), NG g g2 n → NU P g2 n e D2 K → MOL P g2 Y2 → D2 0 6 = D 0 6 → (∀ q, q = 0 ∨ 6 < q → D3 q = D2 q) → DUD (Bg P g2) D3 → (∀ x, stb D2 x → stb D3 x ∨ x = nI t) → NOut P g n D (G_66 P.nn P.gg P.C (nI n) P.f u b k (i + 1) D3 K A Y2) := fun g2 D2 D3 Y2 n1 n2 n3 n4 n5 n6 n7 => by
      have hdk := n1.le.dokM t3
      have n8 : NU P g2 n e D3 K := n2.disk n5 n6 (fun x hx hs => by
        rcases n7 _ hs with y | y
        · exact Or.inl y
        · have := nI_inj (by omega) (by omega) y
          subst this
          rcases hdk with w | w
          · exact Or.inr (Or.inl w)
          · exact Or.inr (Or.inr w))
      obtain ⟨g', e', D', K', A', Y', r1, r2, r3, r4, r5⟩ := drop_lp (cnt := cnt) hn k (i + 1) g2 D3 Y2 (by omega) (hG.ng n1) n8 n3 (fun i hi => by obtain ⟨k, a1, a2, a3⟩ := hd i hi; exact ⟨k, a1, a2, n1.le.dokM a3⟩)
      exact ⟨g', e', D', K', A', Y', r1, n1.tr r2, r3, r4, by rw [r5, n5 0 (by omega), n4]⟩
    rw [G_66.eq_2, t1]
    rcases sloB_cs (D 6) (nI t) with ⟨z1, z2⟩ | ⟨j, j1, j2, j3⟩
    · rw [if_pos z1]
      exact go g D D Y (NG.rf g n) h hY rfl (fun _ _ => rfl) h.du (fun x hx => Or.inl hx)
    · have hcl : (sloB (D 6) (nI t)).toNatClampNeg = j := by rw [j2, nI_clamp (by omega)]
      rw [if_neg (by rw [j2]; exact nIneg (by omega)), bnN_e, hcl]
      -- erase, with or without a FLUSH before
      have er : ∀ (g2 : Gh) (D2 : Nat → Nat → Int32) (Y2 : List Mg) (c : Nat), NG g g2 n → NU P g2 n e D2 K → MOL P g2 Y2 → D2 0 6 = D 0 6 → D2 6 j = nI t → D2 1 4 = nI c → c < 32 → NOut P g n D (bnN ((D2 1 4).toNatClampNeg) (fun c => if D2 5 j < 0 then G_66 P.nn P.gg P.C (nI n) P.f u b k (i + 1) (va_up (va_up (va_up (va_up (va_up D2 1 (upd (D2 1) 4 (nI (c + 1)))) 3 (erF (D2 3) c)) 4 (upd (D2 4) c (nI j))) 5 (upd (D2 5) j (nI c))) 6 (upd (D2 6) j (-1))) K A Y2 else bnN ((D2 5 j).toNatClampNeg) (fun kk => G_66 P.nn P.gg P.C (nI n) P.f u b k (i + 1) (va_up (va_up (va_up D2 1 (upd (D2 1) 4 (nI c))) 3 (erF (D2 3) kk)) 6 (upd (D2 6) j (-1))) K A Y2))) := fun g2 D2 Y2 c n1 n2 n3 n4 n5 n6 n7 => by
        have hcc : (D2 1 4).toNatClampNeg = c := by rw [n6, nI_clamp (by omega)]
        rw [bnN_e, hcc]
        by_cases q : D2 5 j < 0
        · rw [if_pos q]
          obtain ⟨p1, p2⟩ := er_lem (Bg_X P g2) n2.du n6 n7 j1 q
          refine go g2 D2 _ Y2 n1 n2 n3 n4 (fun q hq => ?_) p1 (fun x hx => by rcases p2 x hx with y | y; exact Or.inl y; exact Or.inr (by rw [y]; exact n5))
          rw [va_up_n _ _ (by omega), va_up_n _ _ (by omega), va_up_n _ _ (by omega), va_up_n _ _ (by omega), va_up_n _ _ (by omega)]
        · rw [if_neg q, bnN_e]
          have hkk : ∃ kk, kk < c ∧ D2 5 j = nI kk := by
            obtain ⟨c', hc', ec', h1, h2, _⟩ := n2.du
            have : c' = c := nI_inj (by omega) (by omega) (ec'.symm.trans n6)
            subst this
            rcases h2 j j1 with y | ⟨m, m1, m2, _⟩
            · rw [y] at q; exact absurd (by decide) q
            · exact ⟨m, m1, m2⟩
          obtain ⟨kk, kk1, kk2⟩ := hkk
          have hck : (D2 5 j).toNatClampNeg = kk := by rw [kk2, nI_clamp (by omega)]
          rw [hck]
          obtain ⟨p1, p2⟩ := er2_lem (Bg_X P g2) n2.du n6 (by omega) j1 kk1 kk2
          refine go g2 D2 _ Y2 n1 n2 n3 n4 (fun q hq => ?_) p1 (fun x hx => by rcases p2 x hx with y | y; exact Or.inl y; exact Or.inr (by rw [y]; exact n5))
          rw [va_up_n _ _ (by omega), va_up_n _ _ (by omega), va_up_n _ _ (by omega)]
      by_cases c : D 1 4 = 32
      · rw [if_pos c]
        obtain ⟨g', D', Y', r1, r2, r3, r4, r5, r6, r7⟩ := nflush (u := u) (b := b) (A := A) hG hn h hY
        rw [r1, bnS_e]
        exact er g' D' Y' 0 r2 r3 r4 (by rw [r6 0 (by decide) (by decide) (by decide)]) (by rw [r6 6 (by decide) (by decide) (by decide)]; exact j3) r5 (by omega)
      · rw [if_neg c]
        obtain ⟨c0, c1, c2⟩ := DUD.cnt h.du
        refine er g D Y c0 (NG.rf g n) h hY rfl j3 c2 ?_
        rcases Nat.lt_or_ge c0 32 with y | y
        · exact y
        · exact absurd (by rw [c2, show c0 = 32 by omega]; rfl) c

/-! a NODE hears, works, follows a MAP, CRASHES, RESTARTS -/
theorem NOut.tr {P : Pm} {g g1 : Gh} {n : Nat} {D D1 : Nat → Nat → Int32} {s : St} (h : NOut P g1 n D1 s) (hg : NG g g1 n) (hq : D1 0 6 = D 0 6) : NOut P g n D s := by
  obtain ⟨g', e', D', K', A', Y', a, b, c, d, e⟩ := h
  exact ⟨g', e', D', K', A', Y', a, hg.tr b, c, d, by rw [e, hq]⟩
/-- the leader's part changes alone -/
theorem NU.lead {P : Pm} {g : Gh} {n e : Nat} {D D' : Nat → Nat → Int32} {K K' : Int64} (h : NU P g n e D K) (hq : ∀ q, q < 7 → D' q = D q) (hni : inR 961 (D' 7 12)) (hl : ¬ ldB P.f P.nn (nI n) (D 0 8) = 0 → LO P g e D' K') : NU P g n e D' K' := by
  have hd : DUD (Bg P g) D' := by
    show DU _ (D' 1 4) (D' 2) (D' 3) (D' 4) (D' 5) (D' 6)
    rw [hq 1 (by decide), hq 2 (by decide), hq 3 (by decide), hq 4 (by decide), hq 5 (by decide), hq 6 (by decide)]
    exact h.du
  refine ⟨by rw [hq 0 (by decide)]; exact h.ep, hd, ?_, h.rk, hni, fun z => hl (by rw [← hq 0 (by decide)]; exact z)⟩
  intro e' k hr hl'
  rcases h.rp e' k hr hl' with y | ⟨s, s1, s2, s3⟩ | y
  · exact Or.inl y
  · exact Or.inr (Or.inl ⟨s, s1, by rw [hq 6 (by decide)]; exact s2, by rw [hq 5 (by decide)]; exact s3⟩)
  · exact Or.inr (Or.inr y)
/-- hear and goOn of the leader -/
theorem lead_lem {P : Pm} {g : Gh} {n e : Nat} {u b : Nat → Int32} {D : Nat → Nat → Int32} {K A : Int64} {Y : List Mg} (hG : GO g) (hgg : 0 < P.gg) (hnn : P.nn ≤ 6) (hf : Rg P.nn P.f) (h : NU P g n e D K) (hY : MOL P g Y) (hm : MO P g e (u, b)) : NOut P g n D (if (ldB P.f P.nn (nI n) (D 0 8)) = 0 then (D, K, A, Y) else bnS (F_67 P.nn P.gg P.C (nI n) P.f u b D K A Y) (fun D3 K3 A3 Y3 => bnS (F_91 P.nn P.gg P.C (nI n) P.f u b D3 K3 A3 Y3) (fun D4 K4 A4 Y4 => (D4, K4, A4, Y4)))) := by
  by_cases c : ldB P.f P.nn (nI n) (D 0 8) = 0
  · rw [if_pos c]
    exact ⟨g, e, D, K, A, Y, rfl, NG.rf g n, h, hY, rfl⟩
  · rw [if_neg c]
    obtain ⟨D1, K1, A1, Y1, r1, r2, r3, r4, r5⟩ := hear_lem (me := nI n) (A := A) hG hgg hnn hf (h.ld c) hY hm hm.lc
    rw [r1, bnS_e]
    obtain ⟨D2, K2, Y2, s1, s2, s3, s4, s5⟩ := goon_lem (me := nI n) (u := u) (b := b) (A := A1) hG hgg hnn r2 r3
    rw [s1, bnS_e]
    exact ⟨g, e, D2, K2, A1, Y2, rfl, NG.rf g n, h.lead (fun q hq => by rw [s4 q hq, r4 q hq]) (by rw [s5]; exact r5 h.ni) (fun _ => s2), s3, by rw [s4 0 (by decide), r4 0 (by decide)]⟩
/-- a MESSAGE of its own EPOCH -/
theorem hear_k {P : Pm} {g : Gh} {n e : Nat} {u b : Nat → Int32} {D : Nat → Nat → Int32} {K A : Int64} {Y : List Mg} (hG : GO g) (hgg : 0 < P.gg) (hnn : P.nn ≤ 6) (hf : Rg P.nn P.f) (hn : n < P.nn) (h : NU P g n e D K) (hY : MOL P g Y) (hm : MO P g e (u, b)) (hto : u 2 = nI n) : NOut P g n D (F_55_k P.nn P.gg P.C (nI n) P.f u b D K A Y) := by
  have ld := lead_lem (A := A) hG hgg hnn hf h hY hm
  unfold F_55_k
  by_cases c0 : u 0 = 0
  · rw [if_pos c0]
    have hle := g.tell_le e n (fun k => k = 5243392)
    exact ⟨g.tell e n (fun k => k = 5243392), e, D, K, A, _, rfl, NG.tell0 g (fun k z => by rw [z]; decide) h.ep.2.1, h.tell0 hG (fun k z y => absurd z (by omega)) (fun k z => by rw [z]; decide), (hY.mono hle).put (e := e) (MO.m_hd rfl h.ep.1 h.ep.2.1 h.ep.2.2.1 ⟨n, hn, rfl, Or.inr ⟨rfl, rfl, rfl⟩⟩), rfl⟩
  rw [if_neg c0]
  by_cases c1 : u 0 = 1
  · rw [if_pos c1]; exact ld
  rw [if_neg c1]
  by_cases c2 : u 0 = 2
  · rw [if_pos c2]; exact ld
  rw [if_neg c2]
  by_cases c3 : u 0 = 3
  · rw [if_pos c3]; exact ld
  rw [if_neg c3]
  have bnS_i : ∀ s : St, bnS s (fun D11 K11 A11 Y11 => (D11, K11, A11, Y11)) = s := fun s => by
    obtain ⟨s1, s2, s3, s4⟩ := s
    exact bnS_e _ _ _ _ _
  by_cases c4 : u 0 = 4
  · rw [if_pos c4, bnS_i]
    exact list_lem hG hn h hY
  rw [if_neg c4]
  by_cases c5 : u 0 = 5
  · rw [if_pos c5]; exact ld
  rw [if_neg c5]
  by_cases c6 : u 0 = 6
  · rw [if_pos c6, bnS_i]
    obtain ⟨k, k1, k2⟩ := hm.gt (Or.inl c6)
    have k2 : u 5 = nI k := k2
    exact give_lem hG hn (by rw [k2]; exact nI_pos (by omega)) (Or.inl rfl) h hY
  rw [if_neg c6]
  by_cases c7 : u 0 = 7
  · rw [if_pos c7]; exact ld
  rw [if_neg c7]
  by_cases c8 : u 0 = 8
  · rw [if_pos c8]; exact ld
  rw [if_neg c8]
  by_cases c9 : u 0 = 9
  · rw [if_pos c9, bnS_i]
    obtain ⟨k, k1, k2⟩ := hm.gt (Or.inr c9)
    have k2 : u 5 = nI k := k2
    exact give_lem hG hn (by rw [k2]; exact nI_pos (by omega)) (Or.inr rfl) h hY
  rw [if_neg c9]
  by_cases c10 : u 0 = 10
  · rw [if_pos c10, bnS_i]
    exact store_lem hG hn h hY (hm.pu c10)
  rw [if_neg c10]
  by_cases c11 : u 0 = 11
  · rw [if_pos c11]; exact ld
  rw [if_neg c11]
  by_cases c12 : u 0 = 12
  · rw [if_pos c12, bnS_i]
    obtain ⟨n', n1, n2, n3⟩ := hm.dr c12
    have n2 : u 2 = nI n' := n2
    have : n = n' := nI_inj (by omega) (by omega) (hto.symm.trans n2)
    subst this
    unfold F_66
    rw [bnN_e]
    exact drop_lp (cnt := (u 7).toNatClampNeg) hn (u 7).toNatClampNeg 0 g D Y (by omega) hG h hY n3
  rw [if_neg c12]
  exact ld
/-- a newer MAP -/
theorem follow_lem {P : Pm} {g : Gh} {n e e2 : Nat} {u b : Nat → Int32} {D : Nat → Nat → Int32} {K A : Int64} {Y : List Mg} (hdu : DUD (Bg P g) D) (hrp : Rp P g n (fun k => stb D (nI k))) (hrk : ∀ e' k, g.rep e' n k → k < 5243393 ∧ e' ≤ e ∧ g.es ≤ e') (hni : inR 961 (D 7 12)) (he : e ≤ e2) (he2 : e2 ≤ g.ep) (hes : g.es ≤ e2) (hY : MOL P g Y) :
    ∃ (D' : Nat → Nat → Int32) (K' A' : Int64) (Y' : List Mg), F_29 P.nn P.gg P.C (nI n) P.f u b D K A Y (nI e2) (g.mp e2) = (D', K', A', Y') ∧ NU P g n e2 D' K' ∧ MOL P g Y' ∧ D' 0 6 = D 0 6 := by
  have hN : ∀ (D' : Nat → Nat → Int32) (K' : Int64), D' 0 = upd (upd (D 0) 7 (nI e2)) 8 (g.mp e2) → (∀ q, 0 < q → q < 7 → D' q = D q) → inR 961 (D' 7 12) → (¬ ldB P.f P.nn (nI n) (g.mp e2) = 0 → LO P g e2 D' K') → NU P g n e2 D' K' := fun D' K' h0 hq hni hl => by
    have hd : DUD (Bg P g) D' := by
      show DU _ (D' 1 4) (D' 2) (D' 3) (D' 4) (D' 5) (D' 6)
      rw [hq 1 (by decide) (by decide), hq 2 (by decide) (by decide), hq 3 (by decide) (by decide), hq 4 (by decide) (by decide), hq 5 (by decide) (by decide), hq 6 (by decide) (by decide)]
      exact hdu
    refine ⟨⟨by rw [h0, pk_un (by decide), pk_us], he2, by rw [h0, pk_us], hes⟩, hd, fun e' k hr hl' => ?_, fun e' k hr => ⟨(hrk e' k hr).1, Nat.le_trans (hrk e' k hr).2.1 he, (hrk e' k hr).2.2⟩, hni, fun z => hl (by rw [h0, pk_us] at z; exact z)⟩
    rcases hrp e' k hr hl' with y | ⟨s, s1, s2, s3⟩ | y
    · exact Or.inl y
    · exact Or.inr (Or.inl ⟨s, s1, by rw [hq 6 (by decide) (by decide)]; exact s2, by rw [hq 5 (by decide) (by decide)]; exact s3⟩)
    · exact Or.inr (Or.inr y)
  unfold F_29
  by_cases c : ldB P.f P.nn (nI n) (g.mp e2) = 0
  · rw [if_pos c]
    unfold F_33
    rw [bnS_e]
    refine ⟨_, _, _, _, rfl, hN _ _ ?_ (fun q h1 h2 => ?_) ?_ (fun z => absurd c z), hY, ?_⟩
    · (iterate 8 rw [va_up_n _ _ (by decide)]); rw [va_up_s]
    · (iterate 8 rw [va_up_n _ _ (by omega)]); rw [va_up_n _ _ (by omega)]
    · (iterate 7 rw [va_up_n _ _ (by decide)]); rw [va_up_s, pk_un (by decide), pk_un (by decide), pk_us]
      exact ⟨0, by decide, rfl⟩
    · (iterate 8 rw [va_up_n _ _ (by decide)]); rw [va_up_s, pk_un (by decide), pk_un (by decide)]
  · rw [if_neg c]
    obtain ⟨D', K', A', Y', r1, r2, r3, r4, r5⟩ := start_lem (P := P) (g := g) (e := e2) (me := nI n) (u := u) (b := b) (D := va_up D 0 (upd (upd (D 0) 7 (nI e2)) 8 (g.mp e2))) (K := K) (A := A) (s2 := g.mp e2) rfl he2 hes hY
    rw [r1, bnS_e]
    refine ⟨D', K', A', Y', rfl, hN D' K' (by rw [r4 0 (by decide), va_up_s]) (fun q h1 h2 => by rw [r4 q h2, va_up_n _ _ (by omega)]) (r5 (by rw [va_up_n _ _ (by decide)]; exact hni)) (fun _ => r2), r3, by rw [r4 0 (by decide), va_up_s, pk_un (by decide), pk_un (by decide)]⟩
/-- hear -/
theorem nhear {P : Pm} {g : Gh} {n e : Nat} {u b : Nat → Int32} {D : Nat → Nat → Int32} {K A : Int64} {Y : List Mg} (hG : GO g) (hep : g.ep < 2 ^ 31) (hgg : 0 < P.gg) (hnn : P.nn ≤ 6) (hf : Rg P.nn P.f) (hn : n < P.nn) (h : NU P g n e D K) (hY : MOL P g Y) (hm : ∃ e', MO P g e' (u, b)) (hto : u 2 = nI n) : NOut P g n D (F_55 P.nn P.gg P.C (nI n) P.f u b D K A Y) := by
  obtain ⟨e2, hm⟩ := hm
  have h3 : u 3 = nI e2 := hm.ep.1
  have h4 : u 4 = g.mp e2 := hm.ep.2.2
  have he := h.ep.2.1
  have he2 := hm.ep.2.1
  unfold F_55
  rw [h.ep.1, h3]
  by_cases c1 : nI e ≤ nI e2
  · rw [if_pos c1]
    have c1 := (nI_leI (by omega) (by omega)).mp c1
    by_cases c2 : nI e2 ≤ nI e
    · rw [if_pos c2]
      have c2 := (nI_leI (by omega) (by omega)).mp c2
      have : e2 = e := by omega
      subst this
      exact hear_k hG hgg hnn hf hn h hY hm hto
    · rw [if_neg c2, h4]
      obtain ⟨D', K', A', Y', r1, r2, r3, r4⟩ := follow_lem (u := u) (b := b) (K := K) (A := A) h.du h.rp h.rk h.ni c1 he2 (Nat.le_trans h.ep.2.2.2 c1) hY
      rw [r1, bnS_e]
      exact (hear_k hG hgg hnn hf hn r2 r3 hm hto).tr (NG.rf g n) r4
  · rw [if_neg c1]
    exact ⟨g, e, D, K, A, Y, rfl, NG.rf g n, h, hY, rfl⟩
/-- a TICK -/
theorem nwork {P : Pm} {g : Gh} {n e : Nat} {u b : Nat → Int32} {D : Nat → Nat → Int32} {K A : Int64} {Y : List Mg} (hG : GO g) (hgg : 0 < P.gg) (hnn : P.nn ≤ 6) (hn : n < P.nn) (h : NU P g n e D K) (hY : MOL P g Y) : NOut P g n D (F_136 P.nn P.gg P.C (nI n) P.f u b D K A Y) := by
  unfold F_136
  obtain ⟨g', D1, Y1, r1, r2, r3, r4, r5, r6, r7⟩ := nflush (u := u) (b := b) (A := A) hG hn h hY
  rw [r1, bnS_e]
  have hG' := hG.ng r2
  have h06 : D1 0 6 = D 0 6 := by rw [r6 0 (by decide) (by decide) (by decide)]
  by_cases c : ldB P.f P.nn (nI n) (D1 0 8) = 0
  · rw [if_pos c]
    exact ⟨g', e, D1, K, A, Y1, rfl, r2, r3, r4, h06⟩
  · rw [if_neg c]
    obtain ⟨D2, K2, A2, Y2, s1, s2, s3, s4, s5⟩ := work_lem (me := nI n) (u := u) (b := b) (A := A) hG' hnn r3.ni (r3.ld c) r4
    rw [s1, bnS_e]
    obtain ⟨D3, K3, Y3, t1, t2, t3, t4, t5⟩ := goon_lem (me := nI n) (u := u) (b := b) (A := A2) hG' hgg hnn s2 s3
    rw [t1, bnS_e]
    exact ⟨g', e, D3, K3, A2, Y3, rfl, r2, r3.lead (fun q hq => by rw [t4 q hq, s4 q hq]) (by rw [t5]; exact s5 r3.ni) (fun _ => t2), t3, by rw [t4 0 (by decide), s4 0 (by decide), h06]⟩
/-- a NODE that is DOWN -/
def ND (P : Pm) (g : Gh) (n e : Nat) (D : Nat → Nat → Int32) : Prop :=
  (e ≤ g.ep) ∧
  (DN (Bg P g) (D 1 4) (D 2) (D 5) (D 6)) ∧
  (Rp P g n (fun k => ∃ s, s < 280 ∧ whB (D 2) s ∧ D 2 (s * 128 + 1) = nI k)) ∧
  (∀ e' k, g.rep e' n k → k < 5243393 ∧ e' ≤ e ∧ g.es ≤ e') ∧
  (inR 961 (D 7 12))
theorem ND.ee {P : Pm} {g : Gh} {n e : Nat} {D : Nat → Nat → Int32} (h_ : ND P g n e D) : e ≤ g.ep := h_.1
theorem ND.dn {P : Pm} {g : Gh} {n e : Nat} {D : Nat → Nat → Int32} (h_ : ND P g n e D) : DN (Bg P g) (D 1 4) (D 2) (D 5) (D 6) := h_.2.1
theorem ND.rp {P : Pm} {g : Gh} {n e : Nat} {D : Nat → Nat → Int32} (h_ : ND P g n e D) : Rp P g n (fun k => ∃ s, s < 280 ∧ whB (D 2) s ∧ D 2 (s * 128 + 1) = nI k) := h_.2.2.1
theorem ND.rk {P : Pm} {g : Gh} {n e : Nat} {D : Nat → Nat → Int32} (h_ : ND P g n e D) : ∀ e' k, g.rep e' n k → k < 5243393 ∧ e' ≤ e ∧ g.es ≤ e' := h_.2.2.2.1
theorem ND.ni {P : Pm} {g : Gh} {n e : Nat} {D : Nat → Nat → Int32} (h_ : ND P g n e D) : inR 961 (D 7 12) := h_.2.2.2.2
/-- CRASH -/
theorem nsleep {P : Pm} {g : Gh} {n e : Nat} {u b : Nat → Int32} {D : Nat → Nat → Int32} {K A : Int64} {Y : List Mg} {mk_ pt : Int32} (h : NU P g n e D K) : ∃ (D' : Nat → Nat → Int32), F_142 P.nn P.gg P.C (nI n) P.f u b D K A Y mk_ pt = (D', 0, 0, Y) ∧ ND P g n e D' ∧ D' 0 6 = 0 := by
  unfold F_142
  have hd : DU (Bg P g) (va_up D 0 (upd (D 0) 6 0) 1 4) (va_up D 0 (upd (D 0) 6 0) 2) (va_up D 0 (upd (D 0) 6 0) 3) (va_up D 0 (upd (D 0) 6 0) 4) (va_up D 0 (upd (D 0) 6 0) 5) (va_up D 0 (upd (D 0) 6 0) 6) := by
    rw [va_up_n _ _ (by decide), va_up_n _ _ (by decide), va_up_n _ _ (by decide), va_up_n _ _ (by decide), va_up_n _ _ (by decide), va_up_n _ _ (by decide)]
    exact h.du
  obtain ⟨D1, r1, r2, r3, r4, r5, r6⟩ := DU.fail (nn := P.nn) (gg := P.gg) (C := P.C) (me := nI n) (f := P.f) (u := u) (b := b) (mk := mk_) (pt := pt) (D := va_up D 0 (upd (D 0) 6 0)) (K := K) (A := A) (Y := Y) (Bg_X P g) hd
  rw [r1, bnS_e]
  unfold F_33
  rw [bnS_e]
  generalize hD2 : va_up (va_up (va_up (va_up (va_up (va_up (va_up (va_up (va_up D1 6 (ax_fill (D1 6) 0 280 (-1))) 7 _) 10 _) 11 _) 12 _) 15 _) 16 _) 17 _) 18 _ = D2
  have w : ∀ q, q < 6 → D2 q = D1 q := fun q hq => by rw [← hD2]; (iterate 8 rw [va_up_n _ _ (by omega)]); rw [va_up_n _ _ (by omega)]
  have w6 : D2 6 = ax_fill (D1 6) 0 280 (-1) := by rw [← hD2]; (iterate 8 rw [va_up_n _ _ (by decide)]); rw [va_up_s]
  refine ⟨D2, rfl, ⟨h.ep.2.1, ⟨by rw [w 1 (by decide), r2, pk_us], fun s hs => ⟨by rw [w 5 (by decide)]; exact r4 s hs, by rw [w6]; exact ax_fill_in _ _ (by omega) hs⟩, fun s hs hw => by rw [w 2 (by decide)] at hw ⊢; exact r5 s hs hw⟩, fun e' k hr hl => ?_, h.rk, ⟨0, by decide, by rw [← hD2]; (iterate 7 rw [va_up_n _ _ (by decide)]); rw [va_up_s, pk_un (by decide), pk_un (by decide), pk_us]; rfl⟩⟩, by rw [w 0 (by decide), r3 0 (by decide) (by decide) (by decide), va_up_s, pk_us]⟩
  rcases h.rp e' k hr hl with y | ⟨s, s1, s2, s3⟩ | y
  · exact Or.inl y
  · right; left
    obtain ⟨x1, x2⟩ := r6 s s1 (by rw [va_up_n _ _ (by decide)]; exact s3) (by rw [va_up_n _ _ (by decide), s2]; exact nIneg (by have := hl.1; omega))
    refine ⟨s, s1, by rw [w 2 (by decide)]; exact x1, ?_⟩
    rw [w 2 (by decide), x2, va_up_n _ _ (by decide), s2]
  · exact Or.inr (Or.inr y)
/-- RESTART -/
theorem nwake {P : Pm} {g : Gh} {n e : Nat} {u b : Nat → Int32} {D : Nat → Nat → Int32} {K A : Int64} {Y : List Mg} (h : ND P g n e D) (hes : g.es ≤ g.ep) (hY : MOL P g Y) :
    ∃ (D' : Nat → Nat → Int32) (K' A' : Int64) (Y' : List Mg), F_18 P.nn P.gg P.C (nI n) P.f u b D K A Y (nI g.ep) (g.mp g.ep) = (D', K', A', Y') ∧ NU P g n g.ep D' K' ∧ MOL P g Y' ∧ D' 0 6 = 1 := by
  unfold F_18
  have hd : DN (Bg P g) (va_up D 0 (upd (D 0) 6 1) 1 4) (va_up D 0 (upd (D 0) 6 1) 2) (va_up D 0 (upd (D 0) 6 1) 5) (va_up D 0 (upd (D 0) 6 1) 6) := by
    rw [va_up_n _ _ (by decide), va_up_n _ _ (by decide), va_up_n _ _ (by decide), va_up_n _ _ (by decide)]
    exact h.dn
  obtain ⟨D1, r1, r2, r3, r4, r5⟩ := DN.read (nn := P.nn) (gg := P.gg) (C := P.C) (me := nI n) (f := P.f) (u := u) (b := b) (D := va_up D 0 (upd (D 0) 6 1)) (K := K) (A := A) (Y := Y) (Bg_X P g) hd
  rw [r1, bnS_e]
  have hrp : Rp P g n (fun k => stb D1 (nI k)) := fun e' k hr hl => by
    rcases h.rp e' k hr hl with y | ⟨s, s1, s2, s3⟩ | y
    · exact Or.inl y
    · right; left
      obtain ⟨t, t1, t2, t3, _⟩ := (r5 (nI k)).mpr ⟨s, s1, by rw [va_up_n _ _ (by decide)]; exact s2, by rw [va_up_n _ _ (by decide)]; exact s3⟩
      exact ⟨t, t1, t2, t3⟩
    · exact Or.inr (Or.inr y)
  obtain ⟨D', K', A', Y', s1, s2, s3, s4⟩ := follow_lem (u := u) (b := b) (K := K) (A := A) r4 hrp h.rk (by rw [r3 7 (by omega), va_up_n _ _ (by decide)]; exact h.ni) h.ee (Nat.le_refl _) hes hY
  rw [s1, bnS_e]
  exact ⟨D', K', A', Y', rfl, s2, s3, by rw [s4, r3 0 (by omega), va_up_s, pk_us]⟩

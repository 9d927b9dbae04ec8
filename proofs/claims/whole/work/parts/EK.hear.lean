/-! the leader hears: LISTED, HAVE, LACK, ASK, ITEM -/
theorem LO.f7 {P : Pm} {g : Gh} {e : Nat} {D : Nat → Nat → Int32} {K : Int64} (h : LO P g e D K) {W : Nat → Int32} (h7 : W 7 = D 7 7) (h8 : W 8 = D 7 8) : LO P g e (va_up D 7 W) K := h.frame (by rw [va_up_s]; exact h7) (by rw [va_up_s]; exact h8) (fun q h8 _ _ => va_up_n _ _ (by omega)) (fun a k h1 h2 h3 h4 m hm hb => h.hd a k h1 h2 h3 h4 m hm (by rw [va_up_n _ _ (by decide)] at hb; exact hb)) (fun fx p h1 h2 h3 h4 => by rw [va_up_n _ _ (by decide)]; exact h.hz fx p h1 h2 h3 h4)
/-- isSafe says that it is secured -/
theorem LO.safe {P : Pm} {g : Gh} {e : Nat} {D : Nat → Nat → Int32} {K : Int64} (h : LO P g e D K) (hgg : 0 < P.gg) (hnn : P.nn ≤ 6) {a t : Nat} (ha : a < 961) (ht : t < 5243392) (hp : plc (D 11) t a) (hv : D 16 a = nI (t % 512)) (hs : ¬ sfB (D 8) (D 11) (D 16) (D 17) P.gg a = 0) : sec P g e t := by
  unfold sfB at hs
  have hm : D 8 (grp (D 11) P.gg a) = msk P g e t := by
    rw [plc_grp ht hp]
    exact h.l2 _ (gr_lt hgg t)
  rw [hm] at hs
  by_cases c : 0 ≤ D 16 a ∧ ¬ msk P g e t = 0 ∧ D 17 a &&& msk P g e t = msk P g e t
  · refine ⟨h.l1.2.2.1, c.2.1, fun n hn hb => ?_⟩
    exact h.hd a t ha (by rw [hv]; exact nI_pos (by omega)) (plc_tag ht hp hv) ht n hn ((bt_sub _ _).mp c.2.2 n (by omega) hb)
  · rw [if_neg c] at hs
    exact absurd rfl hs
theorem acB_le {x : Int32} : acB x = 0 ↔ x ≤ 1 := by
  unfold acB
  split
  · exact ⟨fun _ => by assumption, fun _ => rfl⟩
  · rename_i h
    exact ⟨fun z => absurd z (by decide), fun z => absurd z h⟩
theorem LO.idle {P : Pm} {g : Gh} {e : Nat} {D : Nat → Nat → Int32} {K : Int64} (h : LO P g e D K) (hs : D 18 3 ≤ 1) : ∃ r, RTb P g r D K := by
  rcases h.st with ⟨z, r, zr⟩ | ⟨z, ⟨r, zr⟩, o, zo⟩ | ⟨z, _⟩ | ⟨z, _⟩ | ⟨z, _⟩
  · exact ⟨r, zr⟩
  · exact ⟨r, zr⟩
  · rw [z] at hs; exact absurd hs (by decide)
  · rw [z] at hs; exact absurd hs (by decide)
  · rw [z] at hs; exact absurd hs (by decide)
theorem RTb.tk {P : Pm} {g : Gh} {r : Nat} {D : Nat → Nat → Int32} {K : Int64} (h : RTb P g r D K) (hk : ¬ knA K (D 10 9) = 0) : TKD (tsp g.ops r) D K := ⟨h.tr, h.tr.known.mp hk⟩
theorem listed_lem {P : Pm} {g : Gh} {e : Nat} {me : Int32} {u b : Nat → Int32} {D : Nat → Nat → Int32} {K A : Int64} {Y : List Mg} {n : Nat} (hG : GO g) (hgg : 0 < P.gg) (hnn : P.nn ≤ 6) (hf : Rg P.nn P.f) (hn : n < P.nn) (hu : u 1 = nI n) (hc : (u 7).toNatClampNeg ≤ 280) (hb : ∀ i, i < (u 7).toNatClampNeg → ∃ k, b i = nI k ∧ k < 5243392 ∧ g.rep e n k) (h : LO P g e D K) (hY : MOL P g Y) :
    ∃ (D' : Nat → Nat → Int32) (A' : Int64) (Y' : List Mg), F_70 P.nn P.gg P.C me P.f u b D K A Y = (D', K, A', Y') ∧ LO P g e D' K ∧ MOL P g Y' ∧ (∀ q, q ≠ 7 → q ≠ 9 → q ≠ 17 → D' q = D q) ∧ (∀ x, x ≠ 10 → D' 7 x = D 7 x) := by
  unfold F_70
  rw [bnN_e]
  have go := fun (s2 s3 : Int32) (hr : ¬ s3 = 0 → RSf P g e D K) => listed_lp (me := me) (u := u) (b := b) (s2 := s2) (s3 := s3) hgg hnn hf hn hu hc hb (u 7).toNatClampNeg 0 0 0 D A Y (by omega) (by omega) h hY (fun j hj => absurd hj (by omega)) hr
  by_cases c1 : acB (D 18 3) = 0
  · rw [if_neg (fun z => z c1)]
    by_cases c2 : knA K (D 10 9) = 0
    · rw [if_pos c2]
      exact go 0 0 (fun z => absurd rfl z)
    · rw [if_neg c2]
      by_cases c3 : sfB (D 8) (D 11) (D 16) (D 17) P.gg 960 = 0
      · rw [if_pos c3]
        exact go 1 0 (fun z => absurd rfl z)
      · rw [if_neg c3]
        refine go 1 1 (fun _ => ?_)
        obtain ⟨r, zr⟩ := h.idle (acB_le.mp c1)
        have htk := zr.tk c2
        have hv : 0 ≤ D 16 960 := by
          unfold sfB at c3
          by_cases q : 0 ≤ D 16 960 ∧ ¬ D 8 (grp (D 11) P.gg 960) = 0 ∧ D 17 960 &&& D 8 (grp (D 11) P.gg 960) = D 8 (grp (D 11) P.gg 960)
          · exact q.1
          · rw [if_neg q] at c3; exact absurd rfl c3
        rcases efv_or g.ops r with y | ⟨v, y1, y2, y3, y4⟩
        · rw [zr.rt, y] at hv
          exact absurd hv (by decide)
        · have hr1 := zr.r1
          have hb5 := hG.1
          have hmod := (tgN_d (i := 512) (p := 0) (v := v) (by decide) (by omega)).2.2
          have hdiv := (tgN_d (i := 512) (p := 0) (v := v) (by decide) (by omega)).1
          have hvr : D 16 960 = nI v := by rw [zr.rt, y2]
          have hlt : rtg v < 5243392 := by unfold rtg tgN; omega
          refine ⟨v, by omega, hvr, ⟨by omega, y3⟩, h.safe hgg hnn (by decide) hlt (Or.inl ⟨hdiv, rfl⟩) (by show D 16 960 = nI (rtg v % 512); unfold rtg; rw [hmod]; exact hvr) c3, by rw [y4]; exact htk⟩
  · rw [if_pos c1]
    exact go 0 0 (fun z => absurd rfl z)
theorem have_lp {P : Pm} {g : Gh} {e : Nat} {me : Int32} {u b : Nat → Int32} {K A : Int64} {Y : List Mg} {n cnt : Nat} (hgg : 0 < P.gg) (hnn : P.nn ≤ 6) (hn : n < P.nn) (hu : u 1 = nI n) (hb : ∀ i, i < cnt → ∃ k, b i = nI k ∧ k < 5243392 ∧ g.rep e n k) :
    ∀ (k i : Nat) (D : Nat → Nat → Int32), i + k = cnt → LO P g e D K → ∃ D' : Nat → Nat → Int32, G_89 P.nn P.gg P.C me P.f u b k i D K A Y = (D', K, A, Y) ∧ LO P g e D' K ∧ (∀ q, q ≠ 7 → q ≠ 17 → D' q = D q) ∧ (∀ x, x ≠ 10 → D' 7 x = D 7 x)
  | 0, i, D, hi, h => ⟨D, rfl, h, fun _ _ _ => rfl, fun _ _ => rfl⟩
  | k + 1, i, D, hi, h => by
    obtain ⟨t, t1, t2, t3⟩ := hb i (by omega)
    unfold G_89
    rw [t1]
    rcases h.find hgg t2 with ⟨z1, z2⟩ | ⟨a, a1, a2, a3, a4, a5, a6⟩
    · rw [if_pos z1]
      obtain ⟨D', r1, r2, r3, r4⟩ := have_lp (me := me) (u := u) (b := b) (A := A) (Y := Y) hgg hnn hn hu hb k (i + 1) (va_up D 7 (upd (D 7) 10 (scB (D 7 10) (u 1) 0))) (by omega) (h.f7 (pk_un (by decide)) (pk_un (by decide)))
      exact ⟨D', r1, r2, fun q h7 h17 => by rw [r3 q h7 h17, va_up_n _ _ h7], fun x hx => by rw [r4 x hx, va_up_s, pk_un hx]⟩
    · have hcl : (fndI (D 15) (D 16) (nI t)).toNatClampNeg = a := by rw [a2, nI_clamp (by omega)]
      rw [if_neg (by rw [a2]; exact nIneg (by omega)), bnN_e, hcl, hu]
      obtain ⟨D', r1, r2, r3, r4⟩ := have_lp (me := me) (u := u) (b := b) (A := A) (Y := Y) hgg hnn hn hu hb k (i + 1) _ (by omega) (h.hold (show n < 32 by omega) (by rw [a4]; exact nI_pos (by omega)) a5 t2 t3)
      exact ⟨D', r1, r2, fun q h7 h17 => by rw [r3 q h7 h17, va_up_n _ _ h17], fun x hx => by rw [r4 x hx, va_up_n _ _ (by decide)]⟩
theorem lack_lem {P : Pm} {g : Gh} {e : Nat} {me : Int32} {u b : Nat → Int32} {D : Nat → Nat → Int32} {K A : Int64} {Y : List Mg} {n : Nat} (hn : n < 32) (hu : u 1 = nI n) (h : LO P g e D K) :
    ∃ D' : Nat → Nat → Int32, F_90 P.nn P.gg P.C me P.f u b D K A Y = (D', K, A, Y) ∧ LO P g e D' K ∧ (∀ q, q ≠ 7 → q ≠ 17 → D' q = D q) ∧ (∀ x, x ≠ 10 → x ≠ 14 → D' 7 x = D 7 x) := by
  unfold F_90
  by_cases c : fndI (D 15) (D 16) (u 5) = -1
  · rw [if_pos c]
    exact ⟨D, rfl, h, fun _ _ _ => rfl, fun _ _ _ => rfl⟩
  · rw [if_neg c, bnN_e, hu]
    refine ⟨_, rfl, ?_, fun q h7 h17 => by rw [va_up_n _ _ h17, va_up_n _ _ h7], fun x h10 h14 => by rw [va_up_n _ _ (by decide), va_up_s, pk_un h14, pk_un h10]⟩
    refine h.frame (by rw [va_up_n _ _ (by decide), va_up_s, pk_un (by decide), pk_un (by decide)]) (by rw [va_up_n _ _ (by decide), va_up_s, pk_un (by decide), pk_un (by decide)]) (fun q h8 _ h17 => by rw [va_up_n _ _ h17, va_up_n _ _ (by omega)]) (fun a k h1 h2 h3 h4 m hm hb => ?_) (fun fx p h1 h2 h3 h4 => ?_)
    · rw [va_up_s] at hb
      by_cases z : a = (fndI (D 15) (D 16) (u 5)).toNatClampNeg
      · rw [z, pk_us] at hb
        rcases Nat.lt_or_ge m 32 with y | y
        · rw [bt_clr _ hn y] at hb
          simp only [Bool.and_eq_true] at hb
          exact h.hd a k h1 h2 h3 h4 m hm (by rw [z]; exact hb.1)
        · rw [b_big y] at hb; cases hb
      · rw [pk_un z] at hb
        exact h.hd a k h1 h2 h3 h4 m hm hb
    · rw [va_up_s]
      have := h.hz fx p h1 h2 h3 h4
      by_cases z : fx * 20 + p = (fndI (D 15) (D 16) (u 5)).toNatClampNeg
      · rw [← z, pk_us, this, bt_z]
        intro i hi
        rw [b_and, b_0]
        rfl
      · rw [pk_un z]; exact this
/-- take -/
theorem take_lem {P : Pm} {g : Gh} {e : Nat} {me : Int32} {u b : Nat → Int32} {D : Nat → Nat → Int32} {K A : Int64} {Y : List Mg} (hG : GO g) (h : LO P g e D K) (hx : ∃ o, (o < g.bg ∧ g.sn ≤ o ∧ o ≤ g.hd) ∧ u 5 = nI o ∧ u 6 = efv g.ops o ∧ u 7 = (g.ops o).1 5 ∧ (∀ i, i < 5 → b i = (g.ops o).1 i) ∧ ∀ i, i < 100 + (((g.ops o).1 5).toNatClampNeg + 3) / 4 → b (5 + i) = (g.ops o).2 i) :
    ∃ D' : Nat → Nat → Int32, F_68 P.nn P.gg P.C me P.f u b D K A Y = (D', K, A, Y) ∧ LO P g e D' K ∧ (∀ q, q ≠ 18 → q ≠ 19 → q ≠ 20 → D' q = D q) := by
  obtain ⟨o, ⟨o1, oo2⟩, o2, o3, o4, o5, o6⟩ := hx
  have hq := hG.2 o o1
  have hl5 := inR_c2 hq.2.2.2.2.2 (by decide)
  have hcl : (u 7).toNatClampNeg = ((g.ops o).1 5).toNatClampNeg := by rw [o4]
  unfold F_68
  rw [bnN_e, hcl]
  have key : D 18 3 ≤ 1 → LO P g e (va_up (va_up (va_up D 18 (upd (upd (upd (D 18) 3 1) 4 (u 5)) 6 (u 6))) 19 (upd (upd (upd (upd (upd (upd (D 19) 0 (b 0)) 1 (b 1)) 2 (b 2)) 3 (b 3)) 4 (b 4)) 5 (nI ((g.ops o).1 5).toNatClampNeg))) 20 (va_cpy b (D 20) 5 0 (100 + (((g.ops o).1 5).toNatClampNeg + 3) / 4))) K := fun hs => by
    obtain ⟨r, zr⟩ := h.idle hs
    generalize hD1 : va_up (va_up (va_up D 18 (upd (upd (upd (D 18) 3 1) 4 (u 5)) 6 (u 6))) 19 (upd (upd (upd (upd (upd (upd (D 19) 0 (b 0)) 1 (b 1)) 2 (b 2)) 3 (b 3)) 4 (b 4)) 5 (nI ((g.ops o).1 5).toNatClampNeg))) 20 (va_cpy b (D 20) 5 0 (100 + (((g.ops o).1 5).toNatClampNeg + 3) / 4)) = D1
    have q1 : ∀ q, q ≠ 18 → q ≠ 19 → q ≠ 20 → D1 q = D q := fun q a1 a2 a3 => by rw [← hD1, va_up_n _ _ a3, va_up_n _ _ a2, va_up_n _ _ a1]
    have g18 : D1 18 = upd (upd (upd (D 18) 3 1) 4 (u 5)) 6 (u 6) := by rw [← hD1, va_up_n _ _ (by decide), va_up_n _ _ (by decide), va_up_s]
    have g19 : D1 19 = upd (upd (upd (upd (upd (upd (D 19) 0 (b 0)) 1 (b 1)) 2 (b 2)) 3 (b 3)) 4 (b 4)) 5 (nI ((g.ops o).1 5).toNatClampNeg) := by rw [← hD1, va_up_n _ _ (by decide), va_up_s]
    have g20 : D1 20 = va_cpy b (D 20) 5 0 (100 + (((g.ops o).1 5).toNatClampNeg + 3) / 4) := by rw [← hD1, va_up_s]
    have w20 : ∀ x, x < 100 + (((g.ops o).1 5).toNatClampNeg + 3) / 4 → D1 20 x = (g.ops o).2 x := fun x hx => by
      rw [g20, pk_cpy_in (by omega) (by omega), ← o6 x hx]
      congr 1
    have hq' : ∀ q, q < 18 ∨ q = 21 → D1 q = D q := fun q hq => q1 q (by omega) (by omega) (by omega)
    refine ⟨⟨by rw [hq' 7 (by omega)]; exact h.l1.1, by rw [hq' 7 (by omega)]; exact h.l1.2.1, h.l1.2.2⟩, fun i hi => by rw [hq' 8 (by omega)]; exact h.l2 i hi, fun a k h1 h2 h3 h4 n hn hb => ?_, fun fx p h1 h2 h3 h4 => ?_, Or.inr (Or.inl ⟨by rw [g18, pk_un (by decide), pk_un (by decide), pk_us], ⟨r, zr.r1, by rw [hq' 16 (by omega)]; exact zr.rt, by rw [hq' 10 (by omega), hq' 11 (by omega), hq' 12 (by omega), hq' 13 (by omega), hq' 14 (by omega), hq' 15 (by omega), hq' 16 (by omega)]; exact zr.tr, by rw [hq' 10 (by omega)]; exact zr.an, zr.md⟩, o, o1, oo2, ?_, ?_⟩)⟩
    · rw [hq' 16 (by omega)] at h2
      rw [hq' 11 (by omega), hq' 16 (by omega)] at h3
      rw [hq' 17 (by omega)] at hb
      exact h.hd a k h1 h2 h3 h4 n hn hb
    · rw [hq' 11 (by omega)] at h2
      rw [hq' 17 (by omega)]
      exact h.hz fx p h1 h2 h3 h4
    · exact ⟨hq, by rw [g18, pk_un (by decide), pk_us]; exact o2, by rw [g19, pk_un (by decide), pk_un (by decide), pk_un (by decide), pk_un (by decide), pk_un (by decide), pk_us]; exact o5 0 (by omega), fun _ => by rw [g19, pk_un (by decide), pk_un (by decide), pk_un (by decide), pk_un (by decide), pk_us]; exact o5 1 (by omega), by rw [g19, pk_un (by decide), pk_un (by decide), pk_un (by decide), pk_us]; exact o5 2 (by omega), by rw [g19, pk_un (by decide), pk_un (by decide), pk_us]; exact o5 3 (by omega), by rw [g19, pk_un (by decide), pk_us]; exact o5 4 (by omega), by rw [g19, pk_us]; exact hl5.2.symm, fun x hx => w20 x (by omega), fun _ x hx => w20 x hx⟩
    · rw [g18, pk_us]; exact o3
  have keep : ∀ q, q ≠ 18 → q ≠ 19 → q ≠ 20 → (va_up (va_up (va_up D 18 (upd (upd (upd (D 18) 3 1) 4 (u 5)) 6 (u 6))) 19 (upd (upd (upd (upd (upd (upd (D 19) 0 (b 0)) 1 (b 1)) 2 (b 2)) 3 (b 3)) 4 (b 4)) 5 (nI ((g.ops o).1 5).toNatClampNeg))) 20 (va_cpy b (D 20) 5 0 (100 + (((g.ops o).1 5).toNatClampNeg + 3) / 4))) q = D q := fun q a1 a2 a3 => by rw [va_up_n _ _ a3, va_up_n _ _ a2, va_up_n _ _ a1]
  by_cases c1 : u 5 < D 18 4
  · rw [if_pos c1]; exact ⟨D, rfl, h, fun _ _ _ _ => rfl⟩
  rw [if_neg c1]
  by_cases c2 : u 5 = D 18 4
  · rw [if_neg (fun z => z c2)]
    by_cases c3 : D 18 3 = 0
    · rw [if_neg (fun z => z c3), if_pos (by rw [c3]; decide)]
      exact ⟨_, rfl, key (by rw [c3]; decide), keep⟩
    · rw [if_pos c3]; exact ⟨D, rfl, h, fun _ _ _ _ => rfl⟩
  · rw [if_pos c2]
    by_cases c3 : D 18 3 ≤ 1
    · rw [if_pos c3]; exact ⟨_, rfl, key c3, keep⟩
    · rw [if_neg c3]; exact ⟨D, rfl, h, fun _ _ _ _ => rfl⟩

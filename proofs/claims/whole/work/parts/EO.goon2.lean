/-! goOn: change, sealRoot, tell -/
theorem bg_of {P : Pm} {g : Gh} {w : Nat → Int32} {k : Nat} (h : Bk g.ops g.bg w) (hk : w 1 = nI k) (hb : k < 5242880) (hu : uk g k) : Bg P g w := ⟨h, fun v hv e => by
  rw [hk] at e
  have hr : rtg v < 2 ^ 31 := by unfold rtg tgN; omega
  have := nI_inj (by omega) hr e
  unfold rtg tgN at this
  omega, k, by omega, hk, hu⟩
theorem efA_s {ops : Nat → Mg} {o a : Nat} {T' : TS} (h : stp (tsp ops o) o (ops o) = some (a, T')) : efA ops (o + 1) = nI a := by
  show (match stp (tsp ops o) o (ops o) with | some x => nI x.1 | none => efA ops o) = nI a
  rw [h]
theorem change_all {P : Pm} {g : Gh} {e : Nat} {me : Int32} {u b : Nat → Int32} {D : Nat → Nat → Int32} {K A : Int64} {Y : List Mg} (hG : GO g) (h : LO P g e D K) (hs : D 18 3 = 2) (h12 : D 18 12 = 0) :
    ∃ (D' : Nat → Nat → Int32) (K' : Int64), bnS (F_104 P.nn P.gg P.C me P.f u b D K A Y) (fun D3 K3 A3 Y3 => bnS (F_114 P.nn P.gg P.C me P.f u b D3 K3 A3 Y3) (fun D4 K4 A4 Y4 => (D4, K4, A4, Y4))) = (D', K', A, Y) ∧ (∀ q, q < 10 → D' q = D q) ∧ (LO P g e D' K' ∨ TE P g e D' K') := by
  have h512 := hG.1
  rcases h.st with ⟨z, _⟩ | ⟨z, _⟩ | ⟨_, o, ⟨ho, ho2⟩, z1, z2, z3, z4⟩ | ⟨z, _⟩ | ⟨z, _⟩
  · rw [hs] at z; exact absurd z (by decide)
  · rw [hs] at z; exact absurd z (by decide)
  · have hT := hG.tok (Nat.le_of_lt ho)
    have hS := hG.stb (Nat.le_of_lt ho)
    have hFE : FE g.ops (Bk g.ops g.bg) o D K := z1.mono (fun w hw => hw.1)
    rcases change_lem (nn := P.nn) (gg := P.gg) (C := P.C) (me := me) (f := P.f) (u := u) (b := b) (A := A) (Y := Y) (by omega) hT hS hFE h12 with ⟨k4, hn, D', r1, r2, r3, r4⟩ | ⟨a, T', D1, K1, r1, r2, r3, r4⟩
    · -- READ
      rw [r1, bnS_e]
      have hF : F_114 P.nn P.gg P.C me P.f u b D' K A Y = (D', K, A, Y) := by
        unfold F_114
        rw [if_neg (by rw [r2]; decide)]
      rw [hF, bnS_e]
      have hq : ∀ q, q < 18 → D' q = D q := fun q hq => r4 q (by omega) (by omega)
      have hk18 : K18 D D' := hq
      obtain ⟨b1, b2, b3, b4⟩ := hk18.b h
      refine ⟨D', K, rfl, fun q hq' => hq q (by omega), Or.inr ⟨b1, b2, b3, b4, r2, ⟨o, Nat.le_of_lt ho, by rw [hq 16 (by decide)]; exact z1.rt, (z1.tk.k18 hk18).1, by rw [hq 10 (by decide)]; exact z3, z4⟩, o, ho, by rw [r3 4 (by decide)]; exact z1.ak.op, fun z => ?_, fun _ => Or.inl k4⟩⟩
      obtain ⟨_, x, hx⟩ := z
      cases (hn.symm.trans hx)
    · rw [r3, bnS_e]
      obtain ⟨D4, y1, y2⟩ := seal_lem (bg := g.bg) (nn := P.nn) (gg := P.gg) (C := P.C) (me := me) (f := P.f) (u := u) (b := b) (A := A) (Y := Y) (by omega) ho hT z1.tk ⟨_, r1⟩ r4
      rw [y1, bnS_e]
      refine ⟨D4, K1, rfl, fun q hq => y2.kq q (Or.inl hq), Or.inl ⟨⟨by rw [y2.kq 7 (by omega)]; exact h.l1.1, by rw [y2.kq 7 (by omega)]; exact h.l1.2.1, h.l1.2.2⟩, fun i hi => by rw [y2.kq 8 (by omega)]; exact h.l2 i hi, fun x t h1 h2 h3 h4 m hm hb => ?_, fun f p h1 h2 h3 _ => ?_, Or.inr (Or.inr (Or.inr (Or.inl ⟨y2.st, o, ?_⟩)))⟩⟩
      · rcases y2.hr x h1 h2 with w | ⟨w1, w2, w3⟩
        · rw [w, b_0] at hb; cases hb
        · rw [w1] at hb
          rw [w2] at h3
          exact h.hd x t h1 w3 h3 h4 m hm hb
      · have := y2.tk.2 f h1 h2
        rw [h3] at this; cases this
      · refine ⟨⟨ho, ho2, z1.ak.cg (by rw [y2.f4]; exact z1.ak.op.symm) (fun x _ => by rw [y2.kq 19 (by omega)]) (fun _ => by rw [y2.kq 19 (by omega)]) (y2.kq 20 (by omega)), by rw [y2.f5 6 (by omega)]; exact z2⟩, ⟨ho, _, r1⟩, y2.tk, Or.inl ⟨by rw [y2.rt.1]; exact z1.rt, z4⟩, by rw [y2.f5 5 (by omega), r2, efA_s r1], fun j hj => ?_, Or.inr y2.b2⟩
        rcases y2.b1 j hj with w | ⟨w1, w2, w3, k, w4, w5, w6⟩
        · exact Or.inl w
        · exact Or.inr ⟨w1, w2, bg_of w3 w4 w5 ⟨by rw [w6.1]; exact ho2.2, Or.inl (by rw [w6.1]; exact ho2.1)⟩, k, w4, w5, w6⟩
  · rw [hs] at z; exact absurd z (by decide)
  · rw [hs] at z; exact absurd z (by decide)
/-- areSafe -/
theorem arS_ok {gg : Nat} {D : Nat → Nat → Int32} : ∀ (k i : Nat), ¬ arS gg D k i = 0 → ∀ j, i ≤ j → j < i + k → ¬ D 21 (j * 128) = 0 → ¬ fndI (D 15) (D 16) (D 21 (j * 128 + 1)) = -1 ∧ ¬ sfB (D 8) (D 11) (D 16) (D 17) gg (fndI (D 15) (D 16) (D 21 (j * 128 + 1))).toNatClampNeg = 0
  | 0, i, _, j, h1, h2, _ => absurd h2 (by omega)
  | k + 1, i, h, j, h1, h2, h3 => by
    unfold arS at h
    by_cases c : seB (D 21 (i * 128)) = 0
    · rw [if_pos c] at h
      by_cases ej : j = i
      · subst ej
        unfold seB at c
        rw [if_neg h3] at c
        exact absurd c (by decide)
      · exact arS_ok k (i + 1) h j (by omega) (by omega) h3
    · rw [if_neg c] at h
      by_cases d : fndI (D 15) (D 16) (D 21 (i * 128 + 1)) = -1
      · rw [if_pos d] at h
        exact absurd rfl h
      · rw [if_neg d, bnN_e] at h
        by_cases q : sfB (D 8) (D 11) (D 16) (D 17) gg (fndI (D 15) (D 16) (D 21 (i * 128 + 1))).toNatClampNeg = 0
        · rw [if_neg (fun z => z q)] at h
          exact absurd rfl h
        · rw [if_pos q] at h
          by_cases ej : j = i
          · subst ej
            exact ⟨d, q⟩
          · exact arS_ok k (i + 1) h j (by omega) (by omega) h3
theorem TK.r9 {T : TS} {fl : Int32} {jf zf nf mf fo vf : Nat → Int32} {K : Int64} (h : TK T fl jf zf nf mf fo vf K) (v : Int32) : TK T fl jf zf nf mf fo (upd vf 960 v) K := by
  refine ⟨⟨h.1.b1, fun f hf => ?_, h.1.c1, fun i f hi hf e => by rw [pk_un (by omega)]; exact h.1.r1 i f hi hf e, fun i f hi hf e ek => ?_, fun i f hi hf e ek => ?_, h.1.kb⟩, h.2⟩
  · rcases h.1.b2 f hf with ⟨x1, x2, x3, x4⟩ | x
    · exact Or.inl ⟨x1, x2, x3, fun p hp => by rw [pk_un (by omega)]; exact x4 p hp⟩
    · exact Or.inr x
  · obtain ⟨x1, x2, x3, x4⟩ := h.1.k1 i f hi hf e ek
    exact ⟨x1, x2, x3, fun p hp => by rw [pk_un (by omega)]; exact x4 p hp⟩
  · obtain ⟨x1, x2⟩ := h.1.u1 i f hi hf e ek
    exact ⟨x1, fun p hp => by rw [pk_un (by omega)]; exact x2 p hp⟩
theorem shl24 : ¬ (1 : Int32) <<< (24 &&& 31) = 0 := by decide
/-- sealRoot -/
theorem root_all {P : Pm} {g : Gh} {e : Nat} {me : Int32} {u b : Nat → Int32} {D : Nat → Nat → Int32} {K A : Int64} {Y : List Mg} (hG : GO g) (hgg : 0 < P.gg) (hnn : P.nn ≤ 6) (h : LO P g e D K) (hs : D 18 3 = 3) (ha : ¬ arS P.gg D 8 0 = 0) :
    ∃ D' : Nat → Nat → Int32, F_121 P.nn P.gg P.C me P.f u b D K A Y = (D', K, A, Y) ∧ (∀ q, q < 10 → D' q = D q) ∧ LO P g e D' K := by
  have h512 := hG.1
  rcases h.st with ⟨z, _⟩ | ⟨z, _⟩ | ⟨z, _⟩ | ⟨_, o, zo⟩ | ⟨z, _⟩
  · rw [hs] at z; exact absurd z (by decide)
  · rw [hs] at z; exact absurd z (by decide)
  · rw [hs] at z; exact absurd z (by decide)
  · have ho := zo.wa.o1
    have hT := hG.tok (k := o + 1) ho
    have hop := zo.wa.ak.op
    have c4 : (D 18 4).toNatClampNeg = o := by rw [hop, nI_clamp (by omega)]
    obtain ⟨d1, d2, d3⟩ := tgN_d (i := 512) (p := 0) (v := o) (by decide) (by omega)
    have hlt : rtg o < 5243392 := by unfold rtg tgN; omega
    have hz8 : ∀ x, x < 128 → D 21 (1024 + x) = 0 := fun x hx => by
      rcases zo.nb.b1 8 (by omega) with w | ⟨w, _⟩
      · exact w x hx
      · omega
    -- the new ROOT is made
    have hmade : made P g o := by
      rcases zo.rt with ⟨w1, w2⟩ | ⟨_, _, w3⟩
      · refine made_new hG zo.ef h.l1.2.2.2 (fun v hv hv5 => w2 v hv5 hv) (fun k hk hko hit => ?_)
        rcases zo.nb.b2 with w | w
        · exfalso
          rw [w1] at w
          have := (efv_lt w (by omega) (by omega)).1
          omega
        · obtain ⟨j, j1, j2, j3⟩ := w k hk hko hit
          obtain ⟨f1, f2⟩ := arS_ok 8 0 ha j (by omega) (by omega) (by rw [j2]; exact shl24)
          rw [j3] at f1 f2
          rcases h.find hgg (show k < 5243392 by omega) with ⟨q1, _⟩ | ⟨a, a1, a2, a3, a4, _, _⟩
          · exact absurd q1 f1
          · rw [a2, nI_clamp (by omega)] at f2
            exact h.safe hgg hnn a1 (by omega) a3 a4 f2
      · exact w3
    have mkB : ∀ w : Nat → Int32, w 1 = nI (rtg o) → (∀ x, 2 ≤ x → x < 127 → w x = rootW (tsp g.ops (o + 1)) (efA g.ops (o + 1)) x) → Bg P g w := fun w hw1 hw2 => by
      refine ⟨⟨rtg o, hlt, hw1, by show tgN 512 0 o % 512 < _; rw [d3]; exact ho, by show ∃ x, stp (tsp g.ops (tgN 512 0 o % 512)) (tgN 512 0 o % 512) (g.ops (tgN 512 0 o % 512)) = some x; rw [d3]; exact zo.ef.2, Or.inl ⟨d1, rfl⟩, fun _ => ?_, fun z => absurd d1 z, fun z => absurd d1 z⟩, fun v hv ev => ?_, rtg o, hlt, hw1, by show tgN 512 0 o % 512 ≤ _; rw [d3]; exact zo.wa.o2.2, Or.inl (by show _ ≤ tgN 512 0 o % 512; rw [d3]; exact zo.wa.o2.1)⟩
      · show ∀ x, 2 ≤ x → x < 127 → w x = rootW (tsp g.ops (tgN 512 0 o % 512 + 1)) (efA g.ops (tgN 512 0 o % 512 + 1)) x
        rw [d3]
        exact hw2
      · rw [hw1] at ev
        have hr : rtg v < 2 ^ 31 := by unfold rtg tgN; omega
        have := rtg_inj (nI_inj (by omega) hr ev)
        rw [← this]
        exact hmade
    unfold F_121
    rw [bnN_e, c4]
    by_cases c : D 16 960 = nI o
    · rw [if_pos c]
      have han : D 10 10 = efA g.ops (o + 1) := by
        rcases zo.rt with ⟨w1, _⟩ | ⟨_, w2, _⟩
        · rw [w1] at c
          have := (efv_lt c (by omega) (by omega)).1
          omega
        · exact w2
      have htag : tgA (D 11) (D 16) 960 = nI (rtg o) := tgA_r c
      rw [htag]
      generalize hB : wrR (D 15) (D 16) 1024 512 0 0 (upd (upd (D 21) (1024 + 15) (D 10 9)) (1024 + 16) (D 10 10)) = B
      have hBw : ∀ x, 2 ≤ x → x < 127 → B (1024 + x) = rootW (tsp g.ops (o + 1)) (efA g.ops (o + 1)) x := fun x h1 h2 => by
        rw [← hB, ← han]
        exact zo.tk.root hT.c1 hz8 x h1 h2
      obtain ⟨w1, w2, w3, w4⟩ := sealdW B 1024 (nI (rtg o))
      generalize hD1 : va_up (va_up D 18 (upd (D 18) 3 4)) 21 (seald B 1024 (nI (rtg o))) = D1
      have q1 : ∀ q, q ≠ 18 → q ≠ 21 → D1 q = D q := fun q a1 a2 => by rw [← hD1, va_up_n _ _ a2, va_up_n _ _ a1]
      have g18 : D1 18 = upd (D 18) 3 4 := by rw [← hD1, va_up_n _ _ (by decide), va_up_s]
      have g21 : D1 21 = seald B 1024 (nI (rtg o)) := by rw [← hD1, va_up_s]
      have hk18 : K18 D D1 := fun q hq => q1 q (by omega) (by omega)
      obtain ⟨b1, b2, b3, b4⟩ := hk18.b h
      refine ⟨D1, rfl, fun q hq => q1 q (by omega) (by omega), b1, b2, b3, b4, Or.inr (Or.inr (Or.inr (Or.inr ⟨by rw [g18, pk_us], o, zo.wa.cg (by rw [g18, pk_un (by decide)]) (by rw [g18, pk_un (by decide)]) (q1 19 (by decide) (by decide)) (q1 20 (by decide) (by decide)), zo.ef, zo.tk.k18 hk18, by rw [q1 16 (by decide) (by decide)]; exact c, by rw [q1 10 (by decide) (by decide)]; exact han, hmade, by rw [g18, pk_un (by decide)]; exact zo.a5, by rw [g21]; exact w1, by rw [g21]; exact w2, ?_⟩)))⟩
      refine mkB _ (by show D1 21 (1024 + 1) = _; rw [g21]; exact w2) (fun x h1 h2 => ?_)
      show D1 21 (1024 + x) = _
      rw [g21, w4 _ (by omega) (by omega) (by omega)]
      exact hBw x h1 h2
    · rw [if_neg c]
      have htag : tgA (D 11) (upd (D 16) 960 (nI o)) 960 = nI (rtg o) := tgA_r pk_us
      rw [htag]
      have htk2 := zo.tk.r9 (nI o)
      generalize hB : wrR (D 15) (upd (D 16) 960 (nI o)) 1024 512 0 0 (upd (upd (D 21) (1024 + 15) (D 10 9)) (1024 + 16) (D 18 5)) = B
      have hBw : ∀ x, 2 ≤ x → x < 127 → B (1024 + x) = rootW (tsp g.ops (o + 1)) (efA g.ops (o + 1)) x := fun x h1 h2 => by
        rw [← hB, ← zo.a5]
        exact htk2.root (an := D 18 5) (wf := D 21) hT.c1 hz8 x h1 h2
      obtain ⟨w1, w2, w3, w4⟩ := sealdW B 1024 (nI (rtg o))
      generalize hD1 : va_up (va_up (va_up (va_up (va_up D 10 (upd (D 10) 10 (D 18 5))) 16 (upd (D 16) 960 (nI o))) 17 (upd (D 17) 960 0)) 18 (upd (D 18) 3 4)) 21 (seald B 1024 (nI (rtg o))) = D1
      have q1 : ∀ q, q ≠ 10 → q ≠ 16 → q ≠ 17 → q ≠ 18 → q ≠ 21 → D1 q = D q := fun q a1 a2 a3 a4 a5 => by rw [← hD1, va_up_n _ _ a5, va_up_n _ _ a4, va_up_n _ _ a3, va_up_n _ _ a2, va_up_n _ _ a1]
      have g10 : D1 10 = upd (D 10) 10 (D 18 5) := by rw [← hD1, va_up_n _ _ (by decide), va_up_n _ _ (by decide), va_up_n _ _ (by decide), va_up_n _ _ (by decide), va_up_s]
      have g16 : D1 16 = upd (D 16) 960 (nI o) := by rw [← hD1, va_up_n _ _ (by decide), va_up_n _ _ (by decide), va_up_n _ _ (by decide), va_up_s]
      have g17 : D1 17 = upd (D 17) 960 0 := by rw [← hD1, va_up_n _ _ (by decide), va_up_n _ _ (by decide), va_up_s]
      have g18 : D1 18 = upd (D 18) 3 4 := by rw [← hD1, va_up_n _ _ (by decide), va_up_s]
      have g21 : D1 21 = seald B 1024 (nI (rtg o)) := by rw [← hD1, va_up_s]
      have hq : ∀ q, q < 10 ∨ (10 < q ∧ q < 16) ∨ q = 19 ∨ q = 20 → D1 q = D q := fun q hq => q1 q (by omega) (by omega) (by omega) (by omega) (by omega)
      have htk3 : TKD (tsp g.ops (o + 1)) D1 K := by
        show TK _ (D1 10 9) (D1 11) (D1 12) (D1 13) (D1 14) (D1 15) (D1 16) K
        rw [g10, pk_un (by decide), hq 11 (by omega), hq 12 (by omega), hq 13 (by omega), hq 14 (by omega), hq 15 (by omega), g16]
        exact htk2
      refine ⟨D1, rfl, fun q hq' => hq q (by omega), ⟨by rw [hq 7 (by omega)]; exact h.l1.1, by rw [hq 7 (by omega)]; exact h.l1.2.1, h.l1.2.2⟩, fun i hi => by rw [hq 8 (by omega)]; exact h.l2 i hi, fun x t h1 h2 h3 h4 m hm hb => ?_, fun f p h1 h2 h3 _ => ?_, Or.inr (Or.inr (Or.inr (Or.inr ⟨by rw [g18, pk_us], o, zo.wa.cg (by rw [g18, pk_un (by decide)]) (by rw [g18, pk_un (by decide)]) (hq 19 (by omega)) (hq 20 (by omega)), zo.ef, htk3, by rw [g16, pk_us], by rw [g10, pk_us]; exact zo.a5, hmade, by rw [g18, pk_un (by decide)]; exact zo.a5, by rw [g21]; exact w1, by rw [g21]; exact w2, ?_⟩)))⟩
      · rw [g17] at hb
        by_cases z : x = 960
        · rw [z, pk_us, b_0] at hb; cases hb
        · rw [pk_un z] at hb
          rw [g16, pk_un z] at h2
          have : tgA (D1 11) (D1 16) x = tgA (D 11) (D 16) x := by unfold tgA; rw [g16, pk_un z, hq 11 (by omega)]
          rw [this] at h3
          exact h.hd x t h1 h2 h3 h4 m hm hb
      · have := htk3.2 f h1 h2
        rw [h3] at this; cases this
      · refine mkB _ (by show D1 21 (1024 + 1) = _; rw [g21]; exact w2) (fun x h1 h2 => ?_)
        show D1 21 (1024 + x) = _
        rw [g21, w4 _ (by omega) (by omega) (by omega)]
        exact hBw x h1 h2
  · rw [hs] at z; exact absurd z (by decide)

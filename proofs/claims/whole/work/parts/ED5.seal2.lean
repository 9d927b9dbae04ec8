/-! the table and the new ITEMS behind sealItems -/
def ST (ops : Nat → Mg) (bg o : Nat) (D0 D : Nat → Nat → Int32) (K : Int64) : Prop :=
  (D 18 3 = 3) ∧
  (D 18 4 = nI o) ∧
  (∀ x, x = 5 ∨ x = 6 → D 18 x = D0 18 x) ∧
  (TKD (tsp ops (o + 1)) D K) ∧
  (D 16 960 = D0 16 960 ∧ D 17 960 = D0 17 960) ∧
  (HR D0 D) ∧
  (D 10 10 = D0 10 10) ∧
  (∀ q, q < 10 ∨ q = 19 ∨ q = 20 → D q = D0 q) ∧
  (∀ j, j < 9 → (∀ x, x < 128 → D 21 (j * 128 + x) = 0) ∨ (j < 8 ∧ D 21 (j * 128) = (1 : Int32) <<< (24 &&& 31) ∧ Bk ops bg (fun x => D 21 (j * 128 + x)) ∧ ∃ k, D 21 (j * 128 + 1) = nI k ∧ k < 5242880 ∧ k % 512 = o ∧ isIt (tsp ops (o + 1)) (nI o) k)) ∧
  (∀ k, k < 5242880 → k % 512 = o → isIt (tsp ops (o + 1)) (nI o) k → ∃ j, j < 8 ∧ D 21 (j * 128) = (1 : Int32) <<< (24 &&& 31) ∧ D 21 (j * 128 + 1) = nI k)
theorem ST.st {ops : Nat → Mg} {bg o : Nat} {D0 D : Nat → Nat → Int32} {K : Int64} (h_ : ST ops bg o D0 D K) : D 18 3 = 3 := h_.1
theorem ST.f4 {ops : Nat → Mg} {bg o : Nat} {D0 D : Nat → Nat → Int32} {K : Int64} (h_ : ST ops bg o D0 D K) : D 18 4 = nI o := h_.2.1
theorem ST.f5 {ops : Nat → Mg} {bg o : Nat} {D0 D : Nat → Nat → Int32} {K : Int64} (h_ : ST ops bg o D0 D K) : ∀ x, x = 5 ∨ x = 6 → D 18 x = D0 18 x := h_.2.2.1
theorem ST.tk {ops : Nat → Mg} {bg o : Nat} {D0 D : Nat → Nat → Int32} {K : Int64} (h_ : ST ops bg o D0 D K) : TKD (tsp ops (o + 1)) D K := h_.2.2.2.1
theorem ST.rt {ops : Nat → Mg} {bg o : Nat} {D0 D : Nat → Nat → Int32} {K : Int64} (h_ : ST ops bg o D0 D K) : D 16 960 = D0 16 960 ∧ D 17 960 = D0 17 960 := h_.2.2.2.2.1
theorem ST.hr {ops : Nat → Mg} {bg o : Nat} {D0 D : Nat → Nat → Int32} {K : Int64} (h_ : ST ops bg o D0 D K) : HR D0 D := h_.2.2.2.2.2.1
theorem ST.an {ops : Nat → Mg} {bg o : Nat} {D0 D : Nat → Nat → Int32} {K : Int64} (h_ : ST ops bg o D0 D K) : D 10 10 = D0 10 10 := h_.2.2.2.2.2.2.1
theorem ST.kq {ops : Nat → Mg} {bg o : Nat} {D0 D : Nat → Nat → Int32} {K : Int64} (h_ : ST ops bg o D0 D K) : ∀ q, q < 10 ∨ q = 19 ∨ q = 20 → D q = D0 q := h_.2.2.2.2.2.2.2.1
theorem ST.b1 {ops : Nat → Mg} {bg o : Nat} {D0 D : Nat → Nat → Int32} {K : Int64} (h_ : ST ops bg o D0 D K) : ∀ j, j < 9 → (∀ x, x < 128 → D 21 (j * 128 + x) = 0) ∨ (j < 8 ∧ D 21 (j * 128) = (1 : Int32) <<< (24 &&& 31) ∧ Bk ops bg (fun x => D 21 (j * 128 + x)) ∧ ∃ k, D 21 (j * 128 + 1) = nI k ∧ k < 5242880 ∧ k % 512 = o ∧ isIt (tsp ops (o + 1)) (nI o) k) := h_.2.2.2.2.2.2.2.2.1
theorem ST.b2 {ops : Nat → Mg} {bg o : Nat} {D0 D : Nat → Nat → Int32} {K : Int64} (h_ : ST ops bg o D0 D K) : ∀ k, k < 5242880 → k % 512 = o → isIt (tsp ops (o + 1)) (nI o) k → ∃ j, j < 8 ∧ D 21 (j * 128) = (1 : Int32) <<< (24 &&& 31) ∧ D 21 (j * 128 + 1) = nI k := h_.2.2.2.2.2.2.2.2.2
/-- one of the two RECORDS -/
theorem H_step {T : TS} {nn gg : Nat} {C me : Int32} {f u b : Nat → Int32} {D : Nat → Nat → Int32} {K A : Int64} {Y : List Mg} {o k j : Nat} {r : Option Nat} {y : Int32} (ho : o < 512) (h4 : D 18 4 = nI o) (hj : (j = 6 ∧ y = D 18 13) ∨ (j = 7 ∧ y = D 18 14)) (ht : TKD T D K) (hr : fdP (D 11) y r) (hz : ∀ x, x < 128 → D 21 (j * 128 + x) = 0) :
    ∃ D' : Nat → Nat → Int32, H_114 nn gg C me f u b (k + 1) j D K A Y = H_114 nn gg C me f u b k (j + 1) D' K A Y ∧ ((r = none ∧ D' = D) ∨ ∃ g i, r = some i ∧ g < 48 ∧ i < 512 ∧ D 11 g = nI i ∧ SH T D K g i o j D') := by
  have c4 : (D 18 4).toNatClampNeg = o := by rw [h4, nI_clamp (by omega)]
  rw [H_114.eq_2, bnN_e, c4]
  rcases hj with ⟨hj, hy⟩ | ⟨hj, hy⟩
  · subst hj
    rw [if_neg (fun z => z rfl)]
    rw [hy] at hr
    rcases hr with ⟨e1, e2⟩ | ⟨g, i, hg, hi, e1, e2, e3⟩
    · rw [if_pos e1]
      exact ⟨D, rfl, Or.inl ⟨e2, rfl⟩⟩
    · have cg : (D 18 13).toNatClampNeg = g := by rw [e1, nI_clamp (by omega)]
      rw [if_neg (by rw [e1]; exact nIneg (by omega)), bnN_e, cg]
      exact ⟨_, rfl, Or.inr ⟨g, i, e3, hg, hi, e2, seal_rec hg hi ho ht e2 hz⟩⟩
  · subst hj
    rw [if_pos (by decide)]
    rw [hy] at hr
    rcases hr with ⟨e1, e2⟩ | ⟨g, i, hg, hi, e1, e2, e3⟩
    · rw [if_pos e1]
      exact ⟨D, rfl, Or.inl ⟨e2, rfl⟩⟩
    · have cg : (D 18 14).toNatClampNeg = g := by rw [e1, nI_clamp (by omega)]
      rw [if_neg (by rw [e1]; exact nIneg (by omega)), bnN_e, cg]
      exact ⟨_, rfl, Or.inr ⟨g, i, e3, hg, hi, e2, seal_rec hg hi ho ht e2 hz⟩⟩
/-- what the RECORD of i says does not hang on VERSIONS of RECORDS -/
theorem recW_rc (T : TS) (i j o x : Nat) : recW (T.rcd j o) i x = recW T i x := by
  unfold recW
  by_cases c4 : 67 ≤ x ∧ x < 86
  · rw [if_pos c4, if_pos c4]
    have : (T.rcd j o).vr i (x - 67) = T.vr i (x - 67) := by
      by_cases e : i = j
      · subst e; exact rcd_i.2 _ (by omega)
      · exact rcd_o e _
    rw [this]
    rfl
  · rw [if_neg c4, if_neg c4]
    rfl
theorem recW_wd (T : TS) (i x : Nat) (g : Nat → Nat → Int32) : recW (T.wdt g) i x = recW T i x := rfl
theorem TK.wdt {T : TS} {fl : Int32} {jf zf nf mf fo vf : Nat → Int32} {K : Int64} (h : TK T fl jf zf nf mf fo vf K) (g : Nat → Nat → Int32) : TK (T.wdt g) fl jf zf nf mf fo vf K := ⟨⟨h.1.b1, h.1.b2, h.1.c1, h.1.r1, h.1.k1, h.1.u1, h.1.kb⟩, h.2⟩
set_option maxRecDepth 4000 in
theorem seal_lem {ops : Nat → Mg} {bg o : Nat} {nn gg : Nat} {C me : Int32} {f u b : Nat → Int32} {D0 D : Nat → Nat → Int32} {K0 K A : Int64} {Y : List Mg} (ho : o < 512) (hob : o < bg) (hT : TOK (tsp ops o) o) (h0 : TKD (tsp ops o) D0 K0) (heff : ∃ x, stp (tsp ops o) o (ops o) = some x) (h : CH ops o D0 D K) :
    ∃ D' : Nat → Nat → Int32, F_114 nn gg C me f u b D K A Y = (D', K, A, Y) ∧ ST ops bg o D0 D' K := by
  obtain ⟨T1, fi, i0, q0, c, r1, r2, gd', ht1, e11, hc6, hfi, hr1, hr2, hT', hst, hbz, hr12⟩ := h.ex
  have c11 : (D 18 11).toNatClampNeg = c := by rw [e11, nI_clamp (by omega)]
  have h0sg : SG T1 D K fi i0 q0 o 0 D := ⟨fun _ _ _ _ => rfl, by rw [ver_no T1 i0 _ _ (fun p => by omega)]; exact ht1, ⟨rfl, rfl⟩, fun _ _ => Or.inl ⟨rfl, rfl⟩, fun j hj => absurd hj (by omega), fun _ _ => rfl⟩
  obtain ⟨D2, g1, sg⟩ := seal_lp (nn := nn) (gg := gg) (C := C) (me := me) (f := f) (u := u) (b := b) (A := A) (Y := Y) (c := c) ho h.f4 hfi hc6 c 0 D (by omega) h0sg
  have hF : F_114 nn gg C me f u b D K A Y = H_114 nn gg C me f u b 2 6 D2 K A Y := by
    unfold F_114
    rw [if_pos h.st, bnN_e, c11]
    exact g1
  rw [hF]
  generalize hT2 : T1.ver i0 (fun p => q0 ≤ p ∧ p < q0 + c) (nI o) = T2 at hT'
  have sgt : TKD T2 D2 K := by rw [← hT2]; exact sg.t
  have e2 : ∀ q, q ≠ 16 → q ≠ 17 → q ≠ 21 → D2 q = D q := sg.k
  have hz2 : ∀ y, c * 128 ≤ y → y < 1152 → D2 21 y = 0 := fun y h1 h2 => by rw [sg.n y h1]; exact hbz y h1 h2
  obtain ⟨D3, g3, k3⟩ := H_step (T := T2) (nn := nn) (gg := gg) (C := C) (me := me) (f := f) (u := u) (b := b) (A := A) (Y := Y) (k := 1) (j := 6) (r := r1) (y := D2 18 13) ho (by rw [e2 18 (by decide) (by decide) (by decide)]; exact h.f4) (Or.inl ⟨rfl, rfl⟩) sgt (by rw [e2 18 (by decide) (by decide) (by decide), e2 11 (by decide) (by decide) (by decide)]; exact hr1) (fun x hx => hz2 _ (by omega) (by omega))
  -- behind the first RECORD
  have k3' : (∀ q, q ≠ 16 → q ≠ 17 → q ≠ 21 → D3 q = D2 q) ∧ TKD (rcO T2 r1 o) D3 K ∧ (D3 16 960 = D2 16 960 ∧ D3 17 960 = D2 17 960) ∧ (∀ a, a < 960 → (D3 17 a = D2 17 a ∧ D3 16 a = D2 16 a) ∨ D3 17 a = 0) ∧ (∀ y, y < 6 * 128 ∨ 6 * 128 + 128 ≤ y → D3 21 y = D2 21 y) ∧ ((r1 = none ∧ ∀ x, x < 128 → D3 21 (6 * 128 + x) = 0) ∨ ∃ i, r1 = some i ∧ i < 512 ∧ D3 21 (6 * 128) = (1 : Int32) <<< (24 &&& 31) ∧ D3 21 (6 * 128 + 1) = nI (tgN i 19 o) ∧ ∀ x, 2 ≤ x → x < 127 → D3 21 (6 * 128 + x) = recW T2 i x) := by
    rcases k3 with ⟨z1, z2⟩ | ⟨g, i, z1, z2, z3, z4, z5⟩
    · subst z2
      rw [z1]
      exact ⟨fun _ _ _ _ => rfl, sgt, ⟨rfl, rfl⟩, fun _ _ => Or.inl ⟨rfl, rfl⟩, fun _ _ => rfl, Or.inl ⟨rfl, fun x hx => hz2 _ (by omega) (by omega)⟩⟩
    · rw [z1]
      exact ⟨z5.k, z5.t, z5.r, z5.h, z5.n, Or.inr ⟨i, rfl, z3, z5.s⟩⟩
  clear k3
  obtain ⟨p1, p2, p3, p4, p5, p6⟩ := k3'
  have e3 : ∀ q, q ≠ 16 → q ≠ 17 → q ≠ 21 → D3 q = D q := fun q a1 a2 a3 => by rw [p1 q a1 a2 a3, e2 q a1 a2 a3]
  obtain ⟨D4, g4, k4⟩ := H_step (T := rcO T2 r1 o) (nn := nn) (gg := gg) (C := C) (me := me) (f := f) (u := u) (b := b) (A := A) (Y := Y) (k := 0) (j := 7) (r := r2) (y := D3 18 14) ho (by rw [e3 18 (by decide) (by decide) (by decide)]; exact h.f4) (Or.inr ⟨rfl, rfl⟩) p2 (by rw [e3 18 (by decide) (by decide) (by decide), e3 11 (by decide) (by decide) (by decide)]; exact hr2) (fun x hx => by rw [p5 _ (by omega)]; exact hz2 _ (by omega) (by omega))
  have k4' : (∀ q, q ≠ 16 → q ≠ 17 → q ≠ 21 → D4 q = D3 q) ∧ TKD (rcO (rcO T2 r1 o) r2 o) D4 K ∧ (D4 16 960 = D3 16 960 ∧ D4 17 960 = D3 17 960) ∧ (∀ a, a < 960 → (D4 17 a = D3 17 a ∧ D4 16 a = D3 16 a) ∨ D4 17 a = 0) ∧ (∀ y, y < 7 * 128 ∨ 7 * 128 + 128 ≤ y → D4 21 y = D3 21 y) ∧ ((r2 = none ∧ ∀ x, x < 128 → D4 21 (7 * 128 + x) = 0) ∨ ∃ i, r2 = some i ∧ i < 512 ∧ D4 21 (7 * 128) = (1 : Int32) <<< (24 &&& 31) ∧ D4 21 (7 * 128 + 1) = nI (tgN i 19 o) ∧ ∀ x, 2 ≤ x → x < 127 → D4 21 (7 * 128 + x) = recW (rcO T2 r1 o) i x) := by
    rcases k4 with ⟨z1, z2⟩ | ⟨g, i, z1, z2, z3, z4, z5⟩
    · subst z2
      rw [z1]
      exact ⟨fun _ _ _ _ => rfl, p2, ⟨rfl, rfl⟩, fun _ _ => Or.inl ⟨rfl, rfl⟩, fun _ _ => rfl, Or.inl ⟨rfl, fun x hx => by rw [p5 _ (by omega)]; exact hz2 _ (by omega) (by omega)⟩⟩
    · rw [z1]
      exact ⟨z5.k, z5.t, z5.r, z5.h, z5.n, Or.inr ⟨i, rfl, z3, z5.s⟩⟩
  clear k4
  obtain ⟨n1, n2, n3, n4, n5, n6⟩ := k4'
  have e4 : ∀ q, q ≠ 16 → q ≠ 17 → q ≠ 21 → D4 q = D q := fun q a1 a2 a3 => by rw [n1 q a1 a2 a3, e3 q a1 a2 a3]
  have tk4 : TKD (tsp ops (o + 1)) D4 K := by rw [hT']; exact n2.wdt gd'
  -- VERSIONS of T'
  have hv19 : ∀ i, (tsp ops (o + 1)).vr i 19 = (rcO (rcO T2 r1 o) r2 o).vr i 19 := fun i => by rw [hT']; rfl
  have hvs : ∀ i p, p < 19 → (tsp ops (o + 1)).vr i p = T2.vr i p := fun i p hp => by
    have one : ∀ (X : TS) (r : Option Nat), (rcO X r o).vr i p = X.vr i p := fun X r => by
      cases r with
      | none => rfl
      | some j =>
        show (X.rcd j o).vr i p = _
        by_cases e : i = j
        · subst e; exact rcd_i.2 _ (by omega)
        · exact rcd_o e _
    rw [hT']
    show (rcO (rcO T2 r1 o) r2 o).vr i p = _
    rw [one, one]
  have hv2 : ∀ p, T2.vr i0 p = if q0 ≤ p ∧ p < q0 + c then nI o else T1.vr i0 p := fun p => by
    rw [← hT2]
    show fup T1.vr i0 _ i0 p = _
    rw [fup_s]
  have hv2o : ∀ i, i ≠ i0 → ∀ p, T2.vr i p = T1.vr i p := fun i hi p => by
    rw [← hT2]
    show fup T1.vr i0 _ i p = _
    rw [fup_n hi]
  have hex1 : ∀ i, (tsp ops (o + 1)).ex i = T1.ex i := fun i => by
    have one : ∀ (X : TS) (r : Option Nat), (rcO X r o).ex i = X.ex i := fun X r => by cases r <;> rfl
    rw [hT']
    show (rcO (rcO T2 r1 o) r2 o).ex i = _
    rw [one, one, ← hT2]
    rfl
  have hrec : ∀ i x, recW (tsp ops (o + 1)) i x = recW T2 i x := fun i x => by
    have one : ∀ (X : TS) (r : Option Nat), recW (rcO X r o) i x = recW X i x := fun X r => by
      cases r with
      | none => rfl
      | some j => exact recW_rc X i j o x
    rw [hT', recW_wd, one, one]
  have hrec1 : ∀ i x, recW (rcO T2 r1 o) i x = recW T2 i x := fun i x => by
    cases r1 with
    | none => rfl
    | some j => exact recW_rc T2 i j o x
  -- no VERSION o before
  have hold : ∀ i p, i < 512 → p < 20 → T1.ex i = true → ¬ T1.vr i p = nI o := fun i p hi hp hx z => by
    obtain ⟨g, g1, g2, g3⟩ := ht1.1.fx hi hx
    have ha := (ht1.at g1 hi g3).2.2.2 p hp
    rw [z] at ha
    obtain ⟨b1, b2⟩ := h.hc.2.2 (g * 20 + p) (by omega) (by rw [ha]; exact nI_pos (by omega))
    rw [show (g * 20 + p) / 20 = g by omega, g3] at b2
    have h0a := (h0.at g1 hi b2.symm).2.2.2 p hp
    rw [← b1, ha] at h0a
    rcases hT.v1 i p with y | ⟨v, y1, y2⟩
    · rw [y] at h0a; exact nIneg (by omega) h0a
    · rw [y2] at h0a
      have := nI_inj (by omega) (by omega) h0a
      omega
  have hi0 : 0 < c → fi < 48 ∧ i0 < 512 ∧ D 11 fi = nI i0 ∧ q0 + c ≤ 19 := fun hc => by
    rcases hfi with z | ⟨z1, z2, z3, _, _, z6⟩
    · omega
    · exact ⟨z1, z2, z3, z6⟩
  have hexf : ∀ {g i : Nat}, g < 48 → i < 512 → D 11 g = nI i → (tsp ops (o + 1)).ex i = true := fun hg hi e => by rw [hex1]; exact (ht1.1.jx hg hi e).1
  have mkB : ∀ (i p : Nat) (w : Nat → Int32), i < 512 → p < 20 → (tsp ops (o + 1)).ex i = true → (tsp ops (o + 1)).vr i p = nI o → w 1 = nI (tgN i p o) → (p = 19 → ∀ x, 2 ≤ x → x < 127 → w x = recW (tsp ops (o + 1)) i x) → (p < 19 → stW (tsp ops (o + 1)) i p w) → Bk ops bg w ∧ ∃ k, w 1 = nI k ∧ k < 5242880 ∧ k % 512 = o ∧ isIt (tsp ops (o + 1)) (nI o) k := fun i p w hi hp hx hv hw hrc hsw => by
    obtain ⟨d1, d2, d3⟩ := tgN_d (i := i) hp ho
    have hb : tgN i p o < 5242880 := by unfold tgN; omega
    have hit : isIt (tsp ops (o + 1)) (nI o) (tgN i p o) := Or.inr ⟨by rw [d1]; exact hi, by rw [d1]; exact hx, by rw [d1, d2, d3]; exact hv⟩
    refine ⟨⟨tgN i p o, by omega, hw, by rw [d3]; exact hob, by rw [d3]; exact heff, by rw [d3]; exact hit, fun z => by rw [d1] at z; omega, fun _ z => ?_, fun _ z => ?_⟩, _, hw, hb, d3, hit⟩
    · rw [d2] at z
      rw [d3, d1]
      exact hrc z
    · rw [d2] at z
      rw [d3, d1, d2]
      exact hsw (by omega)
  refine ⟨D4, by rw [g3, g4]; rfl, ?_⟩
  refine ⟨?_, ?_, ?_, ?_, ?_, ?_, ?_, ?_, ?_, ?_⟩
  · exact by rw [e4 18 (by decide) (by decide) (by decide)]; exact h.st
  · exact by rw [e4 18 (by decide) (by decide) (by decide)]; exact h.f4
  · exact fun x hx => by rw [e4 18 (by decide) (by decide) (by decide)]; exact h.f5 x hx
  · exact tk4
  · exact ⟨by rw [n3.1, p3.1, sg.r.1]; exact h.hc.2.1, by rw [n3.2, p3.2, sg.r.2, h.hc.1]⟩
  · exact fun a ha hn => by
      by_cases e9 : a = 960
      · subst e9
        right
        rw [n3.1, p3.1, sg.r.1] at hn
        refine ⟨by rw [n3.2, p3.2, sg.r.2, h.hc.1], ?_, by rw [← h.hc.2.1]; exact hn⟩
        unfold tgA
        rw [if_pos rfl, if_pos rfl, n3.1, p3.1, sg.r.1, h.hc.2.1]
      · have hchain : (D4 17 a = D 17 a ∧ D4 16 a = D 16 a) ∨ D4 17 a = 0 := by
          rcases n4 a (by omega) with ⟨x1, x2⟩ | x
          · rcases p4 a (by omega) with ⟨y1, y2⟩ | y
            · rcases sg.h a (by omega) with ⟨w1, w2⟩ | w
              · exact Or.inl ⟨by rw [x1, y1, w1], by rw [x2, y2, w2]⟩
              · exact Or.inr (by rw [x1, y1, w])
            · exact Or.inr (by rw [x1, y])
          · exact Or.inr x
        rcases hchain with ⟨x1, x2⟩ | x
        · right
          rw [x2] at hn
          obtain ⟨b1, b2⟩ := h.hc.2.2 a (by omega) hn
          refine ⟨by rw [x1, h.hc.1], ?_, by rw [← b1]; exact hn⟩
          unfold tgA
          rw [if_neg e9, if_neg e9, x2, b1, e4 11 (by decide) (by decide) (by decide), b2]
        · exact Or.inl x
  · exact by rw [e4 10 (by decide) (by decide) (by decide)]; exact h.an
  · exact fun q hq => by rw [e4 q (by omega) (by omega) (by omega)]; exact h.kq q hq
  · exact fun j hj => by
      by_cases jc : j < c
      · -- a STRIPE
        right
        obtain ⟨z1, z2, z3, z4⟩ := hi0 (by omega)
        obtain ⟨s1, s2, s3⟩ := sg.s j jc
        have hbl : ∀ x, x < 128 → D4 21 (j * 128 + x) = D2 21 (j * 128 + x) := fun x hx => by rw [n5 _ (by omega), p5 _ (by omega)]
        have h0' := hbl 0 (by omega)
        rw [Nat.add_zero] at h0'
        refine ⟨by omega, by rw [h0']; exact s1, ?_⟩
        refine mkB i0 (q0 + j) (fun x => D4 21 (j * 128 + x)) z2 (by omega) (hexf z1 z2 z3) ?_ (by show D4 21 (j * 128 + 1) = _; rw [hbl 1 (by omega)]; exact s2) (fun z => by omega) (fun _ => ?_)
        · rw [hvs _ _ (by omega), hv2, if_pos (by omega)]
        · exact (hst j jc).cg (fun x h1 h2 => by show D 21 (j * 128 + x) = D4 21 (j * 128 + x); rw [hbl x (by omega)]; exact (s3 x h1 h2).symm)
      · by_cases j6 : j = 6
        · subst j6
          rcases p6 with ⟨_, z⟩ | ⟨i, z1, z2, z3, z4, z5⟩
          · exact Or.inl (fun x hx => by rw [n5 _ (by omega)]; exact z x hx)
          · right
            have hbl : ∀ x, x < 128 → D4 21 (6 * 128 + x) = D3 21 (6 * 128 + x) := fun x hx => n5 _ (by omega)
            have hxi : (tsp ops (o + 1)).ex i = true := by
              rcases hr1 with ⟨_, y⟩ | ⟨g, i', y1, y2, y3, y4, y5⟩
              · rw [z1] at y; cases y
              · have : i = i' := Option.some.inj (z1.symm.trans y5)
                subst this
                exact hexf y1 y2 y4
            refine ⟨by omega, by rw [show 6 * 128 = 6 * 128 + 0 by omega, hbl 0 (by omega)]; exact z3, ?_⟩
            refine mkB i 19 (fun x => D4 21 (6 * 128 + x)) z2 (by omega) hxi ?_ (by show D4 21 (6 * 128 + 1) = _; rw [hbl 1 (by omega)]; exact z4) (fun _ x h1 h2 => by show D4 21 (6 * 128 + x) = _; rw [hbl x (by omega), z5 x h1 h2, hrec]) (fun z => by omega)
            rw [hv19, z1]
            cases r2 with
            | none => exact rcd_i.1
            | some j =>
              show ((T2.rcd i o).rcd j o).vr i 19 = _
              by_cases e : i = j
              · subst e; exact rcd_i.1
              · rw [rcd_o e]; exact rcd_i.1
        · by_cases j7 : j = 7
          · subst j7
            rcases n6 with ⟨_, z⟩ | ⟨i, z1, z2, z3, z4, z5⟩
            · exact Or.inl z
            · right
              have hxi : (tsp ops (o + 1)).ex i = true := by
                rcases hr2 with ⟨_, y⟩ | ⟨g, i', y1, y2, y3, y4, y5⟩
                · rw [z1] at y; cases y
                · have : i = i' := Option.some.inj (z1.symm.trans y5)
                  subst this
                  exact hexf y1 y2 y4
              refine ⟨by omega, z3, ?_⟩
              refine mkB i 19 (fun x => D4 21 (7 * 128 + x)) z2 (by omega) hxi ?_ z4 (fun _ x h1 h2 => by show D4 21 (7 * 128 + x) = _; rw [z5 x h1 h2, hrec, hrec1]) (fun z => by omega)
              rw [hv19, z1]
              exact rcd_i.1
          · exact Or.inl (fun x hx => by rw [n5 _ (by omega), p5 _ (by omega)]; exact hz2 _ (by omega) (by omega))
  · exact fun k hk hko hit => by
      rcases hit with ⟨z, _⟩ | ⟨z1, z2, z3⟩
      · omega
      · rw [hko] at z3
        have hp : k / 512 % 20 < 20 := Nat.mod_lt _ (by decide)
        have hxe : T1.ex (k / 10240) = true := by rw [← hex1]; exact z2
        have hno := hold (k / 10240) (k / 512 % 20) z1 hp hxe
        have hkk : k = tgN (k / 10240) (k / 512 % 20) o := by
          have := tgN_e (k := k)
          rw [hko] at this
          exact this.symm
        by_cases p9 : k / 512 % 20 = 19
        · -- a RECORD
          rw [p9] at z3 hno hkk
          rw [hv19] at z3
          have hr : r1 = some (k / 10240) ∨ r2 = some (k / 10240) := by
            cases r1 with
            | none =>
              cases r2 with
              | none =>
                have z3 : T2.vr (k / 10240) 19 = nI o := z3
                rw [← hT2] at z3
                have z3 : fup T1.vr i0 (fun p => if q0 ≤ p ∧ p < q0 + c then nI o else T1.vr i0 p) (k / 10240) 19 = nI o := z3
                by_cases e : k / 10240 = i0
                · rw [e, fup_s] at z3
                  rw [if_neg (fun y => by have := hi0 (by omega); omega)] at z3
                  rw [e] at hno
                  exact absurd z3 hno
                · rw [fup_n e] at z3
                  exact absurd z3 hno
              | some j =>
                right
                by_cases e : k / 10240 = j
                · rw [e]
                · exfalso
                  have z3 : (T2.rcd j o).vr (k / 10240) 19 = nI o := z3
                  rw [rcd_o e, ← hT2] at z3
                  have z3 : fup T1.vr i0 (fun p => if q0 ≤ p ∧ p < q0 + c then nI o else T1.vr i0 p) (k / 10240) 19 = nI o := z3
                  by_cases e : k / 10240 = i0
                  · rw [e, fup_s] at z3
                    rw [if_neg (fun y => by have := hi0 (by omega); omega)] at z3
                    rw [e] at hno
                    exact absurd z3 hno
                  · rw [fup_n e] at z3
                    exact absurd z3 hno
            | some j1 =>
              by_cases e1 : k / 10240 = j1
              · exact Or.inl (by rw [e1])
              · right
                cases r2 with
                | none =>
                  exfalso
                  have z3 : (T2.rcd j1 o).vr (k / 10240) 19 = nI o := z3
                  rw [rcd_o e1, ← hT2] at z3
                  have z3 : fup T1.vr i0 (fun p => if q0 ≤ p ∧ p < q0 + c then nI o else T1.vr i0 p) (k / 10240) 19 = nI o := z3
                  by_cases e : k / 10240 = i0
                  · rw [e, fup_s] at z3
                    rw [if_neg (fun y => by have := hi0 (by omega); omega)] at z3
                    rw [e] at hno
                    exact absurd z3 hno
                  · rw [fup_n e] at z3
                    exact absurd z3 hno
                | some j =>
                  by_cases e : k / 10240 = j
                  · rw [e]
                  · exfalso
                    have z3 : ((T2.rcd j1 o).rcd j o).vr (k / 10240) 19 = nI o := z3
                    rw [rcd_o e, rcd_o e1, ← hT2] at z3
                    have z3 : fup T1.vr i0 (fun p => if q0 ≤ p ∧ p < q0 + c then nI o else T1.vr i0 p) (k / 10240) 19 = nI o := z3
                    by_cases e : k / 10240 = i0
                    · rw [e, fup_s] at z3
                      rw [if_neg (fun y => by have := hi0 (by omega); omega)] at z3
                      rw [e] at hno
                      exact absurd z3 hno
                    · rw [fup_n e] at z3
                      exact absurd z3 hno
          rcases hr with hr | hr
          · rcases p6 with ⟨y, _⟩ | ⟨i, y1, y2, y3, y4, y5⟩
            · rw [hr] at y; cases y
            · have : k / 10240 = i := Option.some.inj (hr.symm.trans y1)
              refine ⟨6, by omega, by rw [n5 _ (by omega)]; exact y3, ?_⟩
              rw [n5 _ (by omega), y4, ← this, ← hkk]
          · rcases n6 with ⟨y, _⟩ | ⟨i, y1, y2, y3, y4, y5⟩
            · rw [hr] at y; cases y
            · have : k / 10240 = i := Option.some.inj (hr.symm.trans y1)
              refine ⟨7, by omega, y3, ?_⟩
              rw [y4, ← this, ← hkk]
        · rw [hvs _ _ (by omega)] at z3
          by_cases e : k / 10240 = i0
          · rw [e, hv2] at z3
            by_cases y : q0 ≤ k / 512 % 20 ∧ k / 512 % 20 < q0 + c
            · obtain ⟨s1, s2, s3⟩ := sg.s (k / 512 % 20 - q0) (by omega)
              refine ⟨k / 512 % 20 - q0, by omega, by rw [n5 _ (by omega), p5 _ (by omega)]; exact s1, ?_⟩
              rw [n5 _ (by omega), p5 _ (by omega), s2, show q0 + (k / 512 % 20 - q0) = k / 512 % 20 by omega, ← e, ← hkk]
            · rw [if_neg y] at z3
              rw [e] at hno
              exact absurd z3 hno
          · rw [hv2o _ e] at z3
            exact absurd z3 hno

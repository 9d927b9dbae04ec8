/-- change: a READ, or the table behind the OPERATION -/
theorem change_lem {ops : Nat → Mg} {bg o : Nat} {nn gg : Nat} {C me : Int32} {f u b : Nat → Int32} {D : Nat → Nat → Int32} {K A : Int64} {Y : List Mg} (ho : o < 512) (hT : TOK (tsp ops o) o) (hS : STB ops o) (h : FE ops (Bk ops bg) o D K) (h12 : D 18 12 = 0) :
    ((ops o).1 0 = 4 ∧ stp (tsp ops o) o (ops o) = none ∧ ∃ D' : Nat → Nat → Int32, F_104 nn gg C me f u b D K A Y = (D', K, A, Y) ∧ D' 18 3 = 5 ∧ (∀ x, x ≠ 3 → D' 18 x = D 18 x) ∧ (∀ q, q ≠ 18 → q ≠ 20 → D' q = D q)) ∨
    (∃ (a : Nat) (T' : TS) (D1 : Nat → Nat → Int32) (K1 : Int64), stp (tsp ops o) o (ops o) = some (a, T') ∧ D 18 5 = nI a ∧ F_104 nn gg C me f u b D K A Y = (D1, K1, A, Y) ∧ CH ops o D D1 K1) := by
  obtain ⟨sp, c, a, s1, s2, s3, hc6, s4, s5, s6, s7, s8⟩ := h.old ho hT hS h12
  obtain ⟨aq, op, h0, h1, h2, h3, h4, h5, w1, w2⟩ := h.ak
  have htk := h.tk
  have hfi := h.fi
  have hot := h.ot
  have hr3 := h.r3
  have hout := h.out
  clear h
  generalize hT0 : tsp ops o = T at *
  generalize hm : ops o = m at *
  have hl5 := inR_c2 aq.2.2.2.2.2 (by decide)
  have hl0 := inR_c2 aq.2.2.2.1 (by decide)
  have hl1 := inR_c2 aq.2.2.2.2.1 (by decide)
  generalize hDz : va_up D 18 (upd (D 18) 3 3) = Dz
  have zq : ∀ q, q ≠ 18 → Dz q = D q := fun q hq => by rw [← hDz, va_up_n _ _ hq]
  have zw : ∀ x, x ≠ 3 → Dz 18 x = D 18 x := fun x hx => by rw [← hDz, va_up_s, pk_un hx]
  have z3 : Dz 18 3 = 3 := by rw [← hDz, va_up_s, pk_us]
  have ztk : TKD T Dz K := by
    show TK _ (Dz 10 9) (Dz 11) (Dz 12) (Dz 13) (Dz 14) (Dz 15) (Dz 16) K
    rw [zq 10 (by decide), zq 11 (by decide), zq 12 (by decide), zq 13 (by decide), zq 14 (by decide), zq 15 (by decide), zq 16 (by decide)]
    exact htk
  rcases hout with ⟨k4, hn, hne⟩ | ⟨ans, T', e5, hst, hspn, hk489, h7n⟩
  · -- READ
    left
    refine ⟨k4, hn, ?_⟩
    unfold F_104
    rw [h0, if_neg (by rw [k4]; decide), if_neg (by rw [k4]; decide), if_neg (by rw [k4]; decide), if_neg (by rw [k4]; decide), if_pos k4, bnN_e]
    have key : ∀ (k i : Nat) (D1 : Nat → Nat → Int32), ∃ D' : Nat → Nat → Int32, G_107 nn gg C me f u b 0 k i D1 K A Y = (D', K, A, Y) ∧ ∀ q, q ≠ 20 → D' q = D1 q := fun k => by
      induction k with
      | zero => intro i D1; exact ⟨D1, rfl, fun _ _ => rfl⟩
      | succ k ih =>
        intro i D1
        unfold G_107
        rw [bnN_e, bnN_e, if_pos rfl]
        obtain ⟨D', r1, r2⟩ := ih (i + 1) (va_up D1 20 (mvF (D1 21) (i * 512 + 60 + max (D1 19 1).toNatClampNeg (((D1 19 1).toNatClampNeg / 448 + i) * 448) - (((D1 19 1).toNatClampNeg / 448 + i) * 448)) (400 + max (D1 19 1).toNatClampNeg (((D1 19 1).toNatClampNeg / 448 + i) * 448) - (D1 19 1).toNatClampNeg) (min ((D1 19 1).toNatClampNeg + (D1 18 9).toNatClampNeg) ((((D1 19 1).toNatClampNeg / 448 + i) * 448) + 448) - max (D1 19 1).toNatClampNeg (((D1 19 1).toNatClampNeg / 448 + i) * 448)) (D1 20)))
        exact ⟨D', r1, fun q hq => by rw [r2 q hq, va_up_n _ _ hq]⟩
    obtain ⟨D', r1, r2⟩ := key ((va_up D 18 (upd (D 18) 3 5) 18 11).toNatClampNeg) 0 (va_up D 18 (upd (D 18) 3 5))
    have hF : F_107 nn gg C me f u b (va_up D 18 (upd (D 18) 3 5)) K A Y 0 = (D', K, A, Y) := by
      unfold F_107
      rw [bnN_e]
      exact r1
    rw [hF, bnS_e]
    exact ⟨D', rfl, by rw [r2 18 (by decide), va_up_s, pk_us], fun x hx => by rw [r2 18 (by decide), va_up_s, pk_un hx], fun q h18 h20 => by rw [r2 q h20, va_up_n _ _ h18]⟩
  · right
    have hT' : tsp ops (o + 1) = T' := tsp_some (by rw [hT0, hm]; exact hst)
    have hst2 := hst
    refine ⟨ans, T', ?_⟩
    obtain ⟨kk, hk10, ek⟩ := aq.1
    have e13 : Dz 18 13 = -1 := by rw [zw 13 (by decide)]; exact hr3.1
    have e14 : Dz 18 14 = -1 := by rw [zw 14 (by decide)]; exact hr3.2
    have z4 : Dz 18 4 = nI o := by rw [zw 4 (by decide)]; exact op
    have z5 : ∀ x, x = 5 ∨ x = 6 → Dz 18 x = D 18 x := fun x hx => zw x (by omega)
    have hcz : HC D Dz := ⟨zq 17 (by decide), by rw [zq 16 (by decide)], fun x _ _ => by rw [zq 16 (by decide), zq 11 (by decide)]; exact ⟨rfl, rfl⟩⟩
    have hno : ∀ {D1 : Nat → Nat → Int32}, D1 18 14 = -1 → fdP (D1 11) (D1 18 14) none := fun e => Or.inl ⟨e, rfl⟩
    unfold F_104
    rw [h0, hDz]
    unfold stp at hst
    by_cases k0 : m.1 0 = 0
    · -- MAKE
      rw [if_pos k0]
      rw [if_pos k0] at hst
      rcases hfi with ⟨f7, ff⟩ | ⟨fx, i, _, _, _, _, ff⟩
      · rw [ff] at hst
        simp only at hst
        obtain ⟨hcnt, hst⟩ := ite_ns hst
        rw [Prod.mk.injEq] at hst
        rw [if_pos f7]
        have hc48 : T.cnt < 48 := (h7n f7).1
        obtain ⟨D1, K1, x, r1, r2, r3, r4, r5, r6, r7, r8, r9, r10, r11⟩ := mkf_lem (nn := nn) (gg := gg) (C := C) (me := me) (f := f) (u := u) (b := b) (A := A) (Y := Y) (w := fun x => m.2 x) (l := (m.1 3).toNatClampNeg) hT ho ztk hc48 z4 (by rw [zq 19 (by decide), h3]; exact hl0.2) (fun x hx => by rw [zq 20 (by decide)]; exact w1 x (by omega))
        rw [r1, bnS_e]
        have hsp0 : sp = 0 := by
          have := hspn.s5 (Or.inl k0)
          rw [s2] at this
          exact nI_inj (b := 0) (by omega) (by decide) this
        have hc0 := s4 hsp0
        subst hc0
        refine ⟨D1, K1, hst2, e5, rfl, ⟨by rw [r7 3 (by decide) (by decide)]; exact z3, by rw [r7 4 (by decide) (by decide)]; exact z4, fun x hx => by rw [r7 x (by omega) (by omega)]; exact z5 x hx, ?_, by rw [r9, zq 10 (by decide)], fun q hq => by rw [r8 q (by omega) (by omega) (by omega) (by omega) (by omega) (by omega), zq q (by omega)], ?_⟩⟩
        · refine ⟨by rw [r10.1]; exact hcz.1, by rw [r10.2.1]; exact hcz.2.1, fun y hy hn => ?_⟩
          obtain ⟨a1, a2⟩ := r10.2.2 y hy hn
          rw [a1, a2, zq 16 (by decide), zq 11 (by decide)]
          exact ⟨rfl, rfl⟩
        · refine ⟨_, x, o, 0, 0, some o, none, T'.dt, r3, by rw [r7 11 (by decide) (by decide), zw 11 (by decide)]; exact s3, by omega, Or.inl rfl, Or.inr ⟨x, o, r2, ho, r6, r4, rfl⟩, hno (by rw [r7 14 (by decide) (by decide)]; exact e14), ?_, fun j hj => absurd hj (by omega), fun y a1 a2 => by rw [r8 21 (by decide) (by decide) (by decide) (by decide) (by decide) (by decide), zq 21 (by decide)]; exact s6 y a1 a2, fun i _ z => by cases z⟩
          rw [hT', ver_no _ o _ _ (fun p => by omega), ← hst.2]
          rfl
      · rw [ff] at hst
        cases hst
    rw [if_neg k0]
    rw [if_neg k0] at hst
    -- WRITE and APPEND
    have hwr : (m.1 0 = 1 ∨ m.1 0 = 2) → ∀ a', (0 < sp → a' = a) → wrS T o m.2 (m.1 3).toNatClampNeg (m.1 5).toNatClampNeg (fdN T m.2 0 (m.1 3).toNatClampNeg) a' = some (ans, T') → D 18 9 = m.1 5 →
        ∃ (D1 : Nat → Nat → Int32) (K1 : Int64), stp T o m = some (ans, T') ∧ D 18 5 = nI ans ∧ (if D 18 7 = -1 then bnS (F_105 nn gg C me f u b Dz K A Y) (fun D4 K4 A4 Y4 => bnS (F_107 nn gg C me f u b D4 K4 A4 Y4 1) (fun D5 K5 A5 Y5 => bnS (F_108 nn gg C me f u b D5 K5 A5 Y5) (fun D6 K6 A6 Y6 => (D6, K6, A6, Y6)))) else bnN ((D 18 7).toNatClampNeg) (fun fi => bnS (F_107 nn gg C me f u b Dz K A Y 1) (fun D7 K7 A7 Y7 => bnS (F_108 nn gg C me f u b D7 K7 A7 Y7) (fun D8 K8 A8 Y8 => (D8, K8, A8, Y8))))) = (D1, K1, A, Y) ∧ CH ops o D D1 K1 := fun hk a' haa hst e9 => by
      have hspl : sp = (m.1 5).toNatClampNeg := by
        rw [s2] at e9
        rw [← e9, nI_clamp (by omega)]
      have htp : ∀ y, y < sp → bytA (D 20) (400 + y) = bytA m.2 (400 + y) := fun y hy => byt_cg (w2 hk _ (by omega)) rfl
      have hwa : ∀ (X : TS) (i : Nat), X.wrt i a' sp o (fun x => bytA m.2 (400 + x)) = X.wrt i a sp o (fun x => bytA m.2 (400 + x)) := fun X i => by
        rcases Nat.eq_zero_or_pos sp with z | z
        · unfold TS.wrt
          rw [if_pos z, if_pos z]
        · rw [haa z]
      rcases hfi with ⟨f7, ff⟩ | ⟨fx, i, hfx, hi, f7, fj, ff⟩
      · rw [ff] at hst
        unfold wrS at hst
        simp only at hst
        obtain ⟨hcnt, hst⟩ := ite_ns hst
        rw [Prod.mk.injEq] at hst
        rw [if_pos f7]
        have hc48 : T.cnt < 48 := (h7n f7).1
        obtain ⟨D4, K4, x, r1, r2, r3, r4, r5, r6, r7, r8, r9, r10, r11⟩ := mkf_lem (nn := nn) (gg := gg) (C := C) (me := me) (f := f) (u := u) (b := b) (A := A) (Y := Y) (w := fun x => m.2 x) (l := (m.1 3).toNatClampNeg) hT ho ztk hc48 z4 (by rw [zq 19 (by decide), h3]; exact hl0.2) (fun x hx => by rw [zq 20 (by decide)]; exact w1 x (by omega))
        rw [r1, bnS_e]
        have q8 : ∀ q, q = 17 ∨ 18 < q → D4 q = D q := fun q hq => by rw [r8 q (by omega) (by omega) (by omega) (by omega) (by omega) (by omega), zq q (by omega)]
        have hex : T.ex o = false := by
          cases e : T.ex o with
          | false => rfl
          | true => exact absurd (hT.e1 o e) (by omega)
        have hz0 : T.sz o = 0 := (hT.e2 o hex).1
        obtain ⟨D1, y1, y2, y3, y4, T1, y5, y6, y7, y8⟩ := wr_lem (ops := ops) (nn := nn) (gg := gg) (C := C) (me := me) (f := f) (u := u) (b := b) (K := K4) (A := A) (Y := Y) (Dz := D4) (fi := x) (i0 := o) (o := o) (sp := sp) (c := c) (a := a) (tp := fun x => bytA m.2 (400 + x)) r2 ho r4 r5 r3 (by show T.sz o ≤ 8192; omega) s1 (by rw [r7 9 (by decide) (by decide), zw 9 (by decide)]; exact s2) (by rw [r7 11 (by decide) (by decide), zw 11 (by decide)]; exact s3) s4 (fun z => by rw [q8 19 (by omega), r7 10 (by decide) (by decide), zw 10 (by decide)]; exact s5 z) (fun y a1 a2 => by rw [q8 21 (by omega)]; exact s6 y a1 a2) (fun j hj => by
          rw [q8 21 (by omega)]
          refine ⟨fun x _ _ => s8 f7 _ (by omega), fun y hy => ?_⟩
          rw [byt_sh]
          have hd : T.dt o (448 * (a / 448 + j) + y) = 0 := hT.d1 o _ (by omega)
          show _ = T.dt o (448 * (a / 448 + j) + y)
          rw [hd]
          have : bytA (D 21) (j * 512 + (60 + y)) = bytA (fun _ => 0) 0 := by
            refine byt_ext (fun q hq => ?_)
            rw [s8 f7 _ (by omega), b_0, b_0]
          rw [this]
          decide) (fun y hy => by rw [q8 20 (by omega)]; exact htp y hy)
        rw [y1]
        refine ⟨D1, K4, hst2, e5, rfl, ⟨by rw [y2 3 (by decide), r7 3 (by decide) (by decide)]; exact z3, by rw [y2 4 (by decide), r7 4 (by decide) (by decide)]; exact z4, fun x hx => by rw [y2 x (by omega), r7 x (by omega) (by omega)]; exact z5 x hx, ?_, by rw [y4 10 (by decide) (by decide) (by decide), r9, zq 10 (by decide)], fun q hq => by rw [y4 q (by omega) (by omega) (by omega), r8 q (by omega) (by omega) (by omega) (by omega) (by omega) (by omega), zq q (by omega)], ?_⟩⟩
        · refine ⟨by rw [y4 17 (by decide) (by decide) (by decide), r10.1]; exact hcz.1, by rw [y4 16 (by decide) (by decide) (by decide), r10.2.1]; exact hcz.2.1, fun y hy hn => ?_⟩
          rw [y4 16 (by decide) (by decide) (by decide)] at hn ⊢
          rw [y4 11 (by decide) (by decide) (by decide)]
          obtain ⟨a1, a2⟩ := r10.2.2 y hy hn
          rw [a1, a2, zq 16 (by decide), zq 11 (by decide)]
          exact ⟨rfl, rfl⟩
        · have hfin : T' = ((T.mk1 o (fun x => m.2 x) (m.1 3).toNatClampNeg).wrt o a sp o (fun x => bytA m.2 (400 + x))) := by rw [← hwa, hspl]; exact hst.2.symm
          refine ⟨T1, x, o, a / 448, c, some o, none, T'.dt, y5, by rw [y2 11 (by decide), r7 11 (by decide) (by decide), zw 11 (by decide)]; exact s3, hc6, ?_, Or.inr ⟨x, o, r2, ho, y3, by rw [y4 11 (by decide) (by decide) (by decide)]; exact r4, rfl⟩, hno (by rw [y2 14 (by decide), r7 14 (by decide) (by decide)]; exact e14), ?_, fun j hj => ?_, y8, fun i _ z => by cases z⟩
          · rcases Nat.eq_zero_or_pos sp with z | z
            · exact Or.inl (s4 z)
            · obtain ⟨t1, t2, t3, t4⟩ := s5 z
              exact Or.inr ⟨r2, ho, by rw [y4 11 (by decide) (by decide) (by decide)]; exact r4, by rw [y2 7 (by decide)]; exact r5, by rw [y2 10 (by decide), r7 10 (by decide) (by decide), zw 10 (by decide)]; exact t3, by omega⟩
          · rw [hT', hfin]
            exact y6
          · rw [hT', hfin]
            exact y7 j hj
      · rw [ff] at hst
        unfold wrS at hst
        simp only at hst
        obtain ⟨hcnt, hst⟩ := ite_ns hst
        rw [Prod.mk.injEq] at hst
        rw [if_neg (by rw [f7]; exact nIneg (by omega)), bnN_e]
        obtain ⟨D1, y1, y2, y3, y4, T1, y5, y6, y7, y8⟩ := wr_lem (ops := ops) (nn := nn) (gg := gg) (C := C) (me := me) (f := f) (u := u) (b := b) (K := K) (A := A) (Y := Y) (Dz := Dz) (fi := fx) (i0 := i) (o := o) (sp := sp) (c := c) (a := a) (tp := fun x => bytA m.2 (400 + x)) hfx hi (by rw [zq 11 (by decide)]; exact fj) (by rw [zw 7 (by decide)]; exact f7) ztk (hT.z1 i) s1 (by rw [zw 9 (by decide)]; exact s2) (by rw [zw 11 (by decide)]; exact s3) s4 (fun z => by rw [zq 19 (by decide), zw 10 (by decide)]; exact s5 z) (fun y a1 a2 => by rw [zq 21 (by decide)]; exact s6 y a1 a2) (fun j hj => by rw [zq 21 (by decide)]; exact s7 fx i hfx hi f7 fj j hj) (fun y hy => by rw [zq 20 (by decide)]; exact htp y hy)
        rw [y1]
        refine ⟨D1, K, hst2, e5, rfl, ⟨by rw [y2 3 (by decide)]; exact z3, by rw [y2 4 (by decide)]; exact z4, fun x hx => by rw [y2 x (by omega)]; exact z5 x hx, ?_, by rw [y4 10 (by decide) (by decide) (by decide), zq 10 (by decide)], fun q hq => by rw [y4 q (by omega) (by omega) (by omega), zq q (by omega)], ?_⟩⟩
        · refine ⟨by rw [y4 17 (by decide) (by decide) (by decide)]; exact hcz.1, by rw [y4 16 (by decide) (by decide) (by decide)]; exact hcz.2.1, fun y hy hn => ?_⟩
          rw [y4 16 (by decide) (by decide) (by decide), y4 11 (by decide) (by decide) (by decide), zq 16 (by decide), zq 11 (by decide)]
          exact ⟨rfl, rfl⟩
        · have hfin : T' = (T.wrt i a sp o (fun x => bytA m.2 (400 + x))) := by rw [← hwa, hspl]; exact hst.2.symm
          refine ⟨T1, fx, i, a / 448, c, some i, none, T'.dt, y5, by rw [y2 11 (by decide), zw 11 (by decide)]; exact s3, hc6, ?_, Or.inr ⟨fx, i, hfx, hi, y3, by rw [y4 11 (by decide) (by decide) (by decide), zq 11 (by decide)]; exact fj, rfl⟩, hno (by rw [y2 14 (by decide)]; exact e14), ?_, fun j hj => ?_, y8, fun i _ z => by cases z⟩
          · rcases Nat.eq_zero_or_pos sp with z | z
            · exact Or.inl (s4 z)
            · obtain ⟨t1, t2, t3, t4⟩ := s5 z
              exact Or.inr ⟨hfx, hi, by rw [y4 11 (by decide) (by decide) (by decide), zq 11 (by decide)]; exact fj, by rw [y2 7 (by decide), zw 7 (by decide)]; exact f7, by rw [y2 10 (by decide), zw 10 (by decide)]; exact t3, by omega⟩
          · rw [hT', hfin]
            exact y6
          · rw [hT', hfin]
            exact y7 j hj
    by_cases k1 : m.1 0 = 1
    · rw [if_pos k1]
      rw [if_pos k1] at hst
      refine hwr (Or.inl k1) (m.1 1).toNatClampNeg (fun z => ?_) hst (hspn.s1 k1).1
      have := (hspn.s1 k1).2
      rw [(s5 z).1] at this
      rw [← this, nI_clamp (by have := (s5 z).2.1; omega)]
    rw [if_neg k1]
    rw [if_neg k1] at hst
    by_cases k2 : m.1 0 = 2
    · rw [if_pos k2]
      rw [if_pos k2] at hst
      refine hwr (Or.inr k2) _ (fun z => ?_) hst (hspn.s2 k2).1
      have := (hspn.s2 k2).2
      rw [(s5 z).1] at this
      have hb := (s5 z).2.1
      cases hfd : fdN T m.2 0 (m.1 3).toNatClampNeg with
      | none => rw [hfd] at this; exact (nI_inj (by omega) (by show 0 < 2 ^ 31; decide) this).symm
      | some i => rw [hfd] at this; exact (nI_inj (by omega) (by have := hT.z1 i; show T.sz i < _; omega) this).symm
    rw [if_neg k2]
    rw [if_neg k2] at hst
    have hsp0 : (m.1 0 = 0 ∨ m.1 0 = 5 ∨ m.1 0 = 6 ∨ m.1 0 = 7) → sp = 0 := fun z => by
      have := hspn.s5 z
      rw [s2] at this
      exact nI_inj (b := 0) (by omega) (by decide) this
    by_cases k3 : m.1 0 = 3
    · -- CUT
      rw [if_pos k3, bnN_e]
      rw [if_pos k3] at hst
      obtain ⟨i', e1', e2', e3'⟩ := hspn.s3 k3
      rcases hfi with ⟨_, ff⟩ | ⟨fx, i, hfx, hi, f7, fj, ff⟩
      · rw [ff] at hst; cases hst
      rw [ff] at hst e1'
      simp only at hst
      obtain ⟨hcc, hst⟩ := ite_ns hst
      rw [Prod.mk.injEq] at hst
      have e1' : i = i' := Option.some.inj e1'
      subst e1'
      have ham := inR_c2 (aq.2.1 (Or.inr (Or.inl k3))) (by decide)
      generalize ham0 : (m.1 1).toNatClampNeg = am at *
      have e1 : D 19 1 = nI am := e2'.trans ham.2
      have hcond : (sp = 0 ∧ c = 0 ∧ ¬ (am < T.sz i ∧ ¬ am % 448 = 0 ∧ ¬ T.vr i (am / 448) < 0)) ∨ (sp = 1 ∧ c = 1 ∧ a = am ∧ (am < T.sz i ∧ ¬ am % 448 = 0 ∧ ¬ T.vr i (am / 448) < 0)) := by
        by_cases cnd : am < T.sz i ∧ ¬ am % 448 = 0 ∧ ¬ T.vr i (am / 448) < 0
        · rw [if_pos cnd, s2] at e3'
          have h1 : sp = 1 := nI_inj (b := 1) (by omega) (by decide) e3'
          subst h1
          obtain ⟨t1, t2, t3, t4⟩ := s5 (by omega)
          rw [e1] at t1
          have := nI_inj (by omega) (by omega) t1
          exact Or.inr ⟨rfl, by omega, this.symm, cnd⟩
        · rw [if_neg cnd, s2] at e3'
          have h1 : sp = 0 := nI_inj (b := 0) (by omega) (by decide) e3'
          exact Or.inl ⟨h1, s4 h1, cnd⟩
      have zc1 : (Dz 19 1).toNatClampNeg = am := by rw [zq 19 (by decide), e1, nI_clamp (by omega)]
      have z11 : Dz 18 11 = nI c := by rw [zw 11 (by decide)]; exact s3
      -- behind the block that is cut
      obtain ⟨B, hB1, hB2, hB3, hB4⟩ : ∃ Db : Nat → Nat → Int32, F_109 nn gg C me f u b Dz K A Y = G_109 nn gg C me f u b 19 0 Db K A Y ∧ (∀ q, q ≠ 21 → Db q = Dz q) ∧ (∀ j, j < c → stW T' i (am / 448 + j) (fun x => Db 21 (j * 128 + x))) ∧ (∀ y, c * 128 ≤ y → y < 1152 → Db 21 y = 0) := by
        have hdt : ∀ y, T'.dt i y = if y < am then T.dt i y else 0 := fun y => by
          rw [← hst.2]
          unfold TS.cut
          show fup T.dt i _ i y = _
          rw [fup_s]
        unfold F_109
        rw [bnN_e, zc1]
        rcases hcond with ⟨_, hc0, _⟩ | ⟨hs1, hc1, haa, hcnd⟩
        · subst hc0
          rw [if_pos (by rw [z11]; decide)]
          exact ⟨Dz, rfl, fun _ _ => rfl, fun j hj => absurd hj (by omega), fun y a1 a2 => by rw [zq 21 (by decide)]; exact s6 y a1 a2⟩
        · subst hc1
          subst haa
          rw [if_neg (by rw [z11]; decide)]
          refine ⟨_, rfl, fun q hq => va_up_n _ _ hq, fun j hj => ?_, fun y a1 a2 => ?_⟩
          · have : j = 0 := by omega
            subst this
            obtain ⟨u1, u2⟩ := s7 fx i hfx hi f7 fj 0 (by omega)
            rw [va_up_s, zq 21 (by decide)]
            refine ⟨fun x a1 a2 => ?_, fun y hy => ?_⟩
            · show clB _ _ (D 21) (0 * 128 + x) = 0
              rw [clB_o2 _ _ _ _ (by omega)]
              exact u1 x a1 a2
            · rw [byt_sh, clB_byt, hdt]
              have := u2 y hy
              rw [byt_sh] at this
              by_cases q : 448 * (a / 448 + 0) + y < a
              · rw [if_neg (by omega), if_pos q]
                exact this
              · rw [if_pos (by omega), if_neg q]
          · rw [va_up_s, zq 21 (by decide), clB_o2 _ _ _ _ (by omega)]
            exact s6 y a1 a2
      have e16 := hB2 16 (by decide)
      obtain ⟨D1, y1, y2, y3, y4, y5, y6⟩ := cut_lp (T := T) (nn := nn) (gg := gg) (C := C) (me := me) (f := f) (u := u) (b := b) (K := K) (A := A) (Y := Y) (Dz := B) (fi := fx) (i0 := i) (a := am) hfx hi (by omega) (by rw [hB2 11 (by decide), zq 11 (by decide)]; exact fj) (by rw [hB2 18 (by decide), zw 7 (by decide)]; exact f7) (by rw [hB2 19 (by decide), zq 19 (by decide)]; exact e1) 19 0 B (by omega) (fun _ _ => rfl) (by
        rw [ver_no T i _ _ (fun p => by omega)]
        show TK _ (B 10 9) (B 11) (B 12) (B 13) (B 14) (B 15) (B 16) K
        rw [hB2 10 (by decide), hB2 11 (by decide), hB2 12 (by decide), hB2 13 (by decide), hB2 14 (by decide), hB2 15 (by decide), hB2 16 (by decide)]
        exact ztk) (fun _ _ => rfl) (fun _ _ _ => rfl)
      rw [hB1, y1, bnS_e]
      have w18 : ∀ x, x ≠ 13 → D1 18 x = Dz 18 x := fun x hx => by rw [y3, pk_un hx, hB2 18 (by decide)]
      have wq : ∀ q, q ≠ 12 → q ≠ 16 → q ≠ 18 → q ≠ 21 → D1 q = Dz q := fun q a1 a2 a3 a4 => by rw [y2 q a1 a2 a3, hB2 q a4]
      refine ⟨D1, K, hst2, e5, rfl, ⟨by rw [w18 3 (by decide)]; exact z3, by rw [w18 4 (by decide)]; exact z4, fun x hx => by rw [w18 x (by omega)]; exact z5 x hx, ⟨?_, ?_, fun x hx hn => ?_⟩, by rw [wq 10 (by decide) (by decide) (by decide) (by decide), zq 10 (by decide)], fun q hq => by rw [wq q (by omega) (by omega) (by omega) (by omega), zq q (by omega)], ?_⟩⟩
      · rw [wq 17 (by decide) (by decide) (by decide) (by decide)]; exact hcz.1
      · rw [y5, hB2 16 (by decide)]; exact hcz.2.1
      · rw [y6 x hx hn, hB2 16 (by decide), zq 16 (by decide), wq 11 (by decide) (by decide) (by decide) (by decide), zq 11 (by decide)]
        exact ⟨rfl, rfl⟩
      · refine ⟨_, fx, i, am / 448, c, some i, none, T'.dt, y4, by rw [w18 11 (by decide)]; exact z11, hc6, ?_, Or.inr ⟨fx, i, hfx, hi, by rw [y3, pk_us], by rw [wq 11 (by decide) (by decide) (by decide) (by decide), zq 11 (by decide)]; exact fj, rfl⟩, hno (by rw [w18 14 (by decide)]; exact e14), ?_, fun j hj => ?_, fun y a1 a2 => by rw [y2 21 (by decide) (by decide) (by decide)]; exact hB4 y a1 a2, fun i _ z => by cases z⟩
        · rcases hcond with ⟨_, hc0, _⟩ | ⟨hs1, hc1, haa, hcnd⟩
          · exact Or.inl hc0
          · refine Or.inr ⟨hfx, hi, by rw [wq 11 (by decide) (by decide) (by decide) (by decide), zq 11 (by decide)]; exact fj, by rw [w18 7 (by decide), zw 7 (by decide)]; exact f7, ?_, ?_⟩
            · rw [w18 10 (by decide), zw 10 (by decide), (s5 (by omega)).2.2.1, haa]
            · have := hT.z1 i
              omega
        · rw [hT', ← hst.2]
          show T.cut i am o = ((((T.ver i (fun p => p < 19 ∧ am ≤ p * 448) (-1)).siz i am).ver i (fun p => am / 448 ≤ p ∧ p < am / 448 + c) (nI o)).rcd i o).wdt _
          rw [ver_cg _ i (fun p => am / 448 ≤ p ∧ p < am / 448 + c) (fun p => p = am / 448 ∧ am < T.sz i ∧ ¬ am % 448 = 0 ∧ ¬ T.vr i p < 0) (nI o) (fun p => by
            rcases hcond with ⟨_, hc0, hcnd⟩ | ⟨hs1, hc1, haa, hcnd⟩
            · refine ⟨fun z => absurd z (by omega), fun ⟨q1, q2⟩ => ?_⟩
              rw [q1] at q2
              exact absurd q2 hcnd
            · refine ⟨fun z => ?_, fun ⟨q1, _⟩ => by omega⟩
              have : p = am / 448 := by omega
              subst this
              exact ⟨rfl, hcnd⟩)]
          rfl
        · rw [hT', y2 21 (by decide) (by decide) (by decide)]
          exact hB3 j hj
    rw [if_neg k3, if_neg (fun z => hk489 (Or.inl z))]
    rw [if_neg k3] at hst
    by_cases k5 : m.1 0 = 5
    · -- REMOVE
      rw [if_pos k5, bnN_e]
      rw [if_pos k5] at hst
      have hs0 := hsp0 (Or.inr (Or.inl k5))
      have hc0 := s4 hs0
      subst hc0
      rcases hfi with ⟨_, ff⟩ | ⟨fx, i, hfx, hi, f7, fj, ff⟩
      · rw [ff] at hst; cases hst
      rw [ff] at hst
      simp only at hst
      rw [Option.some.injEq, Prod.mk.injEq] at hst
      have c7 : (D 18 7).toNatClampNeg = fx := by rw [f7, nI_clamp (by omega)]
      rw [c7]
      have hrem := htk.rem hfx hi fj
      generalize hD1 : va_up (va_up (va_up (va_up (va_up (va_up D 10 (upd (D 10) 9 (D 10 9 - 1))) 11 (upd (D 11) fx (-1))) 12 (upd (D 12) fx 0)) 15 (upd (D 15) (D 11 fx).toNatClampNeg (-1))) 16 (ax_fill (D 16) (fx * 20) ((fx + 1) * 20) (-1))) 18 (upd (D 18) 3 3) = D1
      have q1 : ∀ q, q ≠ 10 → q ≠ 11 → q ≠ 12 → q ≠ 15 → q ≠ 16 → q ≠ 18 → D1 q = D q := fun q a1 a2 a3 a4 a5 a6 => by rw [← hD1, va_up_n _ _ a6, va_up_n _ _ a5, va_up_n _ _ a4, va_up_n _ _ a3, va_up_n _ _ a2, va_up_n _ _ a1]
      have g10 : D1 10 = upd (D 10) 9 (D 10 9 - 1) := by rw [← hD1, va_up_n _ _ (by decide), va_up_n _ _ (by decide), va_up_n _ _ (by decide), va_up_n _ _ (by decide), va_up_n _ _ (by decide), va_up_s]
      have g11 : D1 11 = upd (D 11) fx (-1) := by rw [← hD1, va_up_n _ _ (by decide), va_up_n _ _ (by decide), va_up_n _ _ (by decide), va_up_n _ _ (by decide), va_up_s]
      have g12 : D1 12 = upd (D 12) fx 0 := by rw [← hD1, va_up_n _ _ (by decide), va_up_n _ _ (by decide), va_up_n _ _ (by decide), va_up_s]
      have g15 : D1 15 = upd (D 15) (D 11 fx).toNatClampNeg (-1) := by rw [← hD1, va_up_n _ _ (by decide), va_up_n _ _ (by decide), va_up_s]
      have g16 : D1 16 = ax_fill (D 16) (fx * 20) ((fx + 1) * 20) (-1) := by rw [← hD1, va_up_n _ _ (by decide), va_up_s]
      have g18 : D1 18 = upd (D 18) 3 3 := by rw [← hD1, va_up_s]
      have gw : ∀ x, x ≠ 3 → D1 18 x = D 18 x := fun x hx => by rw [g18, pk_un hx]
      refine ⟨D1, _, hst2, e5, rfl, ⟨by rw [g18, pk_us], by rw [gw 4 (by decide)]; exact op, fun x hx => gw x (by omega), ⟨q1 17 (by decide) (by decide) (by decide) (by decide) (by decide) (by decide), by rw [g16]; exact ax_fill_out _ _ (by omega), fun x hx hn => ?_⟩, by rw [g10, pk_un (by decide)], fun q hq => q1 q (by omega) (by omega) (by omega) (by omega) (by omega) (by omega), ?_⟩⟩
      · rw [g16] at hn ⊢
        by_cases y : fx * 20 ≤ x ∧ x < (fx + 1) * 20
        · rw [ax_fill_in _ _ y.1 y.2] at hn
          exact absurd (by decide) hn
        · rw [ax_fill_out _ _ (by omega), g11, pk_un (by omega)]
          exact ⟨rfl, rfl⟩
      · refine ⟨T.rem i, 0, 0, 0, 0, none, none, T'.dt, ?_, by rw [gw 11 (by decide)]; exact s3, by omega, Or.inl rfl, Or.inl ⟨by rw [gw 13 (by decide)]; exact hr3.1, rfl⟩, Or.inl ⟨by rw [gw 14 (by decide)]; exact hr3.2, rfl⟩, ?_, fun j hj => absurd hj (by omega), fun y a1 a2 => by rw [q1 21 (by decide) (by decide) (by decide) (by decide) (by decide) (by decide)]; exact s6 y a1 a2, fun i z => by cases z⟩
        · show TK _ (D1 10 9) (D1 11) (D1 12) (D1 13) (D1 14) (D1 15) (D1 16) _
          rw [g10, pk_us, g11, g12, q1 13 (by decide) (by decide) (by decide) (by decide) (by decide) (by decide), q1 14 (by decide) (by decide) (by decide) (by decide) (by decide) (by decide), g15, g16]
          exact hrem
        · rw [hT', ver_no _ 0 _ _ (fun p => by omega), ← hst.2]
          rfl
    rw [if_neg k5]
    rw [if_neg k5] at hst
    have h67 : m.1 0 = 6 ∨ m.1 0 = 7 := by
      have : kk = 0 ∨ kk = 1 ∨ kk = 2 ∨ kk = 3 ∨ kk = 4 ∨ kk = 5 ∨ kk = 6 ∨ kk = 7 ∨ kk = 8 ∨ kk = 9 := by omega
      rcases this with z | z | z | z | z | z | z | z | z | z <;> subst z
      · exact absurd ek k0
      · exact absurd ek k1
      · exact absurd ek k2
      · exact absurd ek k3
      · exact absurd (Or.inl ek) hk489
      · exact absurd ek k5
      · exact Or.inl ek
      · exact Or.inr ek
      · exact absurd (Or.inr (Or.inl ek)) hk489
      · exact absurd (Or.inr (Or.inr ek)) hk489
    have hs0 : sp = 0 := hsp0 (by rcases h67 with z | z; exact Or.inr (Or.inr (Or.inl z)); exact Or.inr (Or.inr (Or.inr z)))
    have hc0 := s4 hs0
    subst hc0
    have hot : fdP (D 11) (D 18 8) (fdN T m.2 50 (m.1 4).toNatClampNeg) := by
      rcases hot with z | z
      · exact absurd (Or.inr (Or.inr z)) hk489
      · exact z
    -- nothing but the ROOT is new
    have same : T' = T → CH ops o D Dz K := fun hTT => ⟨z3, z4, z5, hcz, by rw [zq 10 (by decide)], fun q hq => zq q (by omega), T, 0, 0, 0, 0, none, none, T'.dt, ztk, by rw [zw 11 (by decide)]; exact s3, by omega, Or.inl rfl, Or.inl ⟨e13, rfl⟩, Or.inl ⟨e14, rfl⟩, by rw [hT', ver_no _ 0 _ _ (fun p => by omega), hTT]; rfl, fun j hj => absurd hj (by omega), fun y a1 a2 => by rw [zq 21 (by decide)]; exact s6 y a1 a2, fun i z => by cases z⟩
    have hl4 : Dz 19 4 = nI (m.1 4).toNatClampNeg := by rw [zq 19 (by decide), h4]; exact hl1.2
    have hl3 : Dz 19 3 = nI (m.1 3).toNatClampNeg := by rw [zq 19 (by decide), h3]; exact hl0.2
    have hw50 : ∀ x, x < 50 → Dz 20 (50 + x) = m.2 (50 + x) := fun x hx => by rw [zq 20 (by decide)]; exact w1 _ (by omega)
    have hw00 : ∀ x, x < 50 → Dz 20 (0 + x) = m.2 x := fun x hx => by rw [zq 20 (by decide), Nat.zero_add]; exact w1 _ (by omega)
    rcases hfi with ⟨_, ff⟩ | ⟨fx, i, hfx, hi, f7, fj, ff⟩
    · exfalso
      rw [ff] at hst
      by_cases k6 : m.1 0 = 6
      · rw [if_pos k6] at hst; cases hst
      · rw [if_neg k6, if_pos (h67.resolve_left k6)] at hst; cases hst
    rw [ff] at hst
    simp only at hst
    have c7 : (Dz 18 7).toNatClampNeg = fx := by rw [zw 7 (by decide), f7, nI_clamp (by omega)]
    have zj : Dz 11 fx = nI i := by rw [zq 11 (by decide)]; exact fj
    by_cases k6 : m.1 0 = 6
    · rw [if_pos k6, bnN_e]
      rw [if_pos k6] at hst
      rcases hot with ⟨f8, fg⟩ | ⟨gx, j, hgx, hj, f8, fgj, fg⟩
      · -- no other FILE
        rw [fg] at hst
        simp only at hst
        rw [Option.some.injEq, Prod.mk.injEq] at hst
        have hF : F_112 nn gg C me f u b Dz K A Y = (va_up (va_up (va_up Dz 13 (upd (Dz 13) fx (Dz 19 4))) 14 (va_cpy (Dz 20) (Dz 14) 50 (fx * 50) 50)) 18 (upd (Dz 18) 13 (nI fx)), K, A, Y) := by
          unfold F_112
          rw [bnN_e, c7, if_pos (by rw [zw 8 (by decide)]; exact f8), if_pos (fun z => nIneg (by omega) z.symm)]
        rw [hF, bnS_e]
        generalize hD1 : va_up (va_up (va_up Dz 13 (upd (Dz 13) fx (Dz 19 4))) 14 (va_cpy (Dz 20) (Dz 14) 50 (fx * 50) 50)) 18 (upd (Dz 18) 13 (nI fx)) = D1
        have q1 : ∀ q, q ≠ 13 → q ≠ 14 → q ≠ 18 → D1 q = Dz q := fun q a1 a2 a3 => by rw [← hD1, va_up_n _ _ a3, va_up_n _ _ a2, va_up_n _ _ a1]
        have g13 : D1 13 = upd (Dz 13) fx (Dz 19 4) := by rw [← hD1, va_up_n _ _ (by decide), va_up_n _ _ (by decide), va_up_s]
        have g14 : D1 14 = va_cpy (Dz 20) (Dz 14) 50 (fx * 50) 50 := by rw [← hD1, va_up_n _ _ (by decide), va_up_s]
        have g18 : D1 18 = upd (Dz 18) 13 (nI fx) := by rw [← hD1, va_up_s]
        have gw : ∀ x, x ≠ 13 → D1 18 x = Dz 18 x := fun x hx => by rw [g18, pk_un hx]
        refine ⟨D1, K, hst2, e5, rfl, ⟨by rw [gw 3 (by decide)]; exact z3, by rw [gw 4 (by decide)]; exact z4, fun x hx => by rw [gw x (by omega)]; exact z5 x hx, ⟨by rw [q1 17 (by decide) (by decide) (by decide)]; exact hcz.1, by rw [q1 16 (by decide) (by decide) (by decide)]; exact hcz.2.1, fun x hx hn => by rw [q1 16 (by decide) (by decide) (by decide), q1 11 (by decide) (by decide) (by decide), zq 16 (by decide), zq 11 (by decide)]; exact ⟨rfl, rfl⟩⟩, by rw [q1 10 (by decide) (by decide) (by decide), zq 10 (by decide)], fun q hq => by rw [q1 q (by omega) (by omega) (by omega), zq q (by omega)], ?_⟩⟩
        refine ⟨T.nam i (fun x => m.2 (50 + x)) (m.1 4).toNatClampNeg, 0, 0, 0, 0, some i, none, T'.dt, ?_, by rw [gw 11 (by decide), zw 11 (by decide)]; exact s3, by omega, Or.inl rfl, Or.inr ⟨fx, i, hfx, hi, by rw [g18, pk_us], by rw [q1 11 (by decide) (by decide) (by decide)]; exact zj, rfl⟩, hno (by rw [gw 14 (by decide)]; exact e14), ?_, fun j hj => absurd hj (by omega), fun y a1 a2 => by rw [q1 21 (by decide) (by decide) (by decide), zq 21 (by decide)]; exact s6 y a1 a2, fun i _ z => by cases z⟩
        · show TK _ (D1 10 9) (D1 11) (D1 12) (D1 13) (D1 14) (D1 15) (D1 16) K
          rw [q1 10 (by decide) (by decide) (by decide), q1 11 (by decide) (by decide) (by decide), q1 12 (by decide) (by decide) (by decide), g13, g14, q1 15 (by decide) (by decide) (by decide), q1 16 (by decide) (by decide) (by decide)]
          exact ztk.nam hfx hi zj hl4 hw50
        · rw [hT', ver_no _ 0 _ _ (fun p => by omega), ← hst.2]
          rfl
      · rw [fg] at hst
        simp only at hst
        have c8 : (Dz 18 8).toNatClampNeg = gx := by rw [zw 8 (by decide), f8, nI_clamp (by omega)]
        have n8 : ¬ Dz 18 8 = -1 := by rw [zw 8 (by decide), f8]; exact nIneg (by omega)
        by_cases hji : j = i
        · rw [if_pos hji, Option.some.injEq, Prod.mk.injEq] at hst
          have hgf : gx = fx := htk.1.inj hgx hfx hi (by rw [← hji]; exact fgj) fj
          have hF : F_112 nn gg C me f u b Dz K A Y = (Dz, K, A, Y) := by
            unfold F_112
            rw [bnN_e, c7, if_neg n8, bnN_e, c8, if_neg (fun z => z (by rw [hgf]))]
          rw [hF, bnS_e]
          exact ⟨Dz, K, hst2, e5, rfl, same hst.2.symm⟩
        · rw [if_neg hji, Option.some.injEq, Prod.mk.injEq] at hst
          have hgf : gx ≠ fx := fun z => hji (by rw [z] at fgj; rw [fj] at fgj; exact (nI_inj (by omega) (by omega) fgj).symm)
          have zgj : Dz 11 gx = nI j := by rw [zq 11 (by decide)]; exact fgj
          have hF : F_112 nn gg C me f u b Dz K A Y = (va_up (va_up (va_up (va_up (va_up (va_up (va_up (va_up Dz 10 (upd (Dz 10) 9 (Dz 10 9 - 1))) 11 (upd (Dz 11) gx (-1))) 12 (upd (Dz 12) gx 0)) 13 (upd (Dz 13) fx (Dz 19 4))) 14 (va_cpy (Dz 20) (Dz 14) 50 (fx * 50) 50)) 15 (upd (Dz 15) (Dz 11 gx).toNatClampNeg (-1))) 16 (ax_fill (Dz 16) (gx * 20) ((gx + 1) * 20) (-1))) 18 (upd (Dz 18) 13 (nI fx)), K &&& ((1 <<< ((nI gx).toInt64 &&& 63)) ^^^ (-1)), A, Y) := by
            unfold F_112
            rw [bnN_e, c7, if_neg n8, bnN_e, c8, if_pos (fun z => hgf (nI_inj (by omega) (by omega) z))]
          rw [hF, bnS_e]
          have hrem := ztk.rem hgx hj zgj
          generalize hD1 : va_up (va_up (va_up (va_up (va_up (va_up (va_up (va_up Dz 10 (upd (Dz 10) 9 (Dz 10 9 - 1))) 11 (upd (Dz 11) gx (-1))) 12 (upd (Dz 12) gx 0)) 13 (upd (Dz 13) fx (Dz 19 4))) 14 (va_cpy (Dz 20) (Dz 14) 50 (fx * 50) 50)) 15 (upd (Dz 15) (Dz 11 gx).toNatClampNeg (-1))) 16 (ax_fill (Dz 16) (gx * 20) ((gx + 1) * 20) (-1))) 18 (upd (Dz 18) 13 (nI fx)) = D1
          have q1 : ∀ q, q ≠ 10 → q ≠ 11 → q ≠ 12 → q ≠ 13 → q ≠ 14 → q ≠ 15 → q ≠ 16 → q ≠ 18 → D1 q = Dz q := fun q a1 a2 a3 a4 a5 a6 a7 a8 => by rw [← hD1, va_up_n _ _ a8, va_up_n _ _ a7, va_up_n _ _ a6, va_up_n _ _ a5, va_up_n _ _ a4, va_up_n _ _ a3, va_up_n _ _ a2, va_up_n _ _ a1]
          have g10 : D1 10 = upd (Dz 10) 9 (Dz 10 9 - 1) := by rw [← hD1, va_up_n _ _ (by decide), va_up_n _ _ (by decide), va_up_n _ _ (by decide), va_up_n _ _ (by decide), va_up_n _ _ (by decide), va_up_n _ _ (by decide), va_up_n _ _ (by decide), va_up_s]
          have g11 : D1 11 = upd (Dz 11) gx (-1) := by rw [← hD1, va_up_n _ _ (by decide), va_up_n _ _ (by decide), va_up_n _ _ (by decide), va_up_n _ _ (by decide), va_up_n _ _ (by decide), va_up_n _ _ (by decide), va_up_s]
          have g12 : D1 12 = upd (Dz 12) gx 0 := by rw [← hD1, va_up_n _ _ (by decide), va_up_n _ _ (by decide), va_up_n _ _ (by decide), va_up_n _ _ (by decide), va_up_n _ _ (by decide), va_up_s]
          have g13 : D1 13 = upd (Dz 13) fx (Dz 19 4) := by rw [← hD1, va_up_n _ _ (by decide), va_up_n _ _ (by decide), va_up_n _ _ (by decide), va_up_n _ _ (by decide), va_up_s]
          have g14 : D1 14 = va_cpy (Dz 20) (Dz 14) 50 (fx * 50) 50 := by rw [← hD1, va_up_n _ _ (by decide), va_up_n _ _ (by decide), va_up_n _ _ (by decide), va_up_s]
          have g15 : D1 15 = upd (Dz 15) (Dz 11 gx).toNatClampNeg (-1) := by rw [← hD1, va_up_n _ _ (by decide), va_up_n _ _ (by decide), va_up_s]
          have g16 : D1 16 = ax_fill (Dz 16) (gx * 20) ((gx + 1) * 20) (-1) := by rw [← hD1, va_up_n _ _ (by decide), va_up_s]
          have g18 : D1 18 = upd (Dz 18) 13 (nI fx) := by rw [← hD1, va_up_s]
          have gw : ∀ x, x ≠ 13 → D1 18 x = Dz 18 x := fun x hx => by rw [g18, pk_un hx]
          have zj2 : upd (Dz 11) gx (-1) fx = nI i := by rw [pk_un (fun z => hgf z.symm)]; exact zj
          refine ⟨D1, _, hst2, e5, rfl, ⟨by rw [gw 3 (by decide)]; exact z3, by rw [gw 4 (by decide)]; exact z4, fun x hx => by rw [gw x (by omega)]; exact z5 x hx, ⟨by rw [q1 17 (by decide) (by decide) (by decide) (by decide) (by decide) (by decide) (by decide) (by decide)]; exact hcz.1, by rw [g16, ax_fill_out _ _ (by omega)]; exact hcz.2.1, fun x hx hn => ?_⟩, by rw [g10, pk_un (by decide), zq 10 (by decide)], fun q hq => by rw [q1 q (by omega) (by omega) (by omega) (by omega) (by omega) (by omega) (by omega) (by omega), zq q (by omega)], ?_⟩⟩
          · rw [g16] at hn ⊢
            by_cases y : gx * 20 ≤ x ∧ x < (gx + 1) * 20
            · rw [ax_fill_in _ _ y.1 y.2] at hn
              exact absurd (by decide) hn
            · rw [ax_fill_out _ _ (by omega), g11, pk_un (by omega), zq 16 (by decide), zq 11 (by decide)]
              exact ⟨rfl, rfl⟩
          · refine ⟨(T.rem j).nam i (fun x => m.2 (50 + x)) (m.1 4).toNatClampNeg, 0, 0, 0, 0, some i, none, T'.dt, ?_, by rw [gw 11 (by decide), zw 11 (by decide)]; exact s3, by omega, Or.inl rfl, Or.inr ⟨fx, i, hfx, hi, by rw [g18, pk_us], by rw [g11]; exact zj2, rfl⟩, hno (by rw [gw 14 (by decide)]; exact e14), ?_, fun j hj => absurd hj (by omega), fun y a1 a2 => by rw [q1 21 (by decide) (by decide) (by decide) (by decide) (by decide) (by decide) (by decide) (by decide), zq 21 (by decide)]; exact s6 y a1 a2, fun i _ z => by cases z⟩
            · show TK _ (D1 10 9) (D1 11) (D1 12) (D1 13) (D1 14) (D1 15) (D1 16) _
              rw [g10, pk_us, g11, g12, g13, g14, g15, g16]
              exact hrem.nam hfx hi zj2 hl4 hw50
            · rw [hT', ver_no _ 0 _ _ (fun p => by omega), ← hst.2]
              rfl
    · -- SWAP
      rw [if_neg k6, bnN_e]
      rw [if_neg k6, if_pos (h67.resolve_left k6)] at hst
      rcases hot with ⟨f8, fg⟩ | ⟨gx, j, hgx, hj, f8, fgj, fg⟩
      · rw [fg] at hst; cases hst
      · rw [fg] at hst
        simp only at hst
        have c8 : (Dz 18 8).toNatClampNeg = gx := by rw [zw 8 (by decide), f8, nI_clamp (by omega)]
        by_cases hji : j = i
        · rw [if_pos hji, Option.some.injEq, Prod.mk.injEq] at hst
          have hgf : gx = fx := htk.1.inj hgx hfx hi (by rw [← hji]; exact fgj) fj
          have hF : F_113 nn gg C me f u b Dz K A Y = (Dz, K, A, Y) := by
            unfold F_113
            rw [bnN_e, c7, bnN_e, c8, if_neg (fun z => z (by rw [hgf]))]
          rw [hF, bnS_e]
          exact ⟨Dz, K, hst2, e5, rfl, same hst.2.symm⟩
        · rw [if_neg hji, Option.some.injEq, Prod.mk.injEq] at hst
          have hgf : gx ≠ fx := fun z => hji (by rw [z] at fgj; rw [fj] at fgj; exact (nI_inj (by omega) (by omega) fgj).symm)
          have zgj : Dz 11 gx = nI j := by rw [zq 11 (by decide)]; exact fgj
          have hF : F_113 nn gg C me f u b Dz K A Y = (va_up (va_up (va_up Dz 13 (upd (upd (Dz 13) fx (Dz 19 4)) gx (Dz 19 3))) 14 (va_cpy (Dz 20) (va_cpy (Dz 20) (Dz 14) 50 (fx * 50) 50) 0 (gx * 50) 50)) 18 (upd (upd (Dz 18) 13 (nI fx)) 14 (nI gx)), K, A, Y) := by
            unfold F_113
            rw [bnN_e, c7, bnN_e, c8, if_pos (fun z => hgf (nI_inj (by omega) (by omega) z))]
          rw [hF, bnS_e]
          generalize hD1 : va_up (va_up (va_up Dz 13 (upd (upd (Dz 13) fx (Dz 19 4)) gx (Dz 19 3))) 14 (va_cpy (Dz 20) (va_cpy (Dz 20) (Dz 14) 50 (fx * 50) 50) 0 (gx * 50) 50)) 18 (upd (upd (Dz 18) 13 (nI fx)) 14 (nI gx)) = D1
          have q1 : ∀ q, q ≠ 13 → q ≠ 14 → q ≠ 18 → D1 q = Dz q := fun q a1 a2 a3 => by rw [← hD1, va_up_n _ _ a3, va_up_n _ _ a2, va_up_n _ _ a1]
          have g13 : D1 13 = upd (upd (Dz 13) fx (Dz 19 4)) gx (Dz 19 3) := by rw [← hD1, va_up_n _ _ (by decide), va_up_n _ _ (by decide), va_up_s]
          have g14 : D1 14 = va_cpy (Dz 20) (va_cpy (Dz 20) (Dz 14) 50 (fx * 50) 50) 0 (gx * 50) 50 := by rw [← hD1, va_up_n _ _ (by decide), va_up_s]
          have g18 : D1 18 = upd (upd (Dz 18) 13 (nI fx)) 14 (nI gx) := by rw [← hD1, va_up_s]
          have gw : ∀ x, x ≠ 13 → x ≠ 14 → D1 18 x = Dz 18 x := fun x hx hx2 => by rw [g18, pk_un hx2, pk_un hx]
          refine ⟨D1, K, hst2, e5, rfl, ⟨by rw [gw 3 (by decide) (by decide)]; exact z3, by rw [gw 4 (by decide) (by decide)]; exact z4, fun x hx => by rw [gw x (by omega) (by omega)]; exact z5 x hx, ⟨by rw [q1 17 (by decide) (by decide) (by decide)]; exact hcz.1, by rw [q1 16 (by decide) (by decide) (by decide)]; exact hcz.2.1, fun x hx hn => by rw [q1 16 (by decide) (by decide) (by decide), q1 11 (by decide) (by decide) (by decide), zq 16 (by decide), zq 11 (by decide)]; exact ⟨rfl, rfl⟩⟩, by rw [q1 10 (by decide) (by decide) (by decide), zq 10 (by decide)], fun q hq => by rw [q1 q (by omega) (by omega) (by omega), zq q (by omega)], ?_⟩⟩
          refine ⟨(T.nam i (fun x => m.2 (50 + x)) (m.1 4).toNatClampNeg).nam j (fun x => m.2 x) (m.1 3).toNatClampNeg, 0, 0, 0, 0, some i, some j, T'.dt, ?_, by rw [gw 11 (by decide) (by decide), zw 11 (by decide)]; exact s3, by omega, Or.inl rfl, Or.inr ⟨fx, i, hfx, hi, by rw [g18, pk_un (by decide), pk_us], by rw [q1 11 (by decide) (by decide) (by decide)]; exact zj, rfl⟩, Or.inr ⟨gx, j, hgx, hj, by rw [g18, pk_us], by rw [q1 11 (by decide) (by decide) (by decide)]; exact zgj, rfl⟩, ?_, fun j hj => absurd hj (by omega), fun y a1 a2 => by rw [q1 21 (by decide) (by decide) (by decide), zq 21 (by decide)]; exact s6 y a1 a2, fun x z1 z2 => hji ((Option.some.inj z2).trans (Option.some.inj z1).symm)⟩
          · show TK _ (D1 10 9) (D1 11) (D1 12) (D1 13) (D1 14) (D1 15) (D1 16) K
            rw [q1 10 (by decide) (by decide) (by decide), q1 11 (by decide) (by decide) (by decide), q1 12 (by decide) (by decide) (by decide), g13, g14, q1 15 (by decide) (by decide) (by decide), q1 16 (by decide) (by decide) (by decide)]
            exact (ztk.nam hfx hi zj hl4 hw50).nam hgx hj zgj hl3 hw00
          · rw [hT', ver_no _ 0 _ _ (fun p => by omega), ← hst.2]
            rfl

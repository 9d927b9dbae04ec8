/-! the plan of an OPERATION: what will be told -/
theorem tdL_le {T : TS} {o : Nat} {m : Mg} (hT : TOK T o) (haq : AQ (m.1 0) (m.1 1) (m.1 2) (m.1 3) (m.1 4) (m.1 5)) : ∀ x, tdO T m = some x → x.1 ≤ 2048 := fun x hx => by
  unfold tdO at hx
  split at hx
  · rename_i hk
    split at hx
    · cases hx
    · rw [Option.some.injEq] at hx
      rw [← hx]
      obtain ⟨_, _, h2, _⟩ := haq
      obtain ⟨q, q1, q2⟩ := h2 hk
      show min _ (m.1 2).toNatClampNeg ≤ 2048
      rw [q2, nI_clamp (by omega)]
      omega
  · split at hx
    · split at hx
      · cases hx
      · rename_i i hi
        rw [Option.some.injEq] at hx
        rw [← hx]
        show T.nl i ≤ 2048
        unfold nxN at hi
        split at hi
        · rename_i hex
          have hc := Classical.choose_spec hex
          rw [Option.some.injEq] at hi
          rw [hi] at hc
          have := hT.n1 i hc.2.1
          omega
        · cases hi
    · cases hx
theorem an_neg {T : TS} {o : Nat} {m : Mg} (hT : TOK T o) (haq : AQ (m.1 0) (m.1 1) (m.1 2) (m.1 3) (m.1 4) (m.1 5)) (hst : stp T o m = none) (h : anS T o m < 0) : tdL T m = 0 := by
  cases hd : tdO T m with
  | none => unfold tdL; rw [hd]
  | some x =>
    have := tdL_le hT haq x hd
    rw [(an_told hst hd).1] at h
    exact absurd h (nI_pos (by omega))
/-- what is told -/
def TLv (ops : Nat → Mg) (o : Nat) (D' : Nat → Nat → Int32) : Prop := D' 18 5 = anS (tsp ops o) o (ops o) ∧ D' 19 0 = (ops o).1 0 ∧ ∀ x, x < tdL (tsp ops o) (ops o) → uN (bytA (D' 20) (400 + x)) = tdB (tsp ops o) (ops o) x
set_option maxRecDepth 4000 in
theorem plan_v {ops : Nat → Mg} {G : (Nat → Int32) → Prop} {o : Nat} {nn gg : Nat} {C me : Int32} {f u b : Nat → Int32} {D : Nat → Nat → Int32} {K A : Int64} {Y : List Mg} (hT : TOK (tsp ops o) o) (ho : o < 512) (tk : TKD (tsp ops o) D K) (ak : AKD (ops o) o D) (rt : D 16 960 = efv ops o) (bf : D 18 6 = efv ops o) (hZ : OZ (ops o)) (hN : NZ (tsp ops o)) :
    ∃ D' : Nat → Nat → Int32, F_93 nn gg C me f u b D K A Y = (D', K, A, Y) ∧ keep4 D D' ∧ D' 18 4 = nI o ∧ D' 18 6 = D 18 6 ∧ ((D' 18 3 = 5 ∧ stp (tsp ops o) o (ops o) = none ∧ ((ops o).1 0 = 8 ∨ (ops o).1 0 = 9 ∨ D' 18 5 < 0) ∧ TLv ops o D') ∨ (D' 18 3 = 2 ∧ FE ops G o D' K ∧ ((ops o).1 0 = 4 → D' 18 9 = D' 18 5 ∧ D' 18 5 = anS (tsp ops o) o (ops o)))) := by
  have hle : D 16 960 ≤ D 18 4 ∧ ¬ D 16 960 = D 18 4 := by
    rw [rt, ak.op]
    rcases efv_or ops o with z | ⟨v, a, z, _⟩
    · rw [z]
      refine ⟨?_, fun y => nIneg (by omega) y.symm⟩
      have := nI_pos' (n := o) (by omega)
      rw [Int32.le_iff_toInt_le] at this ⊢
      have h0 : (0 : Int32).toInt = 0 := by decide
      have h1 : (-1 : Int32).toInt = -1 := by decide
      omega
    · rw [z]
      exact ⟨nI_le (by omega) (by omega), fun y => by have := nI_inj (by omega) (by omega) y; omega⟩
  have l0 := (inR_c2 ak.aq.2.2.2.1 (by decide))
  have l1 := (inR_c2 ak.aq.2.2.2.2.1 (by decide))
  have hfd : ∀ (p l : Nat), p = 0 ∨ p = 50 → l < 2 ^ 31 → fdP (D 11) (nmB (D 11) (D 13) (D 14) (D 20) p (nI l)) (fdN (tsp ops o) (ops o).2 p l) := fun p l hp hl => by
    have hcg : fdN (tsp ops o) (D 20) p l = fdN (tsp ops o) (ops o).2 p l := fdN_cg (fun x hx => ak.w1 _ (by omega))
    rw [← hcg]
    rcases tk.named hT (by omega) (w := D 20) (p := p) hl with z | ⟨fx, i, a1, a2, a3, a4, a5⟩
    · exact Or.inl z
    · exact Or.inr ⟨fx, i, a1, a2, a3, a4, a5⟩
  have y10 : fdP (D 11) (nmB (D 11) (D 13) (D 14) (D 20) 0 (D 19 3)) (fdN (tsp ops o) (ops o).2 0 ((ops o).1 3).toNatClampNeg) := by
    rw [show D 19 3 = nI ((ops o).1 3).toNatClampNeg from ak.h3.trans l0.2]
    exact hfd 0 _ (Or.inl rfl) (by omega)
  have y13 : fdP (D 11) (nmB (D 11) (D 13) (D 14) (D 20) 50 (D 19 4)) (fdN (tsp ops o) (ops o).2 50 ((ops o).1 4).toNatClampNeg) := by
    rw [show D 19 4 = nI ((ops o).1 4).toNatClampNeg from ak.h4.trans l1.2]
    exact hfd 50 _ (Or.inr rfl) (by omega)
  unfold F_93
  rw [if_pos hle.1, if_pos hle.2, if_neg (fun z => z (by rw [rt, bf])), bnI_e]
  -- both ways from here on: y is the place of the other FILE
  have body : ∀ y : Int32, ((ops o).1 0 = 9 ∨ fdP (D 11) y (fdN (tsp ops o) (ops o).2 50 ((ops o).1 4).toNatClampNeg)) → ((ops o).1 0 = 9 → fdP (D 11) y (nxN (tsp ops o) (ops o).2 ((ops o).1 3).toNatClampNeg)) →
      ∃ D' : Nat → Nat → Int32, bnR (F_99 nn gg C me f u b (va_up (va_up D 18 (plW (D 18) (nmB (D 11) (D 13) (D 14) (D 20) 0 (D 19 3)) y)) 21 (ax_fill (D 21) 0 1152 0)) K A Y (32768 - (totS (D 12) 48 0 0))) (fun y15 D16 K16 A16 Y16 =>
                if y15 < 0 then
                  (va_up D16 18 (upd (upd (D16 18) 3 5) 5 y15), K16, A16, Y16)
                else
                  bnS (F_102 nn gg C me f u b (va_up D16 18 (upd (D16 18) 5 y15)) K16 A16 Y16) (fun D19 K19 A19 Y19 =>
                    if (D19 19 0) = 8 then
                      (va_up D19 18 (upd (D19 18) 3 5), K19, A19, Y19)
                    else
                      if ¬ (D19 19 0) = 9 then
                        (va_up D19 18 (upd (D19 18) 3 2), K19, A19, Y19)
                      else
                        (va_up D19 18 (upd (D19 18) 3 5), K19, A19, Y19))) = (D', K, A, Y) ∧ keep4 D D' ∧ D' 18 4 = nI o ∧ D' 18 6 = D 18 6 ∧ ((D' 18 3 = 5 ∧ stp (tsp ops o) o (ops o) = none ∧ ((ops o).1 0 = 8 ∨ (ops o).1 0 = 9 ∨ D' 18 5 < 0) ∧ TLv ops o D') ∨ (D' 18 3 = 2 ∧ FE ops G o D' K ∧ ((ops o).1 0 = 4 → D' 18 9 = D' 18 5 ∧ D' 18 5 = anS (tsp ops o) o (ops o)))) := fun y hy hyx => by
    generalize hD1 : va_up (va_up D 18 (plW (D 18) (nmB (D 11) (D 13) (D 14) (D 20) 0 (D 19 3)) y)) 21 (ax_fill (D 21) 0 1152 0) = D1
    have q1 : ∀ q, q ≠ 18 → q ≠ 21 → D1 q = D q := fun q a c => by rw [← hD1, va_up_n _ _ c, va_up_n _ _ a]
    have w1 : D1 18 = plW (D 18) (nmB (D 11) (D 13) (D 14) (D 20) 0 (D 19 3)) y := by rw [← hD1, va_up_n _ _ (by decide), va_up_s]
    have b1 : D1 21 = ax_fill (D 21) 0 1152 0 := by rw [← hD1, va_up_s]
    have v7 : D1 18 7 = nmB (D 11) (D 13) (D 14) (D 20) 0 (D 19 3) := by rw [w1]; exact (plW_v _ _ _).1
    have v8 : D1 18 8 = y := by rw [w1]; exact (plW_v _ _ _).2.1
    have v9 : D1 18 9 = 0 := by rw [w1]; exact (plW_v _ _ _).2.2.1
    have v11 : D1 18 11 = 0 := by rw [w1]; exact (plW_v _ _ _).2.2.2.1
    have v12 : D1 18 12 = 0 := by rw [w1]; exact (plW_v _ _ _).2.2.2.2.1
    have v13 : D1 18 13 = -1 := by rw [w1]; exact (plW_v _ _ _).2.2.2.2.2.1
    have v14 : D1 18 14 = -1 := by rw [w1]; exact (plW_v _ _ _).2.2.2.2.2.2
    have v4 : D1 18 4 = D 18 4 := by rw [w1]; exact plW_o (by decide)
    have v6 : D1 18 6 = D 18 6 := by rw [w1]; exact plW_o (by decide)
    have tk1 : TKD (tsp ops o) D1 K := by
      show TK _ (D1 10 9) (D1 11) (D1 12) (D1 13) (D1 14) (D1 15) (D1 16) K
      rw [q1 10 (by decide) (by decide), q1 11 (by decide) (by decide), q1 12 (by decide) (by decide), q1 13 (by decide) (by decide), q1 14 (by decide) (by decide), q1 15 (by decide) (by decide), q1 16 (by decide) (by decide)]
      exact tk
    have ak1 : AKD (ops o) o D1 := ak.cg v4 (fun x _ => by rw [q1 19 (by decide) (by decide)]) (fun _ => by rw [q1 19 (by decide) (by decide)]) (q1 20 (by decide) (by decide))
    have tot : totS (D 12) 48 0 0 = nI (tsp ops o).tot := tk.tot hT.z1 (fun i hi => (hT.e2 i hi).1)
    have ro : (32768 : Int32) - totS (D 12) 48 0 0 = nI (32768 - (tsp ops o).tot) := by
      rw [tot]
      exact nI_sub (y := 32768) hT.t1
    have hf1 : fdP (D1 11) (D1 18 7) (fdN (tsp ops o) (ops o).2 0 ((ops o).1 3).toNatClampNeg) := by rw [q1 11 (by decide) (by decide), v7]; exact y10
    have hg1 : (ops o).1 0 = 9 ∨ fdP (D1 11) (D1 18 8) (fdN (tsp ops o) (ops o).2 50 ((ops o).1 4).toNatClampNeg) := by rw [q1 11 (by decide) (by decide), v8]; exact hy
    obtain ⟨yy, D2, e2, k2, k18, k19, k191, out⟩ := fore_lem (nn := nn) (gg := gg) (C := C) (me := me) (f := f) (u := u) (b := b) (A := A) (Y := Y) (D6 := f) hT ho tk1 ak1 hf1 hg1 ro v9
    obtain ⟨hv, hv4⟩ := fore_v hT ho tk1 ak1 hf1 hg1 ro v9 (fun k => by rw [q1 11 (by decide) (by decide), v8]; exact hyx k) e2
    have kind : D2 19 0 = (ops o).1 0 := by rw [k19 0 (by decide), q1 19 (by decide) (by decide)]; exact ak.h0
    have hstn : yy < 0 → stp (tsp ops o) o (ops o) = none := fun hy0 => by
      rcases out with z | z | ⟨a, T', z0, z⟩
      · exact z.2
      · exact z.2.2.1
      · rw [z.1] at hy0
        exact absurd hy0 (nI_pos z0)
    rw [e2, bnR_e]
    have kp : ∀ (D3 : Nat → Nat → Int32), (∀ q, q ≠ 18 → q ≠ 20 → D3 q = D2 q) → keep4 D D3 := fun D3 h q a1 a2 a3 a4 => by rw [h q a1 a3, k2 q a1 a2, q1 q a1 a4]
    by_cases hy0 : yy < 0
    · rw [if_pos hy0]
      refine ⟨_, rfl, kp _ (fun q hq _ => va_up_n _ _ hq), ?_, ?_, Or.inl ⟨?_, ?_, Or.inr (Or.inr (by rw [va_up_s, pk_us]; exact hy0)), by rw [va_up_s, pk_us]; exact hv, by rw [va_up_n _ _ (by decide)]; exact kind, fun x hx => absurd hx (by rw [an_neg hT ak.aq (hstn hy0) (by rw [← hv]; exact hy0)]; exact Nat.not_lt_zero x)⟩⟩
      · rw [va_up_s, pk_un (by decide), pk_un (by decide), k18 4 (by decide), v4]; exact ak.op
      · rw [va_up_s, pk_un (by decide), pk_un (by decide), k18 6 (by decide), v6]
      · rw [va_up_s, pk_un (by decide), pk_us]
      · rcases out with z | z | ⟨a, T', z0, z⟩
        · exact z.2
        · exact z.2.2.1
        · rw [z.1] at hy0
          exact absurd hy0 (nI_pos z0)
    · rw [if_neg hy0]
      have e7 : D2 18 7 = -1 ∨ ∃ fx : Nat, fx < 48 ∧ D2 18 7 = nI fx := by
        rw [k18 7 (by decide)]
        rcases hf1 with z | ⟨fx, i, a1, a2, a3, _⟩
        · exact Or.inl z.1
        · exact Or.inr ⟨fx, a1, a3⟩
      -- the bytes that it changes
      have hsp : ¬ (ops o).1 0 = 9 → ∃ sp a : Nat, sp ≤ 2048 ∧ D2 18 9 = nI sp ∧ (0 < sp → D2 19 1 = nI a ∧ a + sp ≤ 8192) := fun k9 => by
        rcases out with z | ⟨_, _, _, z, _⟩ | ⟨a, T', _, _, z3, z4, z5, _⟩
        · exact absurd z.1 hy0
        · exact z
        · obtain ⟨sp, a1, a2, a3⟩ := spn_bd hT ak.aq z3 z4 z5
          by_cases h0 : 0 < sp
          · obtain ⟨a, a4, a5⟩ := a3 h0
            exact ⟨sp, a, a1, a2, fun _ => ⟨a4, a5⟩⟩
          · exact ⟨sp, 0, a1, a2, fun z => absurd z h0⟩
      generalize hD3 : va_up D2 18 (upd (D2 18) 5 yy) = D3
      have p1 : ∀ q, q ≠ 18 → D3 q = D2 q := fun q hq => by rw [← hD3, va_up_n _ _ hq]
      have p2 : ∀ x, x ≠ 5 → D3 18 x = D2 18 x := fun x hx => by rw [← hD3, va_up_s, pk_un hx]
      have p5 : D3 18 5 = yy := by rw [← hD3, va_up_s, pk_us]
      by_cases k9 : (ops o).1 0 = 9
      · -- NEXT
        have h90 : D3 18 9 = 0 := by
          rw [p2 9 (by decide)]
          rcases out with z | ⟨_, _, _, _, _, z⟩ | ⟨a, T', _, _, _, _, z, _⟩
          · exact absurd z.1 hy0
          · exact z (by rw [k9]; decide)
          · exact absurd (Or.inr (Or.inr k9)) z
        have hn : stp (tsp ops o) o (ops o) = none := by
          rcases out with z | z | ⟨a, T', _, _, _, _, z, _⟩
          · exact z.2
          · exact z.2.2.1
          · exact absurd (Or.inr (Or.inr k9)) z
        have h3 : D3 19 0 = 9 := by rw [p1 19 (by decide), kind, k9]
        have hF : F_102 nn gg C me f u b D3 K A Y = (va_up D3 20 (va_cpy (D3 14) (D3 20) ((D3 18 8).toNatClampNeg * 50) 100 50), K, A, Y) := by
          have hcl : (D3 18 9).toNatClampNeg = 0 := by rw [h90]; rfl
          unfold F_102
          rw [bnN_e, hcl, if_neg (fun z => z h3), bnN_e, if_pos (show nI 0 ≤ 0 by decide)]
          rfl
        rw [hF, bnS_e, if_neg (by rw [va_up_n _ _ (by decide), h3]; decide), if_neg (fun z => z (by rw [va_up_n _ _ (by decide)]; exact h3))]
        refine ⟨_, rfl, kp _ (fun q a1 a2 => by rw [va_up_n _ _ a1, va_up_n _ _ a2, p1 q a1]), ?_, ?_, Or.inl ⟨?_, hn, Or.inr (Or.inl k9), ?_, ?_, ?_⟩⟩
        · rw [va_up_s, pk_un (by decide), va_up_n _ _ (by decide), p2 4 (by decide), k18 4 (by decide), v4]; exact ak.op
        · rw [va_up_s, pk_un (by decide), va_up_n _ _ (by decide), p2 6 (by decide), k18 6 (by decide), v6]
        · rw [va_up_s, pk_us]
        · rw [va_up_s, pk_un (by decide), va_up_n _ _ (by decide), p5]; exact hv
        · rw [va_up_n _ _ (by decide), va_up_n _ _ (by decide), p1 19 (by decide)]; exact kind
        · intro x hx
          rcases hyx k9 with ⟨_, x2⟩ | ⟨gx, j, x1, x2, x3, x4, x5⟩
          · have hd : tdO (tsp ops o) (ops o) = none := by unfold tdO; rw [if_neg (by rw [k9]; decide), if_pos k9, x2]
            unfold tdL at hx
            rw [hd] at hx
            exact absurd hx (Nat.not_lt_zero x)
          · have hd : tdO (tsp ops o) (ops o) = some ((tsp ops o).nl j, nmP (tsp ops o) j) := by unfold tdO; rw [if_neg (by rw [k9]; decide), if_pos k9, x5]
            obtain ⟨_, _, d3, d4⟩ := an_told hn hd
            rw [d3] at hx
            have hx : x < (tsp ops o).nl j := hx
            have hnl := hT.n1 j (tk.1.jx x1 x2 x4).1
            rw [d4, va_up_n _ _ (by decide), va_up_s, p2 8 (by decide), k18 8 (by decide), v8, x3, nI_clamp (by omega), p1 14 (by decide), k2 14 (by decide) (by decide), q1 14 (by decide) (by decide)]
            refine Eq.trans ?_ ((tk.nmb x1 x2 x4).2 x (by omega))
            unfold nby
            refine congrArg uN (byt_cg ?_ (by omega))
            rw [show (400 + x) / 4 = 100 + x / 4 by omega, pk_cpy_in (by omega) (by omega)]
            refine congrArg _ ?_
            omega
      · obtain ⟨sp, a, s1, s2, s3⟩ := hsp k9
        have h3 : ¬ D3 19 0 = 9 := by rw [p1 19 (by decide), kind]; exact k9
        obtain ⟨D4, c, t1, t2, t3, t4, t5, t6, t7⟩ := touch_lem (nn := nn) (gg := gg) (C := C) (me := me) (f := f) (u := u) (b := b) (K := K) (A := A) (Y := Y) (D := D3) (sp := sp) (a := a) h3 (by rw [p2 9 (by decide)]; exact s2) s1 (fun z => by rw [p1 19 (by decide)]; exact s3 z) (by rw [p2 11 (by decide), k18 11 (by decide)]; exact v11) (by rw [p2 12 (by decide), k18 12 (by decide)]; exact v12) (by rw [p2 7 (by decide)]; exact e7)
        rw [t1, bnS_e]
        have kind4 : D4 19 0 = (ops o).1 0 := by rw [t2 19 (by decide), p1 19 (by decide), kind]
        have g4 : D4 18 4 = nI o := by rw [t3 4 (by decide) (by decide) (by decide), p2 4 (by decide), k18 4 (by decide), v4]; exact ak.op
        have g6 : D4 18 6 = D 18 6 := by rw [t3 6 (by decide) (by decide) (by decide), p2 6 (by decide), k18 6 (by decide), v6]
        rw [kind4]
        by_cases k8 : (ops o).1 0 = 8
        · rw [if_pos k8]
          have hn : stp (tsp ops o) o (ops o) = none := by
            rcases out with z | z | ⟨a, T', _, _, _, _, z, _⟩
            · exact z.2
            · exact z.2.2.1
            · exact absurd (Or.inr (Or.inl k8)) z
          refine ⟨_, rfl, kp _ (fun q a1 a2 => by rw [va_up_n _ _ a1, t2 q a1, p1 q a1]), ?_, ?_, Or.inl ⟨?_, hn, Or.inl k8, ?_, ?_, ?_⟩⟩
          · rw [va_up_s, pk_un (by decide)]; exact g4
          · rw [va_up_s, pk_un (by decide)]; exact g6
          · rw [va_up_s, pk_us]
          · rw [va_up_s, pk_un (by decide), t3 5 (by decide) (by decide) (by decide), p5]; exact hv
          · rw [va_up_n _ _ (by decide)]; exact kind4
          · intro x hx
            unfold tdL at hx
            rw [tdO_no (by rw [k8]; decide) (by rw [k8]; decide)] at hx
            exact absurd hx (Nat.not_lt_zero x)
        · rw [if_neg k8, if_pos k9]
          generalize hD5 : va_up D4 18 (upd (D4 18) 3 2) = D5
          have z1 : ∀ q, q ≠ 18 → D5 q = D2 q := fun q hq => by rw [← hD5, va_up_n _ _ hq, t2 q hq, p1 q hq]
          have z2 : ∀ x, x ≠ 3 → D5 18 x = D4 18 x := fun x hx => by rw [← hD5, va_up_s, pk_un hx]
          have z3 : ∀ x, x ≠ 3 → x ≠ 10 → x ≠ 11 → x ≠ 12 → x ≠ 5 → D5 18 x = D2 18 x := fun x h3 h10 h11 h12 h5 => by rw [z2 x h3, t3 x h10 h11 h12, p2 x h5]
          have z4 : ∀ q, q ≠ 18 → q ≠ 19 → q ≠ 21 → D5 q = D q := fun q a1 a2 a3 => by rw [z1 q a1, k2 q a1 a2, q1 q a1 a3]
          have z7 : D5 18 7 = D1 18 7 := by rw [z3 7 (by decide) (by decide) (by decide) (by decide) (by decide), k18 7 (by decide)]
          have z21 : D5 21 = ax_fill (D 21) 0 1152 0 := by rw [z1 21 (by decide), k2 21 (by decide) (by decide)]; exact b1
          refine ⟨D5, rfl, kp _ (fun q a1 _ => z1 q a1), by rw [z2 4 (by decide)]; exact g4, by rw [z2 6 (by decide)]; exact g6, Or.inr ⟨by rw [← hD5, va_up_s, pk_us], ?_, fun h4 => by rw [z3 9 (by decide) (by decide) (by decide) (by decide) (by decide), z2 5 (by decide), t3 5 (by decide) (by decide) (by decide), p5]; exact ⟨hv4 h4 hy0, hv⟩⟩⟩
          refine ⟨?_, ?_, ?_, ?_, ?_, ?_, ?_, ?_⟩
          · exact by
              show TK _ (D5 10 9) (D5 11) (D5 12) (D5 13) (D5 14) (D5 15) (D5 16) K
              rw [z4 10 (by decide) (by decide) (by decide), z4 11 (by decide) (by decide) (by decide), z4 12 (by decide) (by decide) (by decide), z4 13 (by decide) (by decide) (by decide), z4 14 (by decide) (by decide) (by decide), z4 15 (by decide) (by decide) (by decide), z4 16 (by decide) (by decide) (by decide)]
              exact tk
          · exact ak.cg (by rw [z2 4 (by decide), g4]; exact ak.op.symm) (fun x hx => by rw [z1 19 (by decide), k19 x hx, q1 19 (by decide) (by decide)]) (fun h => by rw [z1 19 (by decide), k191 h, q1 19 (by decide) (by decide)]) (z4 20 (by decide) (by decide) (by decide))
          · exact by rw [z4 16 (by decide) (by decide) (by decide)]; exact rt
          · exact by rw [z7, z4 11 (by decide) (by decide) (by decide), ← q1 11 (by decide) (by decide)]; exact hf1
          · exact by rw [z3 8 (by decide) (by decide) (by decide) (by decide) (by decide), k18 8 (by decide), z4 11 (by decide) (by decide) (by decide), ← q1 11 (by decide) (by decide)]; exact hg1
          · exact ⟨by rw [z3 13 (by decide) (by decide) (by decide) (by decide) (by decide), k18 13 (by decide)]; exact v13, by rw [z3 14 (by decide) (by decide) (by decide) (by decide) (by decide), k18 14 (by decide)]; exact v14⟩
          · exact by
              rcases out with z | ⟨_, z, y2, _, y4, _⟩ | ⟨a, T', y1, y2, y3, y4, y5, y6⟩
              · exact absurd z.1 hy0
              · rcases z with z | z | z
                · exact Or.inl ⟨z, y2, by rw [z7]; exact y4 z⟩
                · exact absurd z k8
                · exact absurd z k9
              · refine Or.inr ⟨a, T', by rw [z2 5 (by decide), t3 5 (by decide) (by decide) (by decide), p5]; exact y2, y3, ?_, y5, by rw [z7]; exact y6⟩
                have w9 : D5 18 9 = D2 18 9 := z3 9 (by decide) (by decide) (by decide) (by decide) (by decide)
                have w19 : D5 19 = D2 19 := z1 19 (by decide)
                exact ⟨fun h => by rw [w9, w19]; exact y4.s1 h, fun h => by rw [w9, w19]; exact y4.s2 h, fun h => by rw [w9, w19]; exact y4.s3 h, fun h => by rw [w9]; exact y4.s5 h⟩
          · exact by
              have w7 : ∀ fx : Nat, D5 18 7 = nI fx ↔ D3 18 7 = nI fx := fun fx => by rw [z7, p2 7 (by decide), k18 7 (by decide)]
              have w16 : D5 16 = D3 16 := by rw [z1 16 (by decide), p1 16 (by decide)]
              refine ⟨sp, c, a, s1, by rw [z3 9 (by decide) (by decide) (by decide) (by decide) (by decide)]; exact s2, by rw [z2 11 (by decide)]; exact t4, t5, fun h => ⟨by rw [z1 19 (by decide)]; exact (s3 h).1, (s3 h).2, by rw [z2 10 (by decide)]; exact (t6 h).1, (t6 h).2⟩, fun j hj hb => ?_, fun j hj => Or.inl (fun x hx => by rw [z21]; exact ax_fill_in _ _ (by omega) (by omega)), fun j hj hb fx hfx e hv => ?_⟩
              · rw [z2 12 (by decide)] at hb
                obtain ⟨a1, fx, a2, a3, a4⟩ := (t7 j hj).mp hb
                exact ⟨a1, fx, a2, (w7 fx).mpr a3, by rw [w16]; exact a4⟩
              · rw [z2 12 (by decide)] at hb
                have hc20 : j < 32 := by
                  rcases Nat.eq_zero_or_pos sp with y | y
                  · rw [t5 y] at hj; omega
                  · have := (t6 y).2
                    have := (s3 y).2
                    omega
                have := (t7 j hc20).mpr ⟨hj, fx, hfx, (w7 fx).mp e, by rw [← w16]; exact hv⟩
                rw [hb] at this
                cases this
  by_cases k9 : D 19 0 = 9
  · rw [if_neg (fun z => z k9), bnI_e]
    refine body _ (Or.inl (by rw [← ak.h0]; exact k9)) (fun _ => ?_)
    have hw : ∀ b, b < 200 → nby (D 20) 0 b = nby (ops o).2 0 b := nby_cg (fun x hx => by rw [Nat.zero_add]; exact ak.w1 x (by omega))
    rw [show D 19 3 = nI ((ops o).1 3).toNatClampNeg from ak.h3.trans l0.2, ← nxN_cg (by omega) hw]
    exact TK.first hT tk hN (by omega) (fun j h1 h2 => by rw [hw j h2]; exact hZ.1 j h1 h2)
  · rw [if_pos k9, bnI_e]
    exact body _ (Or.inr y13) (fun z => absurd (by rw [ak.h0]; exact z) k9)

/-! the reference's settle: all that waits, one behind the other -/
theorem nz_by {T T' : TS} {m : Mg} (hN : NZ T) (hO : OZ m) (h : ∀ i, T'.ex i = true → (T.ex i = true ∧ T'.nm i = T.nm i ∧ T'.nl i = T.nl i) ∨ (T'.nm i = (fun x => m.2 x) ∧ T'.nl i = (m.1 3).toNatClampNeg) ∨ (T'.nm i = (fun x => m.2 (50 + x)) ∧ T'.nl i = (m.1 4).toNatClampNeg)) : NZ T' := fun i hi => by
  unfold nmP
  rcases h i hi with ⟨a, b, c⟩ | ⟨b, c⟩ | ⟨b, c⟩
  · rw [b, c]; exact hN i a
  · rw [b, c]; exact hO.1
  · rw [b, c]
    intro j h1 h2
    rw [nby_sh]; exact hO.2 j h1 h2
theorem nz_stp {T T' : TS} {k a : Nat} {m : Mg} (hN : NZ T) (hO : OZ m) (e : stp T k m = some (a, T')) : NZ T' := by
  have hold : ∀ (X : TS) (i : Nat), X.ex i = true → X.ex i = true ∧ X.nm i = X.nm i ∧ X.nl i = X.nl i := fun X i hi => ⟨hi, rfl, rfl⟩
  have hwx : ∀ (X : TS) (i a l o j : Nat) (tp : Nat → Int32), (X.wrt i a l o tp).ex j = X.ex j ∧ (X.wrt i a l o tp).nm j = X.nm j ∧ (X.wrt i a l o tp).nl j = X.nl j := fun X i a l o j tp => by
    unfold TS.wrt
    split
    · exact ⟨rfl, rfl, rfl⟩
    · exact ⟨rfl, rfl, rfl⟩
  have hmk : ∀ (T2 : TS) (l : Nat), l = (m.1 3).toNatClampNeg → (∀ j, T2.ex j = (T.mk1 k (fun x => m.2 x) l).ex j ∧ T2.nm j = (T.mk1 k (fun x => m.2 x) l).nm j ∧ T2.nl j = (T.mk1 k (fun x => m.2 x) l).nl j) → NZ T2 := fun T2 l hl h2 => by
    refine nz_by hN hO (fun i hi => ?_)
    obtain ⟨b1, b2, b3⟩ := h2 i
    rw [b1] at hi
    have hi : fup T.ex k true i = true := hi
    by_cases c : i = k
    · refine Or.inr (Or.inl ⟨?_, ?_⟩)
      · rw [b2, c]; exact fup_s
      · rw [b3, c, ← hl]; exact fup_s
    · rw [fup_n c] at hi
      refine Or.inl ⟨hi, ?_, ?_⟩
      · rw [b2]; exact fup_n c
      · rw [b3]; exact fup_n c
  have hwr : ∀ a', wrS T k m.2 (m.1 3).toNatClampNeg (m.1 5).toNatClampNeg (fdN T m.2 0 (m.1 3).toNatClampNeg) a' = some (a, T') → NZ T' := fun a' e => by
    cases hf : fdN T m.2 0 (m.1 3).toNatClampNeg with
    | none =>
      rw [hf] at e
      unfold wrS at e
      simp only at e
      obtain ⟨hn, e⟩ := ite_ns e
      rw [Prod.mk.injEq] at e
      rw [← e.2]
      exact hmk _ _ rfl (fun j => hwx _ _ _ _ _ j _)
    | some j =>
      rw [hf] at e
      unfold wrS at e
      simp only at e
      obtain ⟨hn, e⟩ := ite_ns e
      rw [Prod.mk.injEq] at e
      rw [← e.2]
      refine nz_by hN hO (fun i hi => Or.inl ?_)
      obtain ⟨b1, b2, b3⟩ := hwx T j a' (m.1 5).toNatClampNeg k i (fun x => bytA m.2 (400 + x))
      exact ⟨by rw [← b1]; exact hi, b2, b3⟩
  unfold stp at e
  split at e
  · cases hf : fdN T m.2 0 (m.1 3).toNatClampNeg with
    | some j => rw [hf] at e; cases e
    | none =>
      rw [hf] at e
      simp only at e
      obtain ⟨hn, e⟩ := ite_ns e
      rw [Prod.mk.injEq] at e
      rw [← e.2]
      exact hmk _ _ rfl (fun j => ⟨rfl, rfl, rfl⟩)
  split at e
  · exact hwr _ e
  split at e
  · exact hwr _ e
  split at e
  · cases hf : fdN T m.2 0 (m.1 3).toNatClampNeg with
    | none => rw [hf] at e; cases e
    | some j =>
      rw [hf] at e
      simp only at e
      obtain ⟨hn, e⟩ := ite_ns e
      rw [Prod.mk.injEq] at e
      rw [← e.2]
      exact nz_by hN hO (fun i hi => Or.inl ⟨hi, rfl, rfl⟩)
  split at e
  · cases hf : fdN T m.2 0 (m.1 3).toNatClampNeg with
    | none => rw [hf] at e; cases e
    | some j =>
      rw [hf] at e
      simp only at e
      rw [Option.some.injEq, Prod.mk.injEq] at e
      rw [← e.2]
      refine nz_by hN hO (fun i hi => Or.inl ⟨?_, rfl, rfl⟩)
      have hi : fup T.ex j false i = true := hi
      by_cases c : i = j
      · rw [c, fup_s] at hi; cases hi
      · rw [fup_n c] at hi; exact hi
  split at e
  · cases hf : fdN T m.2 0 (m.1 3).toNatClampNeg with
    | none => rw [hf] at e; cases e
    | some x =>
      rw [hf] at e
      simp only at e
      have hnm : ∀ (X : TS), (∀ i, X.ex i = true → T.ex i = true ∧ X.nm i = T.nm i ∧ X.nl i = T.nl i) → NZ ((X.nam x (fun z => m.2 (50 + z)) (m.1 4).toNatClampNeg).rcd x k) := fun X hX => by
        refine nz_by hN hO (fun i hi => ?_)
        have hi : X.ex i = true := hi
        by_cases c : i = x
        · refine Or.inr (Or.inr ⟨?_, ?_⟩)
          · rw [c]; exact fup_s
          · rw [c]; exact fup_s
        · obtain ⟨b1, b2, b3⟩ := hX i hi
          exact Or.inl ⟨b1, (show fup X.nm x _ i = _ by rw [fup_n c]; exact b2), (show fup X.nl x _ i = _ by rw [fup_n c]; exact b3)⟩
      cases hg : fdN T m.2 50 (m.1 4).toNatClampNeg with
      | none =>
        rw [hg] at e
        simp only at e
        rw [Option.some.injEq, Prod.mk.injEq] at e
        rw [← e.2]
        exact hnm T (fun i hi => ⟨hi, rfl, rfl⟩)
      | some y =>
        rw [hg] at e
        simp only at e
        by_cases c : y = x
        · rw [if_pos c, Option.some.injEq, Prod.mk.injEq] at e
          rw [← e.2]
          exact hN
        · rw [if_neg c, Option.some.injEq, Prod.mk.injEq] at e
          rw [← e.2]
          refine hnm (T.rem y) (fun i hi => ⟨?_, rfl, rfl⟩)
          have hi : fup T.ex y false i = true := hi
          by_cases d : i = y
          · rw [d, fup_s] at hi; cases hi
          · rw [fup_n d] at hi; exact hi
  split at e
  · cases hf : fdN T m.2 0 (m.1 3).toNatClampNeg with
    | none => rw [hf] at e; cases e
    | some x =>
      rw [hf] at e
      simp only at e
      cases hg : fdN T m.2 50 (m.1 4).toNatClampNeg with
      | none => rw [hg] at e; cases e
      | some y =>
        rw [hg] at e
        simp only at e
        by_cases c : y = x
        · rw [if_pos c, Option.some.injEq, Prod.mk.injEq] at e
          rw [← e.2]
          exact hN
        · rw [if_neg c, Option.some.injEq, Prod.mk.injEq] at e
          rw [← e.2]
          refine nz_by hN hO (fun i hi => ?_)
          have hi : T.ex i = true := hi
          by_cases d : i = y
          · refine Or.inr (Or.inl ⟨?_, ?_⟩)
            · rw [d]; exact fup_s
            · rw [d]; exact fup_s
          · by_cases d2 : i = x
            · refine Or.inr (Or.inr ⟨?_, ?_⟩)
              · show fup (fup T.nm x _) y _ i = _
                rw [fup_n d, d2, fup_s]
              · show fup (fup T.nl x _) y _ i = _
                rw [fup_n d, d2, fup_s]
            · refine Or.inl ⟨hi, ?_, ?_⟩
              · show fup (fup T.nm x _) y _ i = _
                rw [fup_n d, fup_n d2]
              · show fup (fup T.nl x _) y _ i = _
                rw [fup_n d, fup_n d2]
  · cases e
theorem nz_tsp {ops : Nat → Mg} : ∀ {k : Nat}, (∀ o, o < k → OZ (ops o)) → NZ (tsp ops k)
  | 0, _ => fun i hi => by cases hi
  | k + 1, h => by
    have ih := nz_tsp (k := k) (fun o ho => h o (by omega))
    cases e : stp (tsp ops k) k (ops k) with
    | some x => rw [tsp_some (a := x.1) (T' := x.2) e]; exact nz_stp (a := x.1) (T' := x.2) ih (h k (by omega)) e
    | none => rw [show tsp ops (k + 1) = tsp ops k by show (match stp (tsp ops k) k (ops k) with | some x => x.2 | none => tsp ops k) = _; rw [e]]; exact ih
theorem tsp_tnx (ops : Nat → Mg) (k : Nat) : tsp ops (k + 1) = tnx (tsp ops k) k (ops k) := rfl
/-- so far the reference has come -/
def JJ (ops : Nat → Mg) (sn wt w : Nat) (M : Nat → Nat → Int32) : Prop := RF M (tsp ops (sn + w)) ∧ (∀ v, v < wt → OD M v (ops (sn + v))) ∧ (∀ o, o < sn + w → M 34 o = anS (tsp ops o) o (ops o)) ∧ ∀ v, v < w → TDw M v (tsp ops (sn + v)) (ops (sn + v))
theorem OD.km {M M' : Nat → Nat → Int32} {w : Nat} {m : Mg} (h : OD M w m) (k : KM M M') : OD M' w m := by
  obtain ⟨_, _, _, _, k27, k28, k29, k30, k31, k32, k33, _⟩ := k
  unfold OD at h ⊢
  rw [k27, k28, k29, k30, k31, k32, k33]; exact h
theorem JJ.h {ops : Nat → Mg} {sn wt : Nat} (hb : sn + wt ≤ 512) (hwt : wt ≤ 12) (hA : opsOK ops (sn + wt)) (hZ : ∀ o, o < sn + wt → OZ (ops o)) : JH wt sn (JJ ops sn wt) := by
  refine ⟨fun w M y M' hw hJ hAC hK hF => ?_, fun w M g hJ hg => ?_⟩
  · obtain ⟨j1, j2, j3, j4⟩ := hJ
    have hT : TOK (tsp ops (sn + w)) (sn + w) := tsp_ok (by omega) (fun o ho => hA o (by omega))
    obtain ⟨a1, a2, a3, a4⟩ := act_rf hT (by omega) (by omega) (nz_tsp (fun o ho => hZ o (by omega))) (hZ (sn + w) (by omega)) (hA (sn + w) (by omega)) (j2 w hw) j1 hF hAC
    refine ⟨a1, fun v hv => (show OD M' v (ops (sn + v)) from (j2 v hv).km hK), fun o ho => ?_, fun v hv => ?_⟩
    · show upd (M' 34) (sn + w) y o = _
      by_cases e : o = sn + w
      · rw [e, pk_us]; exact a2
      · rw [pk_un e, hK.2.2.2.2.2.2.2.2.2.2.2]
        exact j3 o (by omega)
    · by_cases e : v = w
      · rw [e]; exact a3
      · obtain ⟨t1, t2⟩ := j4 v (by omega)
        obtain ⟨s1, s2⟩ := a4 v e
        refine ⟨s1.trans t1, fun x hx => ?_⟩
        have hlt : tdL (tsp ops (sn + v)) (ops (sn + v)) ≤ 2048 := by
          have hT2 : TOK (tsp ops (sn + v)) (sn + v) := tsp_ok (by omega) (fun o ho => hA o (by omega))
          have haq := hA (sn + v) (by omega)
          unfold tdL tdO
          split
          · exact Nat.zero_le _
          · rename_i x hx
            split at hx
            · rename_i hk
              split at hx
              · cases hx
              · rw [Option.some.injEq] at hx
                rw [← hx]
                obtain ⟨_, _, h2, _⟩ := haq
                obtain ⟨q, q1, q2⟩ := h2 hk
                show min _ ((ops (sn + v)).1 2).toNatClampNeg ≤ 2048
                rw [q2, nI_clamp (by omega)]
                omega
            · split at hx
              · split at hx
                · cases hx
                · rename_i i hi
                  rw [Option.some.injEq] at hx
                  rw [← hx]
                  show (tsp ops (sn + v)).nl i ≤ 2048
                  unfold nxN at hi
                  split at hi
                  · rename_i hex
                    have hc := Classical.choose_spec hex
                    rw [Option.some.injEq] at hi
                    rw [hi] at hc
                    have := hT2.n1 i hc.2.1
                    omega
                  · cases hi
              · cases hx
        show M' 35 (2048 * v + x) = _
        rw [s2 x (by omega)]; exact t2 x hx
  · obtain ⟨j1, j2, j3, j4⟩ := hJ
    exact ⟨j1, j2, fun o ho => (hg o ho).trans (j3 o ho), j4⟩
/-- the STRIPES of a FILE -/
def lnS (T : TS) (i : Nat) : Nat := Sm (fun s => if T.vr i s = -1 then 0 else 1) 19
theorem strS_v {lf : Nat → Int32} {b : Nat} : ∀ (k i r : Nat), strS lf b k i r = r + Sm (fun j => if lf (b + (i + j)) = 0 then 0 else 1) k
  | 0, i, r => rfl
  | k + 1, i, r => by
    have e : Sm (fun j => if lf (b + (i + j)) = 0 then 0 else 1) (k + 1) = (if lf (b + i) = 0 then 0 else 1) + Sm (fun j => if lf (b + (i + 1 + j)) = 0 then 0 else 1) k := by
      have e1 := Sm_spl (fun j => if lf (b + (i + j)) = 0 then 0 else 1) 1 k
      have e2 : Sm (fun v => if lf (b + (i + (1 + v))) = 0 then 0 else 1) k = Sm (fun j => if lf (b + (i + 1 + j)) = 0 then 0 else 1) k := Sm_cg (fun j _ => by
        show (if lf (b + (i + (1 + j))) = 0 then 0 else 1) = if lf (b + (i + 1 + j)) = 0 then 0 else 1
        rw [show i + (1 + j) = i + 1 + j by omega])
      have e3 : Sm (fun j => if lf (b + (i + j)) = 0 then 0 else 1) 1 = if lf (b + i) = 0 then 0 else 1 := by
        show 0 + (if lf (b + (i + 0)) = 0 then 0 else 1) = _
        rw [Nat.zero_add, Nat.add_zero]
      rw [Nat.add_comm k 1, e1, e3]
      exact congrArg (_ + ·) e2
    unfold strS
    rw [e]
    by_cases c : lf (b + i) = 0
    · rw [if_pos c, if_pos c, strS_v k (i + 1) r]; omega
    · rw [if_neg c, if_neg c, strS_v k (i + 1) (r + 1)]; omega
theorem stT_v {M : Nat → Nat → Int32} : ∀ c, stT M c = Sm (fun k => strS (M 19) (19 * (M 12 k).toNatClampNeg) 19 0 0) c
  | 0 => rfl
  | c + 1 => by show stT M c + _ = Sm _ c + _; rw [stT_v c]
theorem RFl.str {M : Nat → Nat → Int32} {T : TS} {k c to : Nat} (hT : TOK T k) (h : RFl M T (oL (M 12) c)) (hI : FLI c to (M 12) (M 13) (M 15) (M 16) (M 17)) : stT M c = Sm (lnS T) 512 := by
  have hj : ∀ j, j < c → (M 12 j).toNatClampNeg ∈ oL (M 12) c := fun j hj => oL_mem.mpr ⟨j, hj, rfl⟩
  rw [stT_v]
  refine Sm_bij (jf := fun k => M 16 (M 12 k).toNatClampNeg) (by decide) (fun f hf => ?_) (fun i hi => ?_) (fun f f' i h1 h2 _ e1 e2 => oL_inj hI.2.2.1 h1 h2 (h.2.2.1 _ _ (hj f h1) (hj f' h2) (e1.trans e2.symm)))
  · obtain ⟨_, i, i1, i2, i3⟩ := h.1 _ (hj f hf)
    refine Or.inr ⟨i, i1, i3.1, ?_⟩
    show strS (M 19) (19 * (M 12 f).toNatClampNeg) 19 0 0 = lnS T i
    rw [strS_v, Nat.zero_add]
    refine Sm_cg (fun s hs => ?_)
    show (if M 19 (19 * (M 12 f).toNatClampNeg + (0 + s)) = 0 then 0 else 1) = if T.vr i s = -1 then 0 else 1
    rw [Nat.zero_add]
    have := i3.2.2.2.2.2 s hs
    by_cases c : T.vr i s = -1
    · rw [if_pos c, if_pos (this.mpr c)]
    · rw [if_neg c, if_neg (fun z => c (this.mp z))]
  · cases e : T.ex i with
    | false => exact Or.inl (Sm_z (fun s _ => if_pos ((hT.e2 i e).2 s)))
    | true =>
      obtain ⟨f, f1, f2⟩ := h.2.1 i hi e
      obtain ⟨k, k1, k2⟩ := oL_mem.mp f1
      exact Or.inr ⟨k, k1, by rw [← k2] at f2; exact f2⟩

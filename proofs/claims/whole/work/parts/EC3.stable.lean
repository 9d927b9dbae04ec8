/-! an ITEM says what it said when it was made -/
/-- what one OPERATION does to ITEM (i, p) -/
def chg (T T' : TS) (k i p : Nat) : Prop := (T'.vr i p = nI k ∧ T'.ex i = true) ∨ (T'.vr i p = -1 ∧ (p < 19 → ∀ y, y < 448 → T'.dt i (448 * p + y) = 0)) ∨
  (T'.vr i p = T.vr i p ∧ T'.ex i = T.ex i ∧ (p = 19 → T'.sz i = T.sz i ∧ T'.nl i = T.nl i ∧ (∀ x, T'.nm i x = T.nm i x) ∧ ∀ s, s < 19 → T'.vr i s = T.vr i s) ∧ (p < 19 → ∀ y, y < 448 → T'.dt i (448 * p + y) = T.dt i (448 * p + y)))
def dz (T : TS) : Prop := ∀ i p, p < 19 → T.vr i p = -1 → ∀ y, y < 448 → T.dt i (448 * p + y) = 0
theorem chg_same {T T' : TS} {k i p : Nat} (h1 : T'.ex i = T.ex i) (h2 : T'.sz i = T.sz i) (h3 : T'.nl i = T.nl i) (h4 : ∀ x, T'.nm i x = T.nm i x) (h5 : ∀ p, T'.vr i p = T.vr i p) (h6 : ∀ y, T'.dt i y = T.dt i y) : chg T T' k i p := Or.inr (Or.inr ⟨h5 p, h1, fun _ => ⟨h2, h3, h4, fun s _ => h5 s⟩, fun _ y _ => h6 _⟩)
theorem rcd_o {T : TS} {i o j : Nat} (h : j ≠ i) : ∀ p, (T.rcd i o).vr j p = T.vr j p := fun p => by
  show fup T.vr i _ j p = _
  rw [fup_n h]
theorem rcd_i {T : TS} {i o : Nat} : (T.rcd i o).vr i 19 = nI o ∧ ∀ p, p ≠ 19 → (T.rcd i o).vr i p = T.vr i p := ⟨by show fup T.vr i _ i 19 = _; rw [fup_s, if_pos rfl], fun p hp => by show fup T.vr i _ i p = _; rw [fup_s, if_neg hp]⟩
theorem chg_wrt {T : TS} {k i a l j p : Nat} {tp : Nat → Int32} (hi : T.ex i = true) (hp : p < 20) : chg T (T.wrt i a l k tp) k j p := by
  unfold TS.wrt
  by_cases hl : l = 0
  · rw [if_pos hl]
    by_cases e : j = i
    · subst e
      by_cases e9 : p = 19
      · subst e9
        exact Or.inl ⟨rcd_i.1, hi⟩
      · exact Or.inr (Or.inr ⟨rcd_i.2 p e9, rfl, fun z => absurd z e9, fun _ _ _ => rfl⟩)
    · exact chg_same rfl rfl rfl (fun _ => rfl) (rcd_o e) (fun _ => rfl)
  · rw [if_neg hl]
    generalize hT1 : ((T.siz i (max (T.sz i) (a + l))).ver i (fun p => a / 448 ≤ p ∧ p ≤ (a + l - 1) / 448) (nI k)) = T1
    have t1 : ∀ q, T1.vr i q = if a / 448 ≤ q ∧ q ≤ (a + l - 1) / 448 then nI k else T.vr i q := fun q => by
      rw [← hT1]
      show fup T.vr i _ i q = _
      rw [fup_s]
      rfl
    have t2 : ∀ j, j ≠ i → ∀ q, T1.vr j q = T.vr j q := fun j hj q => by
      rw [← hT1]
      show fup T.vr i _ j q = _
      rw [fup_n hj]
    have te : T1.ex = T.ex := by rw [← hT1]; rfl
    by_cases e : j = i
    · subst e
      by_cases e9 : p = 19
      · subst e9
        exact Or.inl ⟨rcd_i.1, by show T1.ex j = true; rw [te]; exact hi⟩
      · have hv : ((T1.rcd j k).dat j (fun y => if a ≤ y ∧ y < a + l then tp (y - a) else T.dt j y)).vr j p = T1.vr j p := rcd_i.2 p e9
        by_cases c : a / 448 ≤ p ∧ p ≤ (a + l - 1) / 448
        · exact Or.inl ⟨by rw [hv, t1, if_pos c], by show T1.ex j = true; rw [te]; exact hi⟩
        · refine Or.inr (Or.inr ⟨by rw [hv, t1, if_neg c], by show T1.ex j = _; rw [te], fun z => absurd z e9, fun _ y hy => ?_⟩)
          show fup T1.dt j _ j _ = _
          rw [fup_s, if_neg (by omega)]
    · refine chg_same (by show T1.ex j = _; rw [te]) ?_ ?_ (fun x => ?_) (fun q => ?_) (fun y => ?_)
      · show T1.sz j = T.sz j
        rw [← hT1]
        show fup T.sz i _ j = _
        rw [fup_n e]
      · rw [← hT1]; rfl
      · rw [← hT1]; rfl
      · show (T1.rcd i k).vr j q = _
        rw [rcd_o e, t2 j e]
      · show fup T1.dt i _ j y = _
        rw [fup_n e, ← hT1]
        rfl
theorem chg_cut {T : TS} {k K i a j p : Nat} (h : TOK T K) (hK : K ≤ 512) (hz : dz T) (hi : T.ex i = true) (hp : p < 20) : chg T (T.cut i a k) k j p := by
  unfold TS.cut
  generalize hT1 : ((T.dat i (fun y => if y < a then T.dt i y else 0)).ver i (fun p => p < 19 ∧ a ≤ p * 448) (-1)).siz i a = T1
  generalize hT2 : T1.ver i (fun p => p = a / 448 ∧ a < T.sz i ∧ ¬ a % 448 = 0 ∧ ¬ T.vr i p < 0) (nI k) = T2
  have x1 : ∀ q, T1.vr i q = if q < 19 ∧ a ≤ q * 448 then -1 else T.vr i q := fun q => by
    rw [← hT1]
    show fup T.vr i _ i q = _
    rw [fup_s]
    rfl
  have x2 : ∀ q, T2.vr i q = if q = a / 448 ∧ a < T.sz i ∧ ¬ a % 448 = 0 ∧ ¬ T.vr i q < 0 then nI k else T1.vr i q := fun q => by
    rw [← hT2]
    show fup T1.vr i _ i q = _
    rw [fup_s]
  have xd : ∀ y, T2.dt i y = if y < a then T.dt i y else 0 := fun y => by
    rw [← hT2]
    show T1.dt i y = _
    rw [← hT1]
    show fup T.dt i _ i y = _
    rw [fup_s]
  have te : T2.ex = T.ex := by rw [← hT2]; show T1.ex = _; rw [← hT1]; rfl
  by_cases e : j = i
  · subst e
    by_cases e9 : p = 19
    · subst e9
      exact Or.inl ⟨rcd_i.1, by show T2.ex j = true; rw [te]; exact hi⟩
    · have hv : (T2.rcd j k).vr j p = T2.vr j p := rcd_i.2 p e9
      by_cases c : p = a / 448 ∧ a < T.sz j ∧ ¬ a % 448 = 0 ∧ ¬ T.vr j p < 0
      · exact Or.inl ⟨by rw [hv, x2, if_pos c], by show T2.ex j = true; rw [te]; exact hi⟩
      · rw [x2, if_neg c, x1] at hv
        by_cases d : p < 19 ∧ a ≤ p * 448
        · rw [if_pos d] at hv
          refine Or.inr (Or.inl ⟨hv, fun _ y hy => ?_⟩)
          show T2.dt j _ = 0
          rw [xd, if_neg (by omega)]
        · rw [if_neg d] at hv
          by_cases g : T.vr j p = -1
          · refine Or.inr (Or.inl ⟨hv.trans g, fun _ y hy => ?_⟩)
            show T2.dt j _ = 0
            rw [xd]
            have := hz j p (by omega) g y hy
            split
            · exact this
            · rfl
          · refine Or.inr (Or.inr ⟨hv, by show T2.ex j = _; rw [te], fun z => absurd z e9, fun _ y hy => ?_⟩)
            show T2.dt j _ = _
            rw [xd]
            by_cases q : 448 * p + y < a
            · rw [if_pos q]
            · rw [if_neg q]
              have hnl : ¬ T.vr j p < 0 := by
                rcases h.v1 j p with z | ⟨v, hv2, z⟩
                · exact absurd z g
                · rw [z]; exact nI_pos (by omega)
              have hsz : ¬ a < T.sz j := fun q2 => c ⟨by omega, q2, by omega, hnl⟩
              exact (h.d1 j _ (by omega)).symm
  · refine chg_same (by show T2.ex j = _; rw [te]) ?_ ?_ (fun x => ?_) (fun q => ?_) (fun y => ?_)
    · show T2.sz j = T.sz j
      rw [← hT2]
      show T1.sz j = _
      rw [← hT1]
      show fup T.sz i _ j = _
      rw [fup_n e]
    · rw [← hT2]; show T1.nl j = _; rw [← hT1]; rfl
    · rw [← hT2]; show T1.nm j x = _; rw [← hT1]; rfl
    · rw [rcd_o e, ← hT2]
      show fup T1.vr i _ j q = _
      rw [fup_n e, ← hT1]
      show fup T.vr i _ j q = _
      rw [fup_n e]
    · show T2.dt j y = _
      rw [← hT2]
      show T1.dt j y = _
      rw [← hT1]
      show fup T.dt i _ j y = _
      rw [fup_n e]

theorem chg_rem {T : TS} {k i j p : Nat} : chg T (T.rem i) k j p := by
  by_cases e : j = i
  · subst e
    refine Or.inr (Or.inl ⟨?_, fun _ y _ => ?_⟩)
    · show fup T.vr j _ j p = -1
      rw [fup_s]
    · show fup T.dt j _ j _ = 0
      rw [fup_s]
  · refine chg_same ?_ ?_ rfl (fun _ => rfl) (fun q => ?_) (fun y => ?_)
    · show fup T.ex i _ j = _; rw [fup_n e]
    · show fup T.sz i _ j = _; rw [fup_n e]
    · show fup T.vr i _ j q = _; rw [fup_n e]
    · show fup T.dt i _ j y = _; rw [fup_n e]
theorem chg_nam {T : TS} {k i j p l : Nat} {w : Nat → Int32} (hi : T.ex i = true) (hp : p < 20) : chg T ((T.nam i w l).rcd i k) k j p := by
  by_cases e : j = i
  · subst e
    by_cases e9 : p = 19
    · subst e9
      exact Or.inl ⟨rcd_i.1, hi⟩
    · exact Or.inr (Or.inr ⟨rcd_i.2 p e9, rfl, fun z => absurd z e9, fun _ _ _ => rfl⟩)
  · refine chg_same rfl rfl ?_ (fun x => ?_) (rcd_o e) (fun _ => rfl)
    · show fup T.nl i _ j = _; rw [fup_n e]
    · show fup T.nm i _ j x = _; rw [fup_n e]
theorem chg_mk {T : TS} {k K j p l : Nat} {w : Nat → Int32} (h : TOK T K) (hk : K ≤ k) (hp : p < 20) : chg T ((T.mk1 k w l).rcd k k) k j p := by
  have hex : T.ex k = false := by
    cases e : T.ex k with
    | false => rfl
    | true => exact absurd (h.e1 k e) (by omega)
  have hz := h.e2 k hex
  by_cases e : j = k
  · subst e
    by_cases e9 : p = 19
    · subst e9
      exact Or.inl ⟨rcd_i.1, by show fup T.ex j true j = true; rw [fup_s]⟩
    · refine Or.inr (Or.inl ⟨(rcd_i.2 p e9).trans (hz.2 p), fun _ y _ => h.d1 j _ (by rw [hz.1]; omega)⟩)
  · refine chg_same ?_ rfl ?_ (fun x => ?_) (rcd_o e) (fun _ => rfl)
    · show fup T.ex k _ j = _; rw [fup_n e]
    · show fup T.nl k _ j = _; rw [fup_n e]
    · show fup T.nm k _ j x = _; rw [fup_n e]
/-- two one behind the other -/
theorem chg_tr' {T T1 T2 : TS} {k i p : Nat} (h1 : chg T T1 k i p) (h2 : chg T1 T2 k i p) : chg T T2 k i p := by
  rcases h2 with z | z | ⟨a1, a2, a3, a4⟩
  · exact Or.inl z
  · exact Or.inr (Or.inl z)
  · rcases h1 with ⟨z1, z2⟩ | ⟨z1, z2⟩ | ⟨z1, z2, z3, z4⟩
    · exact Or.inl ⟨a1.trans z1, a2.trans z2⟩
    · exact Or.inr (Or.inl ⟨a1.trans z1, fun hp y hy => by rw [a4 hp y hy]; exact z2 hp y hy⟩)
    · refine Or.inr (Or.inr ⟨a1.trans z1, a2.trans z2, fun e => ?_, fun hp y hy => by rw [a4 hp y hy]; exact z4 hp y hy⟩)
      obtain ⟨b1, b2, b3, b4⟩ := a3 e
      obtain ⟨c1, c2, c3, c4⟩ := z3 e
      exact ⟨b1.trans c1, b2.trans c2, fun x => (b3 x).trans (c3 x), fun s hs => (b4 s hs).trans (c4 s hs)⟩
theorem chg_rf {T : TS} {k i p : Nat} : chg T T k i p := chg_same rfl rfl rfl (fun _ => rfl) (fun _ => rfl) (fun _ => rfl)
theorem nam_rcd (T : TS) (i j o l : Nat) (w : Nat → Int32) : ((T.rcd i o).nam j w l) = (T.nam j w l).rcd i o := rfl
/-- an OPERATION -/
theorem chg_stp {T T' : TS} {k a : Nat} {m : Mg} (h : TOK T k) (hk : k < 512) (hz : dz T) (hm : AQ (m.1 0) (m.1 1) (m.1 2) (m.1 3) (m.1 4) (m.1 5)) (e : stp T k m = some (a, T')) {i p : Nat} (hp : p < 20) : chg T T' k i p := by
  have hwr : ∀ a', wrS T k m.2 (m.1 3).toNatClampNeg (m.1 5).toNatClampNeg (fdN T m.2 0 (m.1 3).toNatClampNeg) a' = some (a, T') → chg T T' k i p := fun a' e => by
    cases hf : fdN T m.2 0 (m.1 3).toNatClampNeg with
    | none =>
      rw [hf] at e
      unfold wrS at e
      simp only at e
      obtain ⟨hn, e⟩ := ite_ns e
      rw [Prod.mk.injEq] at e
      rw [← e.2, ← rcd_wrt]
      exact chg_tr' (chg_mk h (Nat.le_refl k) hp) (chg_wrt (by show fup T.ex k true k = true; rw [fup_s]) hp)
    | some j =>
      rw [hf] at e
      unfold wrS at e
      simp only at e
      obtain ⟨hn, e⟩ := ite_ns e
      rw [Prod.mk.injEq] at e
      rw [← e.2]
      exact chg_wrt (fdN_some hf).2.1 hp
  unfold stp at e
  split at e
  · cases hf : fdN T m.2 0 (m.1 3).toNatClampNeg with
    | some j => rw [hf] at e; cases e
    | none =>
      rw [hf] at e
      simp only at e
      obtain ⟨hn, e⟩ := ite_ns e
      rw [Prod.mk.injEq] at e
      rw [← e.2]
      exact chg_mk h (Nat.le_refl k) hp
  split at e
  · exact hwr _ e
  split at e
  · exact hwr _ e
  split at e
  · cases hf : fdN T m.2 0 (m.1 3).toNatClampNeg with
    | none => rw [hf] at e; cases e
    | some j =>
      rw [hf] at e
      simp only at e
      obtain ⟨hn, e⟩ := ite_ns e
      rw [Prod.mk.injEq] at e
      rw [← e.2]
      exact chg_cut h (by omega) hz (fdN_some hf).2.1 hp
  split at e
  · cases hf : fdN T m.2 0 (m.1 3).toNatClampNeg with
    | none => rw [hf] at e; cases e
    | some j =>
      rw [hf] at e
      simp only at e
      rw [Option.some.injEq, Prod.mk.injEq] at e
      rw [← e.2]
      exact chg_rem
  split at e
  · cases hf : fdN T m.2 0 (m.1 3).toNatClampNeg with
    | none => rw [hf] at e; cases e
    | some x =>
      rw [hf] at e
      simp only at e
      have hfi := fdN_some hf
      cases hg : fdN T m.2 50 (m.1 4).toNatClampNeg with
      | none =>
        rw [hg] at e
        simp only at e
        rw [Option.some.injEq, Prod.mk.injEq] at e
        rw [← e.2]
        exact chg_nam hfi.2.1 hp
      | some y =>
        rw [hg] at e
        simp only at e
        by_cases c : y = x
        · rw [if_pos c, Option.some.injEq, Prod.mk.injEq] at e
          rw [← e.2]
          exact chg_rf
        · rw [if_neg c, Option.some.injEq, Prod.mk.injEq] at e
          rw [← e.2]
          exact chg_tr' chg_rem (chg_nam (by show fup T.ex y false x = true; rw [fup_n (fun z => c z.symm)]; exact hfi.2.1) hp)
  split at e
  · cases hf : fdN T m.2 0 (m.1 3).toNatClampNeg with
    | none => rw [hf] at e; cases e
    | some x =>
      rw [hf] at e
      simp only at e
      have hfi := fdN_some hf
      cases hg : fdN T m.2 50 (m.1 4).toNatClampNeg with
      | none => rw [hg] at e; cases e
      | some y =>
        rw [hg] at e
        simp only at e
        have hfj := fdN_some hg
        by_cases c : y = x
        · rw [if_pos c, Option.some.injEq, Prod.mk.injEq] at e
          rw [← e.2]
          exact chg_rf
        · rw [if_neg c, Option.some.injEq, Prod.mk.injEq] at e
          rw [← e.2]
          rw [← nam_rcd]
          refine chg_tr' (T1 := (T.nam x (fun z => m.2 (50 + z)) (m.1 4).toNatClampNeg).rcd x k) (chg_nam hfi.2.1 hp) ?_
          exact chg_nam (T := (T.nam x (fun z => m.2 (50 + z)) (m.1 4).toNatClampNeg).rcd x k) hfj.2.1 hp
  · cases e
/-- the OPERATIONS before k are as they must be -/
def opsOK (ops : Nat → Mg) (k : Nat) : Prop := ∀ o, o < k → AQ ((ops o).1 0) ((ops o).1 1) ((ops o).1 2) ((ops o).1 3) ((ops o).1 4) ((ops o).1 5)
/-- what an ITEM says is what it said when it was made -/
def STB (ops : Nat → Mg) (k : Nat) : Prop :=
  (dz (tsp ops k)) ∧
  (∀ i p v, p < 20 → v < 512 → (tsp ops k).vr i p = nI v → v < k ∧ (∃ x, stp (tsp ops v) v (ops v) = some x) ∧ (tsp ops (v + 1)).vr i p = nI v ∧ (tsp ops (v + 1)).ex i = true ∧ (p = 19 → ∀ x, recW (tsp ops k) i x = recW (tsp ops (v + 1)) i x) ∧ (p < 19 → ∀ y, y < 448 → (tsp ops k).dt i (448 * p + y) = (tsp ops (v + 1)).dt i (448 * p + y)))
theorem STB.z {ops : Nat → Mg} {k : Nat} (h_ : STB ops k) : dz (tsp ops k) := h_.1
theorem STB.s {ops : Nat → Mg} {k : Nat} (h_ : STB ops k) : ∀ i p v, p < 20 → v < 512 → (tsp ops k).vr i p = nI v → v < k ∧ (∃ x, stp (tsp ops v) v (ops v) = some x) ∧ (tsp ops (v + 1)).vr i p = nI v ∧ (tsp ops (v + 1)).ex i = true ∧ (p = 19 → ∀ x, recW (tsp ops k) i x = recW (tsp ops (v + 1)) i x) ∧ (p < 19 → ∀ y, y < 448 → (tsp ops k).dt i (448 * p + y) = (tsp ops (v + 1)).dt i (448 * p + y)) := h_.2
theorem stb_ok {ops : Nat → Mg} : ∀ {k : Nat}, k ≤ 512 → opsOK ops k → STB ops k
  | 0, _, _ => ⟨fun _ _ _ _ _ _ => rfl, fun i p v _ hv e => absurd e (fun y => nIneg (show v < 2 ^ 31 by omega) y.symm)⟩
  | k + 1, hk, ho => by
    have ih := stb_ok (k := k) (by omega) (fun o h => ho o (by omega))
    have hT := tsp_ok (k := k) (by omega) (fun o h => ho o (by omega))
    cases e : stp (tsp ops k) k (ops k) with
    | none =>
      have h2 : tsp ops (k + 1) = tsp ops k := by
        show (match stp (tsp ops k) k (ops k) with | some x => x.2 | none => tsp ops k) = tsp ops k
        rw [e]
      refine ⟨by rw [h2]; exact ih.z, fun i p v hp hv ev => ?_⟩
      rw [h2] at ev ⊢
      obtain ⟨a1, a2⟩ := ih.s i p v hp hv ev
      exact ⟨by omega, a2⟩
    | some x =>
      have h2 : tsp ops (k + 1) = x.2 := by
        show (match stp (tsp ops k) k (ops k) with | some x => x.2 | none => tsp ops k) = x.2
        rw [e]
      have hc : ∀ {i p : Nat}, p < 20 → chg (tsp ops k) (tsp ops (k + 1)) k i p := fun hp => by rw [h2]; exact chg_stp hT (by omega) ih.z (ho k (by omega)) e hp
      refine ⟨fun i p hp ev y hy => ?_, fun i p v hp hv ev => ?_⟩
      · rcases hc (i := i) (show p < 20 by omega) with ⟨z1, _⟩ | ⟨_, z2⟩ | ⟨z1, _, _, z4⟩
        · rw [ev] at z1; exact absurd z1.symm (nIneg (by omega))
        · exact z2 hp y hy
        · rw [z4 hp y hy]
          exact ih.z i p hp (z1.symm.trans ev) y hy
      · rcases hc (i := i) hp with ⟨z1, z2⟩ | ⟨z1, _⟩ | ⟨z1, z2, z3, z4⟩
        · rw [ev] at z1
          have : v = k := nI_inj (by omega) (by omega) z1
          subst this
          exact ⟨by omega, ⟨x, e⟩, ev, z2, fun _ _ => rfl, fun _ _ _ => rfl⟩
        · rw [ev] at z1; exact absurd z1 (nIneg (by omega))
        · obtain ⟨a1, a2, a3, a4, a5, a6⟩ := ih.s i p v hp hv (z1.symm.trans ev)
          refine ⟨by omega, a2, a3, a4, fun e9 x => ?_, fun h9 y hy => by rw [z4 h9 y hy]; exact a6 h9 y hy⟩
          rw [← a5 e9 x]
          obtain ⟨b1, b2, b3, b4⟩ := z3 e9
          unfold recW
          rw [b1, b2]
          by_cases c1 : x = 15
          · rw [if_pos c1, if_pos c1]
          rw [if_neg c1, if_neg c1]
          by_cases c2 : x = 16
          · rw [if_pos c2, if_pos c2]
          rw [if_neg c2, if_neg c2]
          by_cases c3 : 17 ≤ x ∧ x < 67
          · rw [if_pos c3, if_pos c3, b3]
          rw [if_neg c3, if_neg c3]
          by_cases c4 : 67 ≤ x ∧ x < 86
          · rw [if_pos c4, if_pos c4, b4 _ (by omega)]
          · rw [if_neg c4, if_neg c4]

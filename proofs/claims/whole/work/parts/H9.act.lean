/-! the reference's act is that of the FILES by IDS -/
def isNx (T : TS) (w : Nat → Int32) (l i : Nat) : Prop := i < 512 ∧ T.ex i = true ∧ nLt (nby w 0) l (nmP T i) (T.nl i) ∧ ∀ j, j < 512 → T.ex j = true → nLt (nby w 0) l (nmP T j) (T.nl j) → j = i ∨ nLt (nmP T i) (T.nl i) (nmP T j) (T.nl j)
/-- the FILE behind a NAME -/
noncomputable def nxN (T : TS) (w : Nat → Int32) (l : Nat) : Option Nat := @dite (Option Nat) (∃ i, isNx T w l i) (Classical.propDecidable _) (fun h => some (Classical.choose h)) (fun _ => none)
theorem isNx.uq {T : TS} {w : Nat → Int32} {l i j : Nat} (h1 : isNx T w l i) (h2 : isNx T w l j) : i = j := by
  rcases h1.2.2.2 j h2.1 h2.2.1 h2.2.2.1 with e | e
  · exact e.symm
  · rcases h2.2.2.2 i h1.1 h1.2.1 h1.2.2.1 with d | d
    · exact d
    · exact absurd d (fun z => e.as z)
theorem nxN_eq {T : TS} {w : Nat → Int32} {l i : Nat} (h : isNx T w l i) : nxN T w l = some i := by
  unfold nxN
  rw [dif_pos ⟨i, h⟩]
  exact congrArg some ((Classical.choose_spec (⟨i, h⟩ : ∃ i, isNx T w l i)).uq h)
theorem nxN_no {T : TS} {w : Nat → Int32} {l : Nat} (h : ∀ i, i < 512 → T.ex i = true → ¬ nLt (nby w 0) l (nmP T i) (T.nl i)) : nxN T w l = none := by
  unfold nxN
  rw [dif_neg]
  exact fun ⟨i, hi⟩ => h i hi.1 hi.2.1 hi.2.2.1
noncomputable def tnx (T : TS) (o : Nat) (m : Mg) : TS := match stp T o m with | some x => x.2 | none => T
/-- what is told of, beside the ANSWER -/
noncomputable def tdO (T : TS) (m : Mg) : Option (Nat × (Nat → Nat)) := if m.1 0 = 4 then (match fdN T m.2 0 (m.1 3).toNatClampNeg with | none => none | some i => some (min (T.sz i - (m.1 1).toNatClampNeg) (m.1 2).toNatClampNeg, fun x => uN (T.dt i ((m.1 1).toNatClampNeg + x)))) else if m.1 0 = 9 then (match nxN T m.2 (m.1 3).toNatClampNeg with | none => none | some i => some (T.nl i, nmP T i)) else none
noncomputable def tdL (T : TS) (m : Mg) : Nat := match tdO T m with | none => 0 | some x => x.1
noncomputable def tdB (T : TS) (m : Mg) : Nat → Nat := match tdO T m with | none => fun _ => 0 | some x => x.2
noncomputable def erS (T : TS) (m : Mg) : Int32 := if m.1 0 = 0 then (match fdN T m.2 0 (m.1 3).toNatClampNeg with | some _ => -3 | none => -4) else if m.1 0 = 1 ∨ m.1 0 = 2 then -4 else if m.1 0 = 3 then (match fdN T m.2 0 (m.1 3).toNatClampNeg with | none => -2 | some _ => -4) else if m.1 0 = 8 then (match fdN T m.2 0 (m.1 3).toNatClampNeg with | none => -2 | some i => nI (T.sz i)) else -2
/-- the ANSWER -/
noncomputable def anS (T : TS) (o : Nat) (m : Mg) : Int32 := match stp T o m with | some x => nI x.1 | none => (match tdO T m with | some x => nI x.1 | none => erS T m)
/-- an OPERATION as it waits in the reference -/
def OD (M : Nat → Nat → Int32) (w : Nat) (m : Mg) : Prop := M 27 w = m.1 0 ∧ M 28 w = m.1 1 ∧ M 29 w = m.1 2 ∧ M 31 (2 * w + 0) = m.1 3 ∧ M 31 (2 * w + 1) = m.1 4 ∧ (m.1 0 = 1 ∨ m.1 0 = 2 → M 33 w = m.1 5 ∧ ∀ x, x < (m.1 5).toNatClampNeg → rby (M 32) (2048 * w) x = uN (bytA m.2 (400 + x))) ∧ (∀ x, x < (m.1 3).toNatClampNeg → rby (M 30) (400 * w + 200 * 0) x = nby m.2 0 x) ∧ ∀ x, x < (m.1 4).toNatClampNeg → rby (M 30) (400 * w + 200 * 1) x = nby m.2 50 x
/-- what was told of OPERATION w -/
def TDw (M' : Nat → Nat → Int32) (w : Nat) (T : TS) (m : Mg) : Prop := M' 36 w = nI (tdL T m) ∧ ∀ x, x < tdL T m → M' 35 (2048 * w + x) = nI (tdB T m x)
def TDo (M M' : Nat → Nat → Int32) (w : Nat) : Prop := ∀ w', ¬ w' = w → M' 36 w' = M 36 w' ∧ ∀ x, x < 2048 → M' 35 (2048 * w' + x) = M 35 (2048 * w' + x)
theorem td_no {M M' : Nat → Nat → Int32} {w : Nat} {T : TS} {m : Mg} (h : tdO T m = none) (h35 : M' 35 = M 35) (h36 : M' 36 = upd (M 36) w 0) : TDw M' w T m ∧ TDo M M' w := by
  have e : tdL T m = 0 := by unfold tdL; rw [h]
  refine ⟨⟨by rw [h36, pk_us, e]; rfl, fun x hx => by omega⟩, fun w' hw => ⟨by rw [h36, pk_un hw], fun x _ => by rw [h35]⟩⟩
theorem nby_sh (w : Nat → Int32) (p b : Nat) : nby (fun x => w (p + x)) 0 b = nby w p b := by
  unfold nby
  refine congrArg uN (byt_cg ?_ (by omega))
  show w (p + (4 * 0 + b) / 4) = w ((4 * p + b) / 4)
  rw [show p + (4 * 0 + b) / 4 = (4 * p + b) / 4 by omega]
theorem nx_p {ff pf lf og : Nat → Int32} {b n : Nat} : ∀ (k i : Nat), i ≤ nxA ff pf lf b n og k i ∧ nxA ff pf lf b n og k i ≤ i + k ∧ (∀ j, i ≤ j → j < nxA ff pf lf b n og k i → mcF ff pf lf b n (og j).toNatClampNeg ≤ 0) ∧ (nxA ff pf lf b n og k i < i + k → ¬ mcF ff pf lf b n (og (nxA ff pf lf b n og k i)).toNatClampNeg ≤ 0)
  | 0, i => ⟨Nat.le_refl _, Nat.le_refl _, fun j h1 h2 => absurd h2 (by show ¬ j < i; omega), fun h => absurd h (by show ¬ i < i + 0; omega)⟩
  | k + 1, i => by
    unfold nxA
    by_cases c : mcF ff pf lf b n (og i).toNatClampNeg ≤ 0
    · rw [if_pos c]
      obtain ⟨h1, h2, h3, h4⟩ := nx_p (ff := ff) (pf := pf) (lf := lf) (og := og) (b := b) (n := n) k (i + 1)
      refine ⟨by omega, by omega, fun j a1 a2 => ?_, fun z => h4 (by omega)⟩
      by_cases e : j = i
      · rw [e]; exact c
      · exact h3 j (by omega) a2
    · rw [if_neg c]
      exact ⟨Nat.le_refl _, by omega, fun j a1 a2 => by omega, fun _ => c⟩
/-- what holds before an act -/
def ACx (T : TS) (o : Nat) (m : Mg) (w c to n1 n3 t : Nat) (M : Nat → Nat → Int32) : Prop := TOK T o ∧ o < 512 ∧ NZ T ∧ OZ m ∧ OD M w m ∧ w < 12 ∧ M 0 20 = nI c ∧ M 0 21 = nI to ∧ FLI c to (M 12) (M 13) (M 15) (M 16) (M 17) ∧ RFl M T (oL (M 12) c) ∧ (m.1 3).toNatClampNeg = n1 ∧ n1 ≤ 200 ∧ (m.1 4).toNatClampNeg = n3 ∧ n3 ≤ 200 ∧ c = T.cnt ∧ to = T.tot ∧ M 33 w = nI t ∧ t < 2049
theorem ACx.no0 {T : TS} {o w c to n1 n3 t : Nat} {m : Mg} {M : Nat → Nat → Int32} (h : ACx T o m w c to n1 n3 t M) (hn : no0 w n1 c M) : fdN T m.2 0 (m.1 3).toNatClampNeg = none ∧ ∀ i, i < c → ¬ mcF (M 14) (M 30) (M 15) (400 * w + 200 * 0) n1 (M 12 i).toNatClampNeg = 0 := by
  obtain ⟨hT, _, hN, hO, hD, _, _, _, hI, hl, e1, h1, _, _, _⟩ := h
  subst e1
  exact hl.no hI.2.1 (fun i hi => hT.n1 i hi) hN h1 hO.1 hD.2.2.2.2.2.2.1 hn
theorem ACx.no1 {T : TS} {o w c to n1 n3 t : Nat} {m : Mg} {M : Nat → Nat → Int32} (h : ACx T o m w c to n1 n3 t M) (hn : no1 w n3 c M) : fdN T m.2 50 (m.1 4).toNatClampNeg = none ∧ ∀ i, i < c → ¬ mcF (M 14) (M 30) (M 15) (400 * w + 200 * 1) n3 (M 12 i).toNatClampNeg = 0 := by
  obtain ⟨hT, _, hN, hO, hD, _, _, _, hI, hl, _, _, e3, h3, _⟩ := h
  subst e3
  exact hl.no hI.2.1 (fun i hi => hT.n1 i hi) hN h3 hO.2 hD.2.2.2.2.2.2.2 hn
theorem ACx.yes0 {T : TS} {o w c to n1 n3 t f : Nat} {m : Mg} {M : Nat → Nat → Int32} (h : ACx T o m w c to n1 n3 t M) (hf : fd0 w n1 c f M) : f ∈ oL (M 12) c ∧ f < 48 ∧ ∃ i, i < 512 ∧ T.ex i = true ∧ RFe M T f i ∧ fdN T m.2 0 (m.1 3).toNatClampNeg = some i ∧ nEq (nmP T i) (T.nl i) (nby m.2 0) (m.1 3).toNatClampNeg := by
  obtain ⟨hT, _, hN, hO, hD, _, _, _, hI, hl, e1, h1, _, _, _⟩ := h
  subst e1
  exact ⟨hf.2.1, hf.1, hl.yes hT hN h1 hO.1 hD.2.2.2.2.2.2.1 hf.2.1 hf.1 hf.2.2⟩
theorem ACx.yes1 {T : TS} {o w c to n1 n3 t g : Nat} {m : Mg} {M : Nat → Nat → Int32} (h : ACx T o m w c to n1 n3 t M) (hf : fd1 w n3 c g M) : g ∈ oL (M 12) c ∧ g < 48 ∧ ∃ i, i < 512 ∧ T.ex i = true ∧ RFe M T g i ∧ fdN T m.2 50 (m.1 4).toNatClampNeg = some i ∧ nEq (nmP T i) (T.nl i) (nby m.2 50) (m.1 4).toNatClampNeg := by
  obtain ⟨hT, _, hN, hO, hD, _, _, _, hI, hl, _, _, e3, h3, _⟩ := h
  subst e3
  exact ⟨hf.2.1, hf.1, hl.yes hT hN h3 hO.2 hD.2.2.2.2.2.2.2 hf.2.1 hf.1 hf.2.2⟩
/-- what holds behind an act -/
def ACy (T : TS) (o : Nat) (m : Mg) (w : Nat) (M : Nat → Nat → Int32) (y : Int32) (M' : Nat → Nat → Int32) : Prop := RF M' (tnx T o m) ∧ y = anS T o m ∧ TDw M' w T m ∧ TDo M M' w
theorem RF.fl {M' : Nat → Nat → Int32} {T : TS} {c : Nat} (hF : FLM M') (h20 : M' 0 20 = nI c) (hc : c ≤ 48) (h : RFl M' T (oL (M' 12) c)) : RF M' T := by
  obtain ⟨c', to', e1, e2, e3⟩ := hF
  have : c' = c := nI_inj (by have := e3.1; omega) (by omega) (e1.symm.trans h20)
  subst this
  exact ⟨c', to', e1, e2, e3, h⟩
/-- nothing is changed -/
theorem ACx.keep {T : TS} {o w c to n1 n3 t : Nat} {m : Mg} {M M' : Nat → Nat → Int32} {y : Int32} (h : ACx T o m w c to n1 n3 t M) (hM : M' = acN w M) (hF : FLM M') (ht : tnx T o m = T) (hd : tdO T m = none) (hy : y = anS T o m) : ACy T o m w M y M' := by
  obtain ⟨_, _, _, _, _, _, e20, e21, hI, hl, _⟩ := h
  subst hM
  obtain ⟨t1, t2⟩ := td_no (M := M) (M' := acN w M) (w := w) hd rfl rfl
  refine ⟨?_, hy, t1, t2⟩
  rw [ht]
  exact RF.fl hF e20 hI.1 hl
theorem tdO_no {T : TS} {m : Mg} (h4 : ¬ m.1 0 = 4) (h9 : ¬ m.1 0 = 9) : tdO T m = none := by
  unfold tdO
  rw [if_neg h4, if_neg h9]
theorem an_some {T : TS} {o : Nat} {m : Mg} {x : Nat × TS} (h : stp T o m = some x) : anS T o m = nI x.1 ∧ tnx T o m = x.2 := by
  unfold anS tnx
  rw [h]
  exact ⟨rfl, rfl⟩
theorem an_none {T : TS} {o : Nat} {m : Mg} (h : stp T o m = none) (hd : tdO T m = none) : anS T o m = erS T m ∧ tnx T o m = T := by
  unfold anS tnx
  rw [h, hd]
  exact ⟨rfl, rfl⟩
theorem an_told {T : TS} {o : Nat} {m : Mg} {x : Nat × (Nat → Nat)} (h : stp T o m = none) (hd : tdO T m = some x) : anS T o m = nI x.1 ∧ tnx T o m = T ∧ tdL T m = x.1 ∧ tdB T m = x.2 := by
  unfold anS tnx tdL tdB
  rw [h, hd]
  exact ⟨rfl, rfl, rfl, rfl⟩

/-! file, where: the store answers as the reference does -/
/-- the k-th FILE, on both sides -/
def BTH (T : TS) (E M : Nat → Nat → Int32) (k f f' i : Nat) : Prop := f < 48 ∧ f' < 48 ∧ i < 512 ∧ T.ex i = true ∧ E 0 k = nI f ∧ E 59 f = nI i ∧ E 60 f = nI (T.sz i) ∧ E 61 f = nI (T.nl i) ∧ (∀ p, p < 20 → E 64 (f * 20 + p) = T.vr i p) ∧ M 12 k = nI f' ∧ RFe M T f' i
theorem nLj_irr {T : TS} (i : Nat) : ¬ nLj T i i := fun h => nLt.irr h
theorem cat_ref {T : TS} {r : Int32} {o : Nat} {E M : Nat → Nat → Int32} (hT : TOK T o) (hC : CAT T r E) (hF : RF M T) : M 0 20 = nI T.cnt ∧ T.cnt ≤ 48 ∧ ∀ k, k < T.cnt → ∃ f f' i, BTH T E M k f f' i := by
  obtain ⟨c, to, e20, e21, hI, hl⟩ := hF
  obtain ⟨ec, _⟩ := hl.cnt hT hI
  subst ec
  obtain ⟨⟨K, hTK⟩, ⟨X, hX⟩, _⟩ := hC
  have hc := hT.c1
  refine ⟨e20, hc, fun k hk => ?_⟩
  have hj : ∀ j, j < T.cnt → (M 12 j).toNatClampNeg ∈ oL (M 12) T.cnt := fun j hj => oL_mem.mpr ⟨j, hj, rfl⟩
  have hM : ∀ j, j < T.cnt → ∃ i, i < 512 ∧ T.ex i = true ∧ RFe M T (M 12 j).toNatClampNeg i := fun j h => (hl.1 _ (hj j h)).2
  have hid : ∀ j, j < T.cnt → (M 16 (M 12 j).toNatClampNeg).toNatClampNeg < 512 ∧ T.ex (M 16 (M 12 j).toNatClampNeg).toNatClampNeg = true ∧ RFe M T (M 12 j).toNatClampNeg (M 16 (M 12 j).toNatClampNeg).toNatClampNeg := fun j h => by
    obtain ⟨i, i1, i2, i3⟩ := hM j h
    rw [i3.1, nI_clamp (by omega)]
    exact ⟨i1, i2, i3⟩
  have hall : ∀ i, i < 512 → T.ex i = true → ∃ j, j < T.cnt ∧ (M 16 (M 12 j).toNatClampNeg).toNatClampNeg = i := fun i i1 i2 => by
    obtain ⟨f, f1, f2⟩ := hl.2.1 i i1 i2
    obtain ⟨j, j1, j2⟩ := oL_mem.mp f1
    exact ⟨j, j1, by rw [j2, f2, nI_clamp (by omega)]⟩
  -- the store's order has all
  have hinj : ∀ a b, a < T.cnt → b < T.cnt → X a = X b → a = b := fun a b ha hb e => by
    rcases Nat.lt_trichotomy a b with z | z | z
    · exact absurd ((hX a ha).2.2.2 b z hb) (by rw [e]; exact nLj_irr _)
    · exact z
    · exact absurd ((hX b hb).2.2.2 a z ha) (by rw [e]; exact nLj_irr _)
  have hsur : ∀ i, i < 512 → T.ex i = true → ∃ a, a < T.cnt ∧ X a = i := fun i i1 i2 => by
    have hs : Sm (fun a => Sm (fun j => if X a = j then 1 else 0) 512) T.cnt = T.cnt := by
      have h1 : Sm (fun a => Sm (fun j => if X a = j then 1 else 0) 512) T.cnt = Sm (fun _ => 1) T.cnt := Sm_cg (fun a ha => by
        show Sm (fun j => if X a = j then 1 else 0) 512 = 1
        have hz : Sm (fun _ => 0) 512 = 0 := Sm_z (fun _ _ => rfl)
        have := Sm_upd (g := fun _ => 0) (h := fun j => if X a = j then 1 else 0) (a := X a) (n := 512) (hX a ha).1 (fun j _ hne => if_neg (fun z => hne z.symm))
        have this : Sm (fun j => if X a = j then 1 else 0) 512 + 0 = Sm (fun _ => 0) 512 + (if X a = X a then 1 else 0) := this
        rw [hz, if_pos rfl] at this
        omega)
      rw [h1]
      have : ∀ n, Sm (fun _ => 1) n = n := fun n => by
        induction n with
        | zero => rfl
        | succ n ih => show Sm (fun _ => 1) n + 1 = n + 1; rw [ih]
      exact this _
    rw [Sm_swap] at hs
    have hle : ∀ j, j < 512 → Sm (fun a => if X a = j then 1 else 0) T.cnt ≤ (if T.ex j = true then 1 else 0) := fun j hj => by
      by_cases c : ∃ a, a < T.cnt ∧ X a = j
      · obtain ⟨a, a1, a2⟩ := c
        have hz : Sm (fun _ => 0) T.cnt = 0 := Sm_z (fun _ _ => rfl)
        have := Sm_upd (g := fun _ => 0) (h := fun b => if X b = j then 1 else 0) (a := a) (n := T.cnt) a1 (fun b hb hne => if_neg (fun z => hne (hinj b a hb a1 (z.trans a2.symm))))
        have this : Sm (fun b => if X b = j then 1 else 0) T.cnt + 0 = Sm (fun _ => 0) T.cnt + (if X a = j then 1 else 0) := this
        rw [hz, if_pos a2] at this
        show Sm (fun b => if X b = j then 1 else 0) T.cnt ≤ _
        rw [if_pos (by rw [← a2]; exact (hX a a1).2.1)]
        omega
      · rw [Sm_z (fun a ha => if_neg (fun z => c ⟨a, ha, z⟩))]
        exact Nat.zero_le _
    have := Sm_eq hle hs i i1
    rw [if_pos i2] at this
    refine Classical.byContradiction (fun c => ?_)
    rw [Sm_z (fun a ha => if_neg (fun z => c ⟨a, ha, z⟩))] at this
    cases this
  have heq := srt_uq (R := nLj T) nLj_irr (fun x y z h1 h2 => nLt.tr h1 h2) (a := X) (b := fun j => (M 16 (M 12 j).toNatClampNeg).toNatClampNeg) (c := T.cnt) (fun i j hij hj => (hX i (by omega)).2.2.2 j hij hj) (fun i j hij hjc => by
    have hp := (oL_pw (R := kLt M)).mp hl.2.2.2 i j hij hjc
    obtain ⟨a1, a2, a3⟩ := hid i (by omega)
    obtain ⟨b1, b2, b3⟩ := hid j hjc
    have n1 := hT.n1 _ a2
    have n2 := hT.n1 _ b2
    unfold kLt at hp
    rw [a3.2.2.1, b3.2.2.1, nI_clamp (by omega), nI_clamp (by omega)] at hp
    exact hp.cg (fun b hb => (a3.2.2.2.1 b hb).symm) (fun b hb => (b3.2.2.2.1 b hb).symm)) (fun i hi => by
    obtain ⟨j, j1, j2⟩ := hall (X i) (hX i hi).1 (hX i hi).2.1
    exact ⟨j, j1, j2.symm⟩) (fun i hi => by
    obtain ⟨j, j1, j2⟩ := hsur _ (hid i hi).1 (hid i hi).2.1
    exact ⟨j, j1, j2.symm⟩) k hk
  obtain ⟨x1, x2, ⟨f, f1, f2, f3⟩, _⟩ := hX k hk
  obtain ⟨a1, a2, a3, a4⟩ := hTK.at f1 x1 f3
  have hog := hI.2.1 k hk
  refine ⟨f, (M 12 k).toNatClampNeg, X k, f1, hog.2, x1, x2, f2, f3, a1, a2, a4, nI_cl hog.1, ?_⟩
  have := (hid k hk).2.2
  have heq : X k = (M 16 (M 12 k).toNatClampNeg).toNatClampNeg := heq
  rw [← heq] at this
  exact this
theorem BTH.st {T : TS} {E M : Nat → Nat → Int32} {k f f' i o : Nat} (hT : TOK T o) (ho : o ≤ 512) (h : BTH T E M k f f' i) : laidS (E 64) (f * 20) 19 0 0 = lnS T i ∧ strS (M 19) (19 * f') 19 0 0 = lnS T i := by
  obtain ⟨_, _, _, _, _, _, _, _, h9, _, h11⟩ := h
  refine ⟨laid_ln hT ho (fun p hp => h9 p (by omega)), ?_⟩
  rw [strS_v, Nat.zero_add]
  refine Sm_cg (fun s hs => ?_)
  show (if M 19 (19 * f' + (0 + s)) = 0 then 0 else 1) = if T.vr i s = -1 then 0 else 1
  rw [Nat.zero_add]
  have := h11.2.2.2.2.2 s hs
  by_cases c : T.vr i s = -1
  · rw [if_pos c, if_pos (this.mpr c)]
  · rw [if_neg c, if_neg (fun z => c (this.mp z))]
theorem fil_eq {T : TS} {r : Int32} {o : Nat} {E M : Nat → Nat → Int32} {x y : Int32} (ho : o ≤ 512) (h7 : M 0 7 = E 100 10) (hc : ¬ E 100 10 = 0 → TOK T o ∧ CAT T r E ∧ RF M T) : filV E x y = rfiV M x y := by
  unfold filV rfiV
  by_cases c1 : y < 0 ∨ 3 < y
  · rw [if_pos c1, if_pos c1]
  rw [if_neg c1, if_neg c1, h7]
  by_cases c2 : E 100 10 = 0
  · rw [if_pos c2, if_pos c2]
  rw [if_neg c2, if_neg c2]
  obtain ⟨hT, hC, hF⟩ := hc c2
  obtain ⟨e20, hc48, hk⟩ := cat_ref hT hC hF
  rw [hC.2.2.1, e20]
  by_cases c3 : x < 0 ∨ nI T.cnt ≤ x
  · rw [if_pos c3, if_pos c3]
  rw [if_neg c3, if_neg c3]
  obtain ⟨k, hkc, rfl⟩ := natLt (fun z => c3 (Or.inl z)) (show T.cnt < 2 ^ 31 by omega) (Int32.not_le.mp (fun z => c3 (Or.inr z)))
  rw [nI_clamp (by omega)]
  obtain ⟨f, f', i, hB⟩ := hk k hkc
  obtain ⟨s1, s2⟩ := hB.st hT ho
  obtain ⟨b1, b2, b3, b4, b5, b6, b7, b8, b9, b10, b11⟩ := hB
  rw [b5, b10, nI_clamp (by omega), nI_clamp (by omega), b7, b6, b8, b11.1, b11.2.1, b11.2.2.1, s1, s2]
/-! the rows of the ranking -/
theorem row_rk {nn g : Nat} {f : Nat → Int32} (hnn : nn ≤ 6) (h : RwS nn g nn f) : ∀ r v, r < nn → v < nn → f (g * nn + r) = nI v → rkS (nI g) (nI v) nn 0 0 = r := by
  have hb : ∀ i j a b, i < j → j < nn → a < nn → b < nn → f (g * nn + i) = nI a → f (g * nn + j) = nI b → rkS (nI g) (nI a) nn 0 0 + 1 ≤ rkS (nI g) (nI b) nn 0 0 := fun i j a b hij hj ha hb ea eb => by
    have hs := h.2 i j hij hj
    rw [ea, eb] at hs
    have := rkS_mono (y := nI g) (a := a) (b := b) hs nn 0
    rw [if_pos (by omega)] at this
    exact this
  have lo : ∀ r v, r < nn → v < nn → f (g * nn + r) = nI v → r ≤ rkS (nI g) (nI v) nn 0 0 := fun r => by
    induction r with
    | zero => exact fun _ _ _ _ => Nat.zero_le _
    | succ r ih =>
      intro v hr hv e
      obtain ⟨w, w1, w2⟩ := h.1 r (by omega)
      have := ih w (by omega) w1 w2
      have := hb r (r + 1) w v (by omega) hr w1 hv w2 e
      omega
  have hi : ∀ d r v, r + d + 1 = nn → v < nn → f (g * nn + r) = nI v → rkS (nI g) (nI v) nn 0 0 ≤ r := fun d => by
    induction d with
    | zero =>
      intro r v hr hv e
      have := rk_lt (y := nI g) hv
      omega
    | succ d ih =>
      intro r v hr hv e
      obtain ⟨w, w1, w2⟩ := h.1 (r + 1) (by omega)
      have := ih (r + 1) w (by omega) w1 w2
      have := hb r (r + 1) v w (by omega) (by omega) hv w1 e w2
      omega
  intro r v hr hv e
  have := lo r v hr hv e
  have := hi (nn - 1 - r) r v (by omega) hv e
  omega
theorem nof_at {nn base : Nat} {f : Nat → Int32} (hf : Rg nn f) (hnn : nn ≤ 6) {r : Nat} : ∀ (k i b : Nat), b ≤ r → r < b + k → r < 2 ^ 31 → nof f (nI r) (allN nn) k (base + i) (nI b) = f (base + i + (r - b))
  | 0, i, b, h1, h2, _ => by omega
  | k + 1, i, b, h1, h2, h3 => by
    unfold nof
    obtain ⟨v, hv, ev⟩ := hf (base + i)
    rw [ev, if_neg (allN_bit nn (by omega) v hv)]
    by_cases e : b = r
    · subst e
      rw [if_pos rfl, Nat.sub_self, Nat.add_zero, ev]
    · rw [if_neg (fun z => e (nI_inj (by omega) h3 z)), nI_1, Nat.add_assoc, nof_at hf hnn k (i + 1) (b + 1) (by omega) (by omega) h3]
      congr 1
      omega
theorem mof_pos {nn base R : Nat} {f : Nat → Int32} (hf : Rg nn f) (hnn : nn ≤ 6) (hR : R ≤ nn) : ∀ (k i c : Nat) (m : Int32), ∀ r, c ≤ r → r < R → r < c + k → ∀ v, v < nn → f (base + i + (r - c)) = nI v → bt (mof f (nI R) (allN nn) k (base + i) m (nI c)).1 v = true
  | 0, i, c, m, r, h1, h2, h3, v, hv, e => by omega
  | k + 1, i, c, m, r, h1, h2, h3, v, hv, e => by
    unfold mof
    rw [if_neg (fun z => by have := (nI_leI (by omega) (by omega)).mp z; omega)]
    obtain ⟨w, hw, ew⟩ := hf (base + i)
    rw [ew, if_neg (allN_tst nn (by omega) w hw), nI_1]
    by_cases ec : r = c
    · subst ec
      rw [Nat.sub_self, Nat.add_zero, ew] at e
      have : w = v := nI_inj (by omega) (by omega) e
      subst this
      refine mof_bt hf hnn (by omega) k _ _ _ ?_
      rw [bt_set _ (by omega) (by omega), decide_eq_true rfl, Bool.or_true]
    · rw [Nat.add_assoc]
      exact mof_pos hf hnn hR k (i + 1) (c + 1) _ r (by omega) h2 (by omega) v hv (by rw [← e]; congr 1; omega)
/-- the NODES of a GROUP are the first of its row -/
theorem gm_row {f : Nat → Int32} {R nn x r v : Nat} (hf : Rg nn f) (hnn : nn ≤ 6) (hR : R ≤ nn) (hr : r < R) (hv : v < nn) (ev : f (x * nn + r) = nI v) : bt (gm nn (nI R) f (allN nn) x) v = true := by
  unfold gm mof2
  have hm := mof_all hf hnn hR nn (x * nn) 0 0 (by omega) (by omega)
  rw [nI_0] at hm
  rw [if_pos hm]
  have := mof_pos (base := x * nn) hf hnn hR nn 0 0 0 r (Nat.zero_le _) hr (by omega) v hv (by rw [Nat.add_zero, Nat.sub_zero]; exact ev)
  rw [Nat.add_zero, nI_0] at this
  exact this
theorem mof_only {nn base R : Nat} {f : Nat → Int32} (hf : Rg nn f) (hnn : nn ≤ 6) (hR : R ≤ nn) : ∀ (k i c : Nat) (m : Int32) (v : Nat), v < nn → c < 2 ^ 30 → bt (mof f (nI R) (allN nn) k (base + i) m (nI c)).1 v = true → bt m v = true ∨ ∃ r, c ≤ r ∧ r < R ∧ r < c + k ∧ f (base + i + (r - c)) = nI v
  | 0, i, c, m, v, hv, _, h => Or.inl h
  | k + 1, i, c, m, v, hv, hc, h => by
    unfold mof at h
    by_cases z : nI R ≤ nI c
    · rw [if_pos z] at h; exact Or.inl h
    rw [if_neg z] at h
    obtain ⟨w, hw, ew⟩ := hf (base + i)
    rw [ew, if_neg (allN_tst nn (by omega) w hw), nI_1, Nat.add_assoc] at h
    have hcR : c < R := by
      rcases Nat.lt_or_ge c R with y | y
      · exact y
      · exact absurd ((nI_leI (by omega) (by omega)).mpr y) z
    rcases mof_only hf hnn hR k (i + 1) (c + 1) _ v hv (by omega) h with y | ⟨r, r1, r2, r3, r4⟩
    · rw [bt_set _ (by omega) (by omega), Bool.or_eq_true, decide_eq_true_eq] at y
      rcases y with y | y
      · exact Or.inl y
      · exact Or.inr ⟨c, Nat.le_refl _, hcR, by omega, by rw [Nat.sub_self, Nat.add_zero, ew, y]⟩
    · exact Or.inr ⟨r, by omega, r2, by omega, by rw [← r4]; congr 1; omega⟩
/-- and no others -/
theorem gm_rk {nn gg R : Nat} {f : Nat → Int32} (hf : Rg nn f) (hnn : nn ≤ 6) (hR : R ≤ nn) (hR1 : 1 ≤ R) (hA : RwA nn gg f) (hgg : 0 < gg) {x v : Nat} (hx : x < gg) (hv : v < nn) : bt (gm nn (nI R) f (allN nn) x) v = true ↔ rkS (nI x) (nI v) nn 0 0 < R := by
  have hS := hA x hx
  -- where v stands in the row
  have hrow : ∃ r, r < nn ∧ f (x * nn + r) = nI v := by
    have hr := rk_lt (y := nI x) hv
    obtain ⟨w, w1, w2⟩ := hS.1 (rkS (nI x) (nI v) nn 0 0) hr
    have := row_rk hnn hS _ w hr w1 w2
    have : w = v := rk_inj w1 hv (by omega) this
    subst this
    exact ⟨_, hr, w2⟩
  obtain ⟨r, r1, r2⟩ := hrow
  rw [row_rk hnn hS r v r1 hv r2]
  refine ⟨fun hb => ?_, fun hr => gm_row hf hnn hR hr hv r2⟩
  unfold gm mof2 at hb
  have hm := mof_all hf hnn hR nn (x * nn) 0 0 (by omega) (by omega)
  rw [nI_0] at hm
  rw [if_pos hm] at hb
  rcases mof_only (base := x * nn) hf hnn hR nn 0 0 0 v hv (by decide) (by rw [Nat.add_zero, nI_0]; exact hb) with z | ⟨r', q1, q2, q3, q4⟩
  · rw [b_0] at z; cases z
  · rw [Nat.add_zero, Nat.sub_zero] at q4
    have := RwA.rk (C := nI R) hA x r r' hx r1 (by show r' < nn; omega) (r2.trans q4.symm)
    omega

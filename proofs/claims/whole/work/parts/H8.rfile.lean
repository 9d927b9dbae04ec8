/-! the FILES of the reference against those by IDS -/
/-- a NAME's bytes -/
def nmP (T : TS) (i : Nat) : Nat → Nat := nby (T.nm i) 0
/-- zeros behind the NAMES -/
def NZ (T : TS) : Prop := ∀ i, T.ex i = true → nzP (nmP T i) (T.nl i)
def OZ (m : Mg) : Prop := nzP (nby m.2 0) (m.1 3).toNatClampNeg ∧ nzP (nby m.2 50) (m.1 4).toNatClampNeg
theorem nby_w {f g : Nat → Int32} {p q : Nat} (h : ∀ b, b < 200 → nby f p b = nby g q b) : ∀ x, x < 50 → f (p + x) = g (q + x) := fun x hx => by
  refine byt_w (f := f) (g := g) (fun r hr => uN_inj ?_)
  have := h (4 * x + r) (by omega)
  unfold nby at this
  rw [show 4 * (p + x) + r = 4 * p + (4 * x + r) by omega, show 4 * (q + x) + r = 4 * q + (4 * x + r) by omega]
  exact this
theorem nby_cg {f g : Nat → Int32} {p q : Nat} (h : ∀ x, x < 50 → f (p + x) = g (q + x)) : ∀ b, b < 200 → nby f p b = nby g q b := fun b hb => by
  have e : b = 4 * (b / 4) + b % 4 := by omega
  rw [e, nby_4 f p (b / 4) _ (by omega), nby_4 g q (b / 4) _ (by omega), h (b / 4) (by omega)]
theorem isNm_n {T : TS} {w : Nat → Int32} {p l i : Nat} (hl : l ≤ 200) (hT : T.ex i = true → nzP (nmP T i) (T.nl i)) (hw : nzP (nby w p) l) : isNm T w p l i ↔ i < 512 ∧ T.ex i = true ∧ nEq (nmP T i) (T.nl i) (nby w p) l := by
  refine ⟨fun ⟨h1, h2, h3, h4⟩ => ⟨h1, h2, h3, fun j hj => ?_⟩, fun ⟨h1, h2, h3, h4⟩ => ⟨h1, h2, h3, fun x hx => ?_⟩⟩
  · exact nby_cg (p := 0) (fun x hx => by rw [Nat.zero_add]; exact h4 x hx) j (by omega)
  · have := nby_w (f := T.nm i) (g := w) (p := 0) (q := p) (fun b hb => ?_) x hx
    · rw [Nat.zero_add] at this; exact this
    · rcases Nat.lt_or_ge b l with z | z
      · exact h4 b (by omega)
      · rw [hw b z hb]; exact hT h2 b (by omega) hb
/-- a place's NAME in the reference -/
def kLt (M : Nat → Nat → Int32) (f g : Nat) : Prop := nLt (rby (M 14) (200 * f)) (M 15 f).toNatClampNeg (rby (M 14) (200 * g)) (M 15 g).toNatClampNeg
/-- the place f has FILE i -/
def RFe (M : Nat → Nat → Int32) (T : TS) (f i : Nat) : Prop := M 16 f = nI i ∧ M 17 f = nI (T.sz i) ∧ M 15 f = nI (T.nl i) ∧ (∀ x, x < T.nl i → rby (M 14) (200 * f) x = nmP T i x) ∧ (∀ y, y < T.sz i → rby (M 18) (8192 * f) y = uN (T.dt i y)) ∧ ∀ s, s < 19 → (M 19 (19 * f + s) = 0 ↔ T.vr i s = -1)
def RFl (M : Nat → Nat → Int32) (T : TS) (l : List Nat) : Prop :=
  (∀ f, f ∈ l → f < 48 ∧ ∃ i, i < 512 ∧ T.ex i = true ∧ RFe M T f i) ∧ (∀ i, i < 512 → T.ex i = true → ∃ f, f ∈ l ∧ M 16 f = nI i) ∧ (∀ f g, f ∈ l → g ∈ l → M 16 f = M 16 g → f = g) ∧ l.Pairwise (kLt M)
def RF (M : Nat → Nat → Int32) (T : TS) : Prop := ∃ c to, M 0 20 = nI c ∧ M 0 21 = nI to ∧ FLI c to (M 12) (M 13) (M 15) (M 16) (M 17) ∧ RFl M T (oL (M 12) c)
/-- the same place, the same FILE -/
def smP (M M' : Nat → Nat → Int32) (f : Nat) : Prop := M' 16 f = M 16 f ∧ M' 17 f = M 17 f ∧ M' 15 f = M 15 f ∧ (∀ x, x < 200 → M' 14 (200 * f + x) = M 14 (200 * f + x)) ∧ (∀ y, y < 8192 → M' 18 (8192 * f + y) = M 18 (8192 * f + y)) ∧ ∀ s, s < 19 → M' 19 (19 * f + s) = M 19 (19 * f + s)
def smF (T T' : TS) (i : Nat) : Prop := T'.ex i = T.ex i ∧ T'.sz i = T.sz i ∧ T'.nl i = T.nl i ∧ T'.nm i = T.nm i ∧ T'.dt i = T.dt i ∧ ∀ p, p < 19 → T'.vr i p = T.vr i p
theorem smP.rf {M : Nat → Nat → Int32} {f : Nat} : smP M M f := ⟨rfl, rfl, rfl, fun _ _ => rfl, fun _ _ => rfl, fun _ _ => rfl⟩
theorem smF.rf {T : TS} {i : Nat} : smF T T i := ⟨rfl, rfl, rfl, rfl, rfl, fun _ _ => rfl⟩
theorem RFe.sm {M M' : Nat → Nat → Int32} {T T' : TS} {f i : Nat} (hn : T.nl i ≤ 200) (hz : T.sz i ≤ 8192) (h : RFe M T f i) (h1 : smP M M' f) (h2 : smF T T' i) : RFe M' T' f i := by
  obtain ⟨a1, a2, a3, a4, a5, a6⟩ := h
  obtain ⟨b1, b2, b3, b4, b5, b6⟩ := h1
  obtain ⟨c0, c1, c2, c3, c4, c5⟩ := h2
  refine ⟨b1.trans a1, by rw [b2, c1]; exact a2, by rw [b3, c2]; exact a3, fun x hx => ?_, fun y hy => ?_, fun s hs => ?_⟩
  · rw [c2] at hx
    unfold rby nmP
    rw [b4 x (by omega), c3]; exact a4 x hx
  · rw [c1] at hy
    unfold rby
    rw [b5 y (by omega), c4]; exact a5 y hy
  · rw [b6 s hs, c5 s hs]; exact a6 s hs
theorem kLt.sm {M M' : Nat → Nat → Int32} {f g : Nat} (hf : (M 15 f).toNatClampNeg ≤ 200) (hg : (M 15 g).toNatClampNeg ≤ 200) (h : kLt M f g) (h1 : smP M M' f) (h2 : smP M M' g) : kLt M' f g := by
  unfold kLt at h ⊢
  rw [h1.2.2.1, h2.2.2.1]
  refine h.cg (fun j hj => ?_) (fun j hj => ?_)
  · unfold rby; rw [h1.2.2.2.1 j (by omega)]
  · unfold rby; rw [h2.2.2.2.1 j (by omega)]
/-- the FILE of a NAME, in the list -/
theorem RFl.at {M : Nat → Nat → Int32} {T : TS} {l : List Nat} {i : Nat} (h : RFl M T l) (hi : i < 512) (hx : T.ex i = true) : ∃ f, f ∈ l ∧ f < 48 ∧ RFe M T f i := by
  obtain ⟨f, f1, f2⟩ := h.2.1 i hi hx
  obtain ⟨f3, j, j1, j2, j3⟩ := h.1 f f1
  have : j = i := nI_inj (by omega) (by omega) (j3.1.symm.trans f2)
  subst this
  exact ⟨f, f1, f3, j3⟩
/-- sorted in -/
theorem inA_p {ff pf lf : Nat → Int32} {b n : Nat} : ∀ (a : Nat) (og : Nat → Int32), (∀ j, inA ff pf lf b n a og ≤ j → j < a → ¬ mcF ff pf lf b n (og j).toNatClampNeg ≤ 0) ∧ (inA ff pf lf b n a og = 0 ∨ mcF ff pf lf b n (og (inA ff pf lf b n a og - 1)).toNatClampNeg ≤ 0)
  | 0, og => ⟨fun j _ h => absurd h (by omega), Or.inl rfl⟩
  | a + 1, og => by
    unfold inA
    by_cases c : mcF ff pf lf b n (og a).toNatClampNeg ≤ 0
    · rw [if_pos c]
      exact ⟨fun j h1 h2 => by omega, Or.inr c⟩
    · rw [if_neg c]
      obtain ⟨h1, h2⟩ := inA_p (ff := ff) (pf := pf) (lf := lf) (b := b) (n := n) a (upd og (a + 1) (og a))
      have hle := inA_le ff pf lf b n a (upd og (a + 1) (og a))
      refine ⟨fun j z1 z2 => ?_, ?_⟩
      · by_cases e : j = a
        · rw [e]; exact c
        · have := h1 j z1 (by omega)
          rw [pk_un (by omega)] at this
          exact this
      · rcases h2 with z | z
        · exact Or.inl z
        · right
          rw [pk_un (by omega)] at z
          exact z
theorem oL_pw {og : Nat → Int32} {c : Nat} {R : Nat → Nat → Prop} : (oL og c).Pairwise R ↔ ∀ i j, i < j → j < c → R (og i).toNatClampNeg (og j).toNatClampNeg := by
  unfold oL
  rw [List.pairwise_map, List.pairwise_iff_getElem]
  refine ⟨fun h i j hij hj => ?_, fun h i j hi hj hij => ?_⟩
  · have := h i j (by rw [List.length_range]; omega) (by rw [List.length_range]; omega) hij
    rw [List.getElem_range, List.getElem_range] at this
    exact this
  · rw [List.getElem_range, List.getElem_range]
    exact h i j hij (by rw [List.length_range] at hj; exact hj)
/-- the same NAME at a place -/
def nmS (M M' : Nat → Nat → Int32) (f : Nat) : Prop := M' 15 f = M 15 f ∧ ∀ x, x < 200 → M' 14 (200 * f + x) = M 14 (200 * f + x)
theorem kLt.nm {M M' : Nat → Nat → Int32} {f g : Nat} (hf : (M 15 f).toNatClampNeg ≤ 200) (hg : (M 15 g).toNatClampNeg ≤ 200) (h : kLt M f g) (h1 : nmS M M' f) (h2 : nmS M M' g) : kLt M' f g := by
  unfold kLt at h ⊢
  rw [h1.1, h2.1]
  refine h.cg (fun j hj => ?_) (fun j hj => ?_)
  · unfold rby; rw [h1.2 j (by omega)]
  · unfold rby; rw [h2.2 j (by omega)]
theorem en_at {ff pf lf : Nat → Int32} {b n c f : Nat} {og : Nat → Int32} (hf : f < 48) {q : Nat} (hq : q = inA ff pf lf b n c og) : (∀ j, j < q → enF ff pf lf b n c og f j = og j) ∧ (enF ff pf lf b n c og f q).toNatClampNeg = f ∧ ∀ j, q < j → j ≤ c → enF ff pf lf b n c og f j = og (j - 1) := by
  unfold enF
  rw [← hq]
  refine ⟨fun j hj => ?_, ?_, fun j h1 h2 => ?_⟩
  · rw [pk_un (by omega), in_pt, ← hq, if_neg (by omega)]
  · rw [pk_us, nI_clamp (by omega)]
  · rw [pk_un (by omega), in_pt, ← hq, if_pos ⟨h1, h2⟩]
theorem srt_en {M M' : Nat → Nat → Int32} {pf : Nat → Int32} {c f b n : Nat} {og : Nat → Int32} (hf : f < 48) (hn : n ≤ 200) (hl : ∀ i, i < c → ∃ k, k ≤ 200 ∧ M 15 (og i).toNatClampNeg = nI k)
    (hs : ∀ i j, i < j → j < c → kLt M (og i).toNatClampNeg (og j).toNatClampNeg) (hsm : ∀ i, i < c → nmS M M' (og i).toNatClampNeg) (h15 : M' 15 f = nI n) (h14 : ∀ x, x < n → rby (M' 14) (200 * f) x = rby pf b x)
    (hne : ∀ i, i < c → ¬ mcF (M 14) pf (M 15) b n (og i).toNatClampNeg = 0) :
    ∀ i j, i < j → j < c + 1 → kLt M' (enF (M 14) pf (M 15) b n c og f i).toNatClampNeg (enF (M 14) pf (M 15) b n c og f j).toNatClampNeg := by
  obtain ⟨q, hq⟩ : ∃ q, q = inA (M 14) pf (M 15) b n c og := ⟨_, rfl⟩
  have hqc : q ≤ c := by rw [hq]; exact inA_le _ _ _ _ _ _ _
  obtain ⟨p1, p2⟩ := inA_p (ff := M 14) (pf := pf) (lf := M 15) (b := b) (n := n) c og
  rw [← hq] at p1 p2
  obtain ⟨e1, e2, e3⟩ := en_at (ff := M 14) (pf := pf) (lf := M 15) (b := b) (n := n) (c := c) (og := og) hf hq
  have hlen : ∀ i, i < c → (M 15 (og i).toNatClampNeg).toNatClampNeg ≤ 200 := fun i hi => by
    obtain ⟨k, k1, k2⟩ := hl i hi
    rw [k2, nI_clamp (by omega)]; exact k1
  have hk : ∀ i j, i < j → j < c → kLt M' (og i).toNatClampNeg (og j).toNatClampNeg := fun i j hij hj => (hs i j hij hj).nm (hlen i (by omega)) (hlen j hj) (hsm i (by omega)) (hsm j hj)
  -- before the new one
  have hb1 : ∀ i, i < c → mcF (M 14) pf (M 15) b n (og i).toNatClampNeg ≤ 0 → kLt M' (og i).toNatClampNeg f := fun i hi hm => by
    obtain ⟨k, k1, k2⟩ := hl i hi
    rcases mcF_n (ff := M 14) (pf := pf) (b := b) hn k1 k2 with ⟨_, z⟩ | ⟨z, _⟩ | ⟨z, _⟩
    · unfold kLt
      rw [(hsm i hi).1, k2, nI_clamp (by omega), h15, nI_clamp (by omega)]
      exact z.cg (fun j hj => by unfold rby; rw [(hsm i hi).2 j (by omega)]) (fun j hj => h14 j hj)
    · exact absurd z (hne i hi)
    · exact absurd hm (Int32.not_le.mpr z)
  have hb2 : ∀ i, i < c → ¬ mcF (M 14) pf (M 15) b n (og i).toNatClampNeg ≤ 0 → kLt M' f (og i).toNatClampNeg := fun i hi hm => by
    obtain ⟨k, k1, k2⟩ := hl i hi
    rcases mcF_n (ff := M 14) (pf := pf) (b := b) hn k1 k2 with ⟨z, _⟩ | ⟨z, _⟩ | ⟨_, z⟩
    · exact absurd (Int32.le_of_lt z) hm
    · exact absurd z (hne i hi)
    · unfold kLt
      rw [(hsm i hi).1, k2, nI_clamp (by omega), h15, nI_clamp (by omega)]
      exact z.cg (fun j hj => h14 j hj) (fun j hj => by unfold rby; rw [(hsm i hi).2 j (by omega)])
  have hlow : ∀ i, i < q → kLt M' (og i).toNatClampNeg f := fun i hi => by
    rcases p2 with z | z
    · omega
    · have hl1 := hb1 (q - 1) (by omega) z
      by_cases e : i = q - 1
      · rw [e]; exact hl1
      · exact nLt.tr (hk i (q - 1) (by omega) (by omega)) hl1
  have hhigh : ∀ i, q ≤ i → i < c → kLt M' f (og i).toNatClampNeg := fun i h1 h2 => hb2 i h2 (p1 i h1 h2)
  intro i j hij hj
  rcases Nat.lt_or_ge j q with a | a
  · rw [e1 i (by omega), e1 j a]; exact hk i j hij (by omega)
  · rcases Nat.lt_or_ge q j with d | d
    · rw [e3 j d (by omega)]
      rcases Nat.lt_or_ge i q with x | x
      · rw [e1 i x]; exact hk i (j - 1) (by omega) (by omega)
      · rcases Nat.lt_or_ge q i with y | y
        · rw [e3 i y (by omega)]; exact hk (i - 1) (j - 1) (by omega) (by omega)
        · have : i = q := by omega
          rw [this, e2]; exact hhigh (j - 1) (by omega) (by omega)
    · have : j = q := by omega
      rw [this, e2, e1 i (by omega)]; exact hlow i (by omega)
/-- what find finds -/
theorem mfnd_no {ff pf lf og : Nat → Int32} {b n : Nat} : ∀ (k i : Nat), mfnd ff pf lf og b n k i = -1 → (∀ j, i ≤ j → j < i + k → ¬ og j < 0) → ∀ j, i ≤ j → j < i + k → ¬ mcF ff pf lf b n (og j).toNatClampNeg = 0
  | 0, i, _, _, j, h1, h2 => by omega
  | k + 1, i, h, hn, j, h1, h2 => by
    unfold mfnd at h
    by_cases c : mcF ff pf lf b n (og i).toNatClampNeg = 0
    · rw [if_pos c] at h
      exact absurd (by rw [h]; decide) (hn i (by omega) (by omega))
    · rw [if_neg c] at h
      by_cases e : j = i
      · rw [e]; exact c
      · exact mfnd_no k (i + 1) h (fun j a1 a2 => hn j (by omega) (by omega)) j (by omega) (by omega)
/-- the reference's find is that of the NAMES -/
theorem RFl.no {M : Nat → Nat → Int32} {T : TS} {w : Nat → Int32} {c p l b : Nat} (h : RFl M T (oL (M 12) c)) (hog : ogB c (M 12)) (hnl : ∀ i, T.ex i = true → T.nl i ≤ 200) (hN : NZ T) (hl : l ≤ 200) (hw : nzP (nby w p) l) (hb : ∀ x, x < l → rby (M 30) b x = nby w p x) (hf : mfnd (M 14) (M 30) (M 15) (M 12) b l c 0 = -1) :
    fdN T w p l = none ∧ ∀ i, i < c → ¬ mcF (M 14) (M 30) (M 15) b l (M 12 i).toNatClampNeg = 0 := by
  have hne := mfnd_no c 0 hf (fun j _ hj => (hog j (by omega)).1)
  refine ⟨?_, fun i hi => hne i (Nat.zero_le _) (by omega)⟩
  cases e : fdN T w p l with
  | none => rfl
  | some i =>
    have hi := fdN_some e
    rw [isNm_n hl (fun z => hN i z) hw] at hi
    obtain ⟨i1, i2, i3⟩ := hi
    obtain ⟨f, f1, f2, f3⟩ := h.at i1 i2
    obtain ⟨k, k1, k2⟩ := oL_mem.mp f1
    have hk := hne k (Nat.zero_le _) (by omega)
    rw [k2] at hk
    have hnl' := hnl i i2
    have hq : nEq (rby (M 14) (200 * f)) (T.nl i) (rby (M 30) b) l := ⟨i3.1, fun j hj => by rw [f3.2.2.2.1 j hj, i3.2 j hj]; exact (hb j (by have := i3.1; omega)).symm⟩
    rcases mcF_n (ff := M 14) (pf := M 30) (b := b) hl hnl' f3.2.2.1 with ⟨_, z⟩ | ⟨z, _⟩ | ⟨_, z⟩
    · exact absurd hq (fun y => z.ne y)
    · exact absurd z hk
    · exact absurd hq.sy (fun y => z.ne y)
theorem RFl.yes {M : Nat → Nat → Int32} {T : TS} {w : Nat → Int32} {k c p l b f : Nat} (hT : TOK T k) (h : RFl M T (oL (M 12) c)) (hN : NZ T) (hl : l ≤ 200) (hw : nzP (nby w p) l) (hb : ∀ x, x < l → rby (M 30) b x = nby w p x) (hm : f ∈ oL (M 12) c) (hf8 : f < 48) (hf : mfnd (M 14) (M 30) (M 15) (M 12) b l c 0 = nI f) :
    ∃ i, i < 512 ∧ T.ex i = true ∧ RFe M T f i ∧ fdN T w p l = some i ∧ nEq (nmP T i) (T.nl i) (nby w p) l := by
  obtain ⟨_, i, i1, i2, i3⟩ := h.1 f hm
  refine ⟨i, i1, i2, i3, ?_⟩
  have hnl' := hT.n1 i i2
  rcases mfnd_c (ff := M 14) (pf := M 30) (lf := M 15) (og := M 12) (b := b) (n := l) c 0 with z | ⟨j, _, _, z, hc⟩
  · rw [hf] at z; exact absurd z (nIneg (by omega))
  · rw [hf] at z
    rw [← z, nI_clamp (by omega)] at hc
    have hq : nEq (nmP T i) (T.nl i) (nby w p) l := by
      rcases mcF_n (ff := M 14) (pf := M 30) (b := b) hl hnl' i3.2.2.1 with ⟨y, _⟩ | ⟨_, y⟩ | ⟨y, _⟩
      · rw [hc] at y; exact absurd y Int32.lt_irrefl
      · exact ⟨y.1, fun j hj => by rw [← i3.2.2.2.1 j hj, y.2 j hj]; exact hb j (by have := y.1; omega)⟩
      · rw [hc] at y; exact absurd y Int32.lt_irrefl
    exact ⟨fdN_eq hT ((isNm_n hl (fun z => hN i z) hw).mpr ⟨i1, i2, hq⟩), hq⟩
theorem oL_sum {og : Nat → Int32} {g : Nat → Nat} : ∀ c, ((oL og c).map g).sum = Sm (fun k => g (og k).toNatClampNeg) c
  | 0 => rfl
  | c + 1 => by
    rw [oL_succ, List.map_append, List.sum_append, oL_sum c]
    show _ + (g (og c).toNatClampNeg + 0) = Sm (fun k => g (og k).toNatClampNeg) c + g (og c).toNatClampNeg
    rw [Nat.add_zero]
theorem oL_inj {og : Nat → Int32} {c a b : Nat} (h : (oL og c).Nodup) (ha : a < c) (hb : b < c) (e : (og a).toNatClampNeg = (og b).toNatClampNeg) : a = b := by
  have h : (oL og c).Pairwise (fun x y => x ≠ y) := h
  rw [oL_pw] at h
  rcases Nat.lt_or_ge a b with z | z
  · exact absurd e (h a b z hb)
  · rcases Nat.lt_or_ge b a with y | y
    · exact absurd e.symm (h b a y ha)
    · omega
/-- how many, how many bytes -/
theorem RFl.cnt {M : Nat → Nat → Int32} {T : TS} {k c to : Nat} (hT : TOK T k) (h : RFl M T (oL (M 12) c)) (hI : FLI c to (M 12) (M 13) (M 15) (M 16) (M 17)) : c = T.cnt ∧ to = T.tot := by
  have hj : ∀ j, j < c → (M 12 j).toNatClampNeg ∈ oL (M 12) c := fun j hj => oL_mem.mpr ⟨j, hj, rfl⟩
  have h3 : ∀ f f' i, f < c → f' < c → i < 512 → M 16 (M 12 f).toNatClampNeg = nI i → M 16 (M 12 f').toNatClampNeg = nI i → f = f' := fun f f' i h1 h2 _ e1 e2 => oL_inj hI.2.2.1 h1 h2 (h.2.2.1 _ _ (hj f h1) (hj f' h2) (e1.trans e2.symm))
  constructor
  · have := Sm_bij (g := fun _ => 1) (h := fun i => if T.ex i = true then 1 else 0) (N := c) (M := 512) (jf := fun k => M 16 (M 12 k).toNatClampNeg) (by decide) (fun f hf => by
      obtain ⟨_, i, i1, i2, i3⟩ := h.1 _ (hj f hf)
      exact Or.inr ⟨i, i1, i3.1, (if_pos i2).symm⟩) (fun i hi => by
      cases e : T.ex i with
      | false => exact Or.inl (if_neg (by decide))
      | true =>
        obtain ⟨f, f1, f2⟩ := h.2.1 i hi e
        obtain ⟨k, k1, k2⟩ := oL_mem.mp f1
        exact Or.inr ⟨k, k1, by rw [← k2] at f2; exact f2⟩) h3
    rw [Sm_c1] at this
    exact this
  · have := Sm_bij (g := fun k => (M 17 (M 12 k).toNatClampNeg).toNatClampNeg) (h := T.sz) (N := c) (M := 512) (jf := fun k => M 16 (M 12 k).toNatClampNeg) (by decide) (fun f hf => by
      obtain ⟨_, i, i1, i2, i3⟩ := h.1 _ (hj f hf)
      refine Or.inr ⟨i, i1, i3.1, ?_⟩
      show (M 17 (M 12 f).toNatClampNeg).toNatClampNeg = T.sz i
      rw [i3.2.1, nI_clamp (by have := hT.z1 i; omega)]) (fun i hi => by
      cases e : T.ex i with
      | false => exact Or.inl (hT.e2 i e).1
      | true =>
        obtain ⟨f, f1, f2⟩ := h.2.1 i hi e
        obtain ⟨k, k1, k2⟩ := oL_mem.mp f1
        exact Or.inr ⟨k, k1, by rw [← k2] at f2; exact f2⟩) h3
    rw [hI.2.2.2.2.2.2.2.1, oL_sum]
    exact this

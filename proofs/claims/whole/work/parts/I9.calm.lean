/-! DISKS where all is CALM; sorting; seeking -/
theorem clm_slot {B : (Nat → Int32) → Prop} {D : Nat → Nat → Int32} (h : DUD B D) (h0 : D 1 4 = 0) {s : Nat} (hs : s < 280) : (D 6 s = -1 ∧ ¬ whB (D 2) s ∧ D 5 s = -1) ∨ (¬ D 6 s = -1 ∧ whB (D 2) s ∧ D 2 (s * 128 + 1) = D 6 s ∧ D 5 s = -1 ∧ B (fun x => D 2 (s * 128 + x))) := by
  obtain ⟨c, c1, c2, c3, c4, c5, c6, c7, c8⟩ := h
  have c0 : c = 0 := nI_inj (by omega) (by decide) (by rw [← c2, h0]; rfl)
  subst c0
  have how : D 5 s = -1 := by
    rcases c4 s hs with q | ⟨j, q, _⟩
    · exact q
    · exact absurd q (Nat.not_lt_zero _)
  rcases c5 s hs how with ⟨a, b⟩ | ⟨a, b, d⟩
  · exact Or.inl ⟨a, b, how⟩
  · exact Or.inr ⟨a, b, d, how, c6 s hs b⟩
/-- a COPY stands in a slot -/
def Cps (ff : Nat → Int32) (s k : Nat) : Prop := s < 280 ∧ whB ff s ∧ ff (s * 128 + 1) = nI k
theorem clm_stb {B : (Nat → Int32) → Prop} {D : Nat → Nat → Int32} (h : DUD B D) (h0 : D 1 4 = 0) {k : Nat} (hk : k < 2 ^ 31) : stb D (nI k) ↔ ∃ s, Cps (D 2) s k := by
  refine ⟨fun ⟨s, s1, s2, s3⟩ => ?_, fun ⟨s, s1, s2, s3⟩ => ?_⟩
  · rcases clm_slot h h0 s1 with ⟨a, _⟩ | ⟨_, b, d, _⟩
    · rw [a] at s2; exact absurd s2.symm (nIneg hk)
    · exact ⟨s, s1, b, d.trans s2⟩
  · rcases clm_slot h h0 s1 with ⟨_, b, _⟩ | ⟨_, _, d, w, _⟩
    · exact absurd s2 b
    · exact ⟨s, s1, d.symm.trans s3, w⟩
theorem clm_uq {B : (Nat → Int32) → Prop} {D : Nat → Nat → Int32} (h : DUD B D) (h0 : D 1 4 = 0) {s t k : Nat} (h1 : Cps (D 2) s k) (h2 : Cps (D 2) t k) : s = t := by
  obtain ⟨c, c1, c2, c3, c4, c5, c6, c7, c8⟩ := id h
  rcases clm_slot h h0 h1.1 with ⟨_, b, _⟩ | ⟨a, _, d, _⟩
  · exact absurd h1.2.1 b
  · rcases clm_slot h h0 h2.1 with ⟨_, b, _⟩ | ⟨_, _, d2, _⟩
    · exact absurd h2.2.1 b
    · exact c8 s t h1.1 h2.1 (by rw [← d, ← d2, h1.2.2, h2.2.2]) a
/-- seek -/
def seekF (ff : Nat → Int32) (t : Int32) : Int32 := fst1 (fun i_1 => decide (ff (i_1 * 128 + 1) = t ∧ ¬ fstB (ff (i_1 * 128)) = 0 ∧ fstB (ff (i_1 * 128)) = lstB (ff (i_1 * 128 + 127)))) 280 0
theorem seek_yes {B : (Nat → Int32) → Prop} {D : Nat → Nat → Int32} (h : DUD B D) (h0 : D 1 4 = 0) {s k : Nat} (h1 : Cps (D 2) s k) : seekF (D 2) (nI k) = nI s := by
  unfold seekF
  rcases fst1_spec (fun i_1 => decide (D 2 (i_1 * 128 + 1) = nI k ∧ ¬ fstB (D 2 (i_1 * 128)) = 0 ∧ fstB (D 2 (i_1 * 128)) = lstB (D 2 (i_1 * 128 + 127)))) 280 0 with ⟨j, _, a2, a3, _, a5⟩ | ⟨a1, _⟩
  · have a3 := of_decide_eq_true a3
    have : j = s := clm_uq h h0 ⟨by omega, ⟨a3.2.1, a3.2.2⟩, a3.1⟩ h1
    rw [← this]; exact a5
  · have := a1 s (Nat.zero_le _) (by have := h1.1; omega)
    rw [decide_eq_false_iff_not] at this
    exact absurd ⟨h1.2.2, h1.2.1.1, h1.2.1.2⟩ this
theorem skR_one {ff : Nat → Int32} {s : Nat} (hs : ∃ t, t < 2 ^ 31 ∧ ff (s * 128 + 1) = nI t ∧ t / 10240 = 512) (hw : whB ff s) : ∀ (k i : Nat) (bv : Int32), (∀ j, i ≤ j → j < i + k → whB ff j → ∀ t, t < 2 ^ 31 → ff (j * 128 + 1) = nI t → t / 10240 = 512 → j = s) → (bv = -1 ∧ i ≤ s ∧ s < i + k) ∨ (bv = nI s ∧ s < i) → skR ff k i bv = nI s
  | 0, i, bv, _, hb => by
    rcases hb with ⟨_, h1, h2⟩ | ⟨h1, _⟩
    · omega
    · exact h1
  | k + 1, i, bv, ho, hb => by
    have ho' : ∀ j, i + 1 ≤ j → j < i + 1 + k → whB ff j → ∀ t, t < 2 ^ 31 → ff (j * 128 + 1) = nI t → t / 10240 = 512 → j = s := fun j h1 h2 => ho j (by omega) (by omega)
    unfold skR
    by_cases e : i = s
    · subst e
      obtain ⟨t, t1, t2, t3⟩ := hs
      have hr : ¬ rtB (ff (i * 128 + 1)) = 0 := by
        rcases rtB_or (ff (i * 128 + 1)) with ⟨_, r1⟩ | ⟨r0, _⟩
        · exact absurd t3 (r1 t t1 t2)
        · rw [r0]; decide
      have hw2 : ¬ fstB (ff (i * 128)) = 0 ∧ fstB (ff (i * 128)) = lstB (ff (i * 128 + 127)) := hw
      rw [if_neg hr, if_pos hw2]
      rcases hb with ⟨h1, h2, h3⟩ | ⟨_, h2⟩
      · rw [h1, if_pos (by decide)]
        exact skR_one ⟨t, t1, t2, t3⟩ hw k (i + 1) (nI i) ho' (Or.inr ⟨rfl, by omega⟩)
      · omega
    · have hb' : (bv = -1 ∧ i + 1 ≤ s ∧ s < i + 1 + k) ∨ (bv = nI s ∧ s < i + 1) := by
        rcases hb with ⟨h1, h2, h3⟩ | ⟨h1, h2⟩
        · exact Or.inl ⟨h1, by omega, by omega⟩
        · exact Or.inr ⟨h1, by omega⟩
      by_cases c1 : rtB (ff (i * 128 + 1)) = 0
      · rw [if_pos c1]
        exact skR_one hs hw k (i + 1) bv ho' hb'
      · rw [if_neg c1]
        by_cases c2 : ¬ fstB (ff (i * 128)) = 0 ∧ fstB (ff (i * 128)) = lstB (ff (i * 128 + 127))
        · exfalso
          rcases rtB_or (ff (i * 128 + 1)) with ⟨r0, _⟩ | ⟨_, t, t1, t2, t3⟩
          · exact c1 r0
          · exact e (ho i (Nat.le_refl _) (by omega) c2 t t1 t2 t3)
        · rw [if_neg c2]
          exact skR_one hs hw k (i + 1) bv ho' hb'
theorem skR_no {ff : Nat → Int32} : ∀ (k i : Nat), (∀ j, i ≤ j → j < i + k → whB ff j → ∀ t, t < 2 ^ 31 → ff (j * 128 + 1) = nI t → ¬ t / 10240 = 512) → skR ff k i (-1) = -1
  | 0, i, _ => rfl
  | k + 1, i, ho => by
    have ih := skR_no k (i + 1) (fun j h1 h2 => ho j (by omega) (by omega))
    unfold skR
    by_cases c1 : rtB (ff (i * 128 + 1)) = 0
    · rw [if_pos c1]; exact ih
    · rw [if_neg c1]
      by_cases c2 : ¬ fstB (ff (i * 128)) = 0 ∧ fstB (ff (i * 128)) = lstB (ff (i * 128 + 127))
      · exfalso
        rcases rtB_or (ff (i * 128 + 1)) with ⟨r0, _⟩ | ⟨_, t, t1, t2, t3⟩
        · exact c1 r0
        · exact ho i (Nat.le_refl _) (by omega) c2 t t1 t2 t3
      · rw [if_neg c2]; exact ih
/-! sortIn -/
theorem srF_p {mf nf : Nat → Int32} {fi : Nat} : ∀ (k : Nat) (og : Nat → Int32), ∃ q, q ≤ k ∧ (∀ j, j < q → srF mf nf fi k og j = og j) ∧ srF mf nf fi k og q = nI fi ∧ (∀ j, q < j → j ≤ k → srF mf nf fi k og j = og (j - 1)) ∧ (q = 0 ∨ 0 ≤ nmC mf nf fi (og (q - 1)).toNatClampNeg) ∧ ∀ j, q ≤ j → j < k → ¬ 0 ≤ nmC mf nf fi (og j).toNatClampNeg
  | 0, og => ⟨0, Nat.le_refl _, fun j h => absurd h (Nat.not_lt_zero _), pk_us, fun j h1 h2 => by omega, Or.inl rfl, fun j h1 h2 => by omega⟩
  | k + 1, og => by
    unfold srF
    by_cases c : 0 ≤ nmC mf nf fi (og k).toNatClampNeg
    · rw [if_pos c]
      exact ⟨k + 1, Nat.le_refl _, fun j h => pk_un (by omega), pk_us, fun j h1 h2 => by omega, Or.inr c, fun j h1 h2 => by omega⟩
    · rw [if_neg c]
      have hbig : ∀ (k' : Nat) (og' : Nat → Int32) (j : Nat), k' < j → srF mf nf fi k' og' j = og' j := fun k' => by
        induction k' with
        | zero => intro og' j hj; exact pk_un (by omega)
        | succ k' ih =>
          intro og' j hj
          unfold srF
          split
          · exact pk_un (by omega)
          · rw [ih _ j (by omega), pk_un (by omega)]
      obtain ⟨q, q1, q2, q3, q4, q5, q6⟩ := srF_p (mf := mf) (nf := nf) (fi := fi) k (upd og (k + 1) (og k))
      refine ⟨q, by omega, fun j hj => ?_, q3, fun j h1 h2 => ?_, ?_, fun j h1 h2 => ?_⟩
      · rw [q2 j hj, pk_un (by omega)]
      · by_cases e : j = k + 1
        · rw [e, hbig k _ (k + 1) (by omega), pk_us]; rfl
        · rw [q4 j h1 (by omega), pk_un (by omega)]
      · rcases q5 with z | z
        · exact Or.inl z
        · right
          rw [pk_un (by omega)] at z
          exact z
      · by_cases e : j = k
        · rw [e]; exact c
        · have := q6 j h1 (by omega)
          rw [pk_un (by omega)] at this
          exact this
def nLj (T : TS) (i j : Nat) : Prop := nLt (nmP T i) (T.nl i) (nmP T j) (T.nl j)
/-- the first i places, in the order of their NAMES (X: the FILE of a place) -/
def OSr (T : TS) (X : Nat → Nat) (og : Nat → Int32) (i : Nat) : Prop := (∀ k, k < i → ∃ f, f < i ∧ og k = nI f) ∧ (∀ f, f < i → ∃ k, k < i ∧ og k = nI f) ∧ ∀ a b f g, a < b → b < i → f < i → g < i → og a = nI f → og b = nI g → nLj T (X f) (X g)
theorem OSr.step {T : TS} {X : Nat → Nat} {og mf nf : Nat → Int32} {i : Nat} (hi : i < 48) (h : OSr T X og i) (hc : ∀ f, f < i → (nmC mf nf i f = -1 ∧ nLj T (X i) (X f)) ∨ (nmC mf nf i f = 1 ∧ nLj T (X f) (X i))) : OSr T X (srF mf nf i i og) (i + 1) := by
  obtain ⟨q, q1, q2, q3, q4, q5, q6⟩ := srF_p (mf := mf) (nf := nf) (fi := i) i og
  obtain ⟨h1, h2, h3⟩ := h
  -- where each comes from
  have hlow : ∀ a f, a < q → f < i → og a = nI f → nLj T (X f) (X i) := fun a f ha hf e => by
    rcases q5 with z | z
    · omega
    · obtain ⟨f', f1, f2⟩ := h1 (q - 1) (by omega)
      rw [f2, nI_clamp (by omega)] at z
      have hq : nLj T (X f') (X i) := by
        rcases hc f' f1 with ⟨y, _⟩ | ⟨_, y⟩
        · rw [y] at z; exact absurd z (by decide)
        · exact y
      by_cases e2 : a = q - 1
      · rw [e2, f2] at e
        have : f' = f := nI_inj (by omega) (by omega) e
        rw [← this]; exact hq
      · exact nLt.tr (h3 a (q - 1) f f' (by omega) (by omega) hf f1 e f2) hq
  have hhigh : ∀ a f, q ≤ a → a < i → f < i → og a = nI f → nLj T (X i) (X f) := fun a f ha1 ha2 hf e => by
    have z := q6 a ha1 ha2
    rw [e, nI_clamp (by omega)] at z
    rcases hc f hf with ⟨_, y⟩ | ⟨y, _⟩
    · exact y
    · rw [y] at z; exact absurd (by decide) z
  have hval : ∀ a, a < i + 1 → (a < q ∧ srF mf nf i i og a = og a) ∨ (a = q ∧ srF mf nf i i og a = nI i) ∨ (q < a ∧ srF mf nf i i og a = og (a - 1)) := fun a ha => by
    rcases Nat.lt_trichotomy a q with z | z | z
    · exact Or.inl ⟨z, q2 a z⟩
    · exact Or.inr (Or.inl ⟨z, by rw [z]; exact q3⟩)
    · exact Or.inr (Or.inr ⟨z, q4 a z (by omega)⟩)
  refine ⟨fun k hk => ?_, fun f hf => ?_, fun a b f g hab hb hf hg ea eb => ?_⟩
  · rcases hval k hk with ⟨z, e⟩ | ⟨z, e⟩ | ⟨z, e⟩
    · obtain ⟨f, f1, f2⟩ := h1 k (by omega)
      exact ⟨f, by omega, e.trans f2⟩
    · exact ⟨i, by omega, e⟩
    · obtain ⟨f, f1, f2⟩ := h1 (k - 1) (by omega)
      exact ⟨f, by omega, e.trans f2⟩
  · by_cases e : f = i
    · exact ⟨q, by omega, by rw [e]; exact q3⟩
    · obtain ⟨k, k1, k2⟩ := h2 f (by omega)
      rcases Nat.lt_or_ge k q with z | z
      · exact ⟨k, by omega, (q2 k z).trans k2⟩
      · exact ⟨k + 1, by omega, (q4 (k + 1) (by omega) (by omega)).trans (by rw [Nat.add_sub_cancel]; exact k2)⟩
  · have hne : ∀ c f, c < i → f < i + 1 → og c = nI f → f < i := fun c f hc hf e => by
      obtain ⟨f', f1, f2⟩ := h1 c hc
      have : f' = f := nI_inj (by omega) (by omega) (f2.symm.trans e)
      omega
    rcases hval a (by omega) with ⟨z, e⟩ | ⟨z, e⟩ | ⟨z, e⟩
    · rw [e] at ea
      have hf' := hne a f (by omega) hf ea
      rcases hval b hb with ⟨y, e2⟩ | ⟨y, e2⟩ | ⟨y, e2⟩
      · rw [e2] at eb
        exact h3 a b f g hab (by omega) hf' (hne b g (by omega) hg eb) ea eb
      · rw [e2] at eb
        have : i = g := nI_inj (by omega) (by omega) eb
        rw [← this]; exact hlow a f z hf' ea
      · rw [e2] at eb
        exact h3 a (b - 1) f g (by omega) (by omega) hf' (hne (b - 1) g (by omega) hg eb) ea eb
    · rw [e] at ea
      have : i = f := nI_inj (by omega) (by omega) ea
      rcases hval b hb with ⟨y, e2⟩ | ⟨y, e2⟩ | ⟨y, e2⟩
      · omega
      · omega
      · rw [e2] at eb
        rw [← this]; exact hhigh (b - 1) g (by omega) (by omega) (hne (b - 1) g (by omega) hg eb) eb
    · rw [e] at ea
      have hf' := hne (a - 1) f (by omega) hf ea
      rcases hval b hb with ⟨y, e2⟩ | ⟨y, e2⟩ | ⟨y, e2⟩
      · omega
      · omega
      · rw [e2] at eb
        exact h3 (a - 1) (b - 1) f g (by omega) (by omega) hf' (hne (b - 1) g (by omega) hg eb) ea eb
/-- one order alone -/
theorem srt_uq {R : Nat → Nat → Prop} (hirr : ∀ x, ¬ R x x) (htr : ∀ x y z, R x y → R y z → R x z) {a b : Nat → Nat} {c : Nat} (ha : ∀ i j, i < j → j < c → R (a i) (a j)) (hb : ∀ i j, i < j → j < c → R (b i) (b j)) (hab : ∀ i, i < c → ∃ j, j < c ∧ a i = b j) (hba : ∀ i, i < c → ∃ j, j < c ∧ b i = a j) : ∀ k, k < c → a k = b k := fun k => by
  induction k using Nat.strongRecOn with
  | ind k ih =>
    intro hk
    obtain ⟨m, m1, m2⟩ := hab k hk
    obtain ⟨m', n1, n2⟩ := hba k hk
    rcases Nat.lt_trichotomy m k with z | z | z
    · have := ih m z m1
      exact absurd (ha m k z hk) (by rw [this, ← m2]; exact hirr _)
    · rw [m2, z]
    · rcases Nat.lt_trichotomy m' k with y | y | y
      · have := ih m' y n1
        exact absurd (hb m' k y hk) (by rw [← this, ← n2]; exact hirr _)
      · rw [n2, y]
      · exfalso
        have r1 := hb k m z m1
        have r2 := ha k m' y n1
        rw [← m2] at r1
        rw [← n2] at r2
        exact hirr _ (htr _ _ _ r1 r2)
theorem laidS_v {vf : Nat → Int32} {b : Nat} : ∀ (k i r : Nat), laidS vf b k i r = r + Sm (fun j => if vf (b + (i + j)) < 0 then 0 else 1) k
  | 0, i, r => rfl
  | k + 1, i, r => by
    have e : Sm (fun j => if vf (b + (i + j)) < 0 then 0 else 1) (k + 1) = (if vf (b + i) < 0 then 0 else 1) + Sm (fun j => if vf (b + (i + 1 + j)) < 0 then 0 else 1) k := by
      have e1 := Sm_spl (fun j => if vf (b + (i + j)) < 0 then 0 else 1) 1 k
      have e2 : Sm (fun v => if vf (b + (i + (1 + v))) < 0 then 0 else 1) k = Sm (fun j => if vf (b + (i + 1 + j)) < 0 then 0 else 1) k := Sm_cg (fun j _ => by
        show (if vf (b + (i + (1 + j))) < 0 then 0 else 1) = if vf (b + (i + 1 + j)) < 0 then 0 else 1
        rw [show i + (1 + j) = i + 1 + j by omega])
      have e3 : Sm (fun j => if vf (b + (i + j)) < 0 then 0 else 1) 1 = if vf (b + i) < 0 then 0 else 1 := by
        show 0 + (if vf (b + (i + 0)) < 0 then 0 else 1) = _
        rw [Nat.zero_add, Nat.add_zero]
      rw [Nat.add_comm k 1, e1, e3]
      exact congrArg (_ + ·) e2
    unfold laidS
    rw [e]
    by_cases c : vf (b + i) < 0
    · rw [if_pos c, if_pos c, laidS_v k (i + 1) r]; omega
    · rw [if_neg c, if_neg c, laidS_v k (i + 1) (r + 1)]; omega
theorem laid_ln {T : TS} {k i f : Nat} {vf : Nat → Int32} (hT : TOK T k) (hk : k ≤ 512) (h : ∀ p, p < 19 → vf (f * 20 + p) = T.vr i p) : laidS vf (f * 20) 19 0 0 = lnS T i := by
  rw [laidS_v, Nat.zero_add]
  refine Sm_cg (fun s hs => ?_)
  show (if vf (f * 20 + (0 + s)) < 0 then 0 else 1) = if T.vr i s = -1 then 0 else 1
  rw [Nat.zero_add, h s hs]
  rcases hT.v1 i s with e | ⟨v, v1, e⟩
  · rw [e, if_pos rfl, if_pos (by decide)]
  · rw [e, if_neg (nI_pos (by omega)), if_neg (nIneg (by omega))]

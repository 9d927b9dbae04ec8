/-! a table (its cells) that says what T says, as far as it is known -/
def TR (T : TS) (fl : Int32) (jf zf nf mf fo vf : Nat → Int32) (K : Int64) : Prop :=
  (∀ i, i < 512 → (T.ex i = false ∧ fo i = -1) ∨ (T.ex i = true ∧ ∃ f : Nat, f < 48 ∧ fo i = nI f ∧ jf f = nI i)) ∧
  (∀ f, f < 48 → (jf f = -1 ∧ zf f = 0 ∧ bq K f = false ∧ ∀ p, p < 20 → vf (f * 20 + p) = -1) ∨ ∃ i : Nat, i < 512 ∧ jf f = nI i ∧ fo i = nI f) ∧
  (fl = nI T.cnt) ∧
  (∀ i f : Nat, i < 512 → f < 48 → jf f = nI i → vf (f * 20 + 19) = T.vr i 19) ∧
  (∀ i f : Nat, i < 512 → f < 48 → jf f = nI i → bq K f = true → zf f = nI (T.sz i) ∧ nf f = nI (T.nl i) ∧ (∀ x, x < 50 → mf (f * 50 + x) = T.nm i x) ∧ ∀ p, p < 19 → vf (f * 20 + p) = T.vr i p) ∧
  (∀ i f : Nat, i < 512 → f < 48 → jf f = nI i → bq K f = false → zf f = 0 ∧ ∀ p, p < 19 → vf (f * 20 + p) = -1) ∧
  (∀ f, 48 ≤ f → f < 64 → bq K f = false)
theorem TR.b1 {T : TS} {fl : Int32} {jf zf nf mf fo vf : Nat → Int32} {K : Int64} (h_ : TR T fl jf zf nf mf fo vf K) : ∀ i, i < 512 → (T.ex i = false ∧ fo i = -1) ∨ (T.ex i = true ∧ ∃ f : Nat, f < 48 ∧ fo i = nI f ∧ jf f = nI i) := h_.1
theorem TR.b2 {T : TS} {fl : Int32} {jf zf nf mf fo vf : Nat → Int32} {K : Int64} (h_ : TR T fl jf zf nf mf fo vf K) : ∀ f, f < 48 → (jf f = -1 ∧ zf f = 0 ∧ bq K f = false ∧ ∀ p, p < 20 → vf (f * 20 + p) = -1) ∨ ∃ i : Nat, i < 512 ∧ jf f = nI i ∧ fo i = nI f := h_.2.1
theorem TR.c1 {T : TS} {fl : Int32} {jf zf nf mf fo vf : Nat → Int32} {K : Int64} (h_ : TR T fl jf zf nf mf fo vf K) : fl = nI T.cnt := h_.2.2.1
theorem TR.r1 {T : TS} {fl : Int32} {jf zf nf mf fo vf : Nat → Int32} {K : Int64} (h_ : TR T fl jf zf nf mf fo vf K) : ∀ i f : Nat, i < 512 → f < 48 → jf f = nI i → vf (f * 20 + 19) = T.vr i 19 := h_.2.2.2.1
theorem TR.k1 {T : TS} {fl : Int32} {jf zf nf mf fo vf : Nat → Int32} {K : Int64} (h_ : TR T fl jf zf nf mf fo vf K) : ∀ i f : Nat, i < 512 → f < 48 → jf f = nI i → bq K f = true → zf f = nI (T.sz i) ∧ nf f = nI (T.nl i) ∧ (∀ x, x < 50 → mf (f * 50 + x) = T.nm i x) ∧ ∀ p, p < 19 → vf (f * 20 + p) = T.vr i p := h_.2.2.2.2.1
theorem TR.u1 {T : TS} {fl : Int32} {jf zf nf mf fo vf : Nat → Int32} {K : Int64} (h_ : TR T fl jf zf nf mf fo vf K) : ∀ i f : Nat, i < 512 → f < 48 → jf f = nI i → bq K f = false → zf f = 0 ∧ ∀ p, p < 19 → vf (f * 20 + p) = -1 := h_.2.2.2.2.2.1
theorem TR.kb {T : TS} {fl : Int32} {jf zf nf mf fo vf : Nat → Int32} {K : Int64} (h_ : TR T fl jf zf nf mf fo vf K) : ∀ f, 48 ≤ f → f < 64 → bq K f = false := h_.2.2.2.2.2.2
theorem TR.jx {T : TS} {fl : Int32} {jf zf nf mf fo vf : Nat → Int32} {K : Int64} (h : TR T fl jf zf nf mf fo vf K) {f i : Nat} (hf : f < 48) (hi : i < 512) (e : jf f = nI i) : T.ex i = true ∧ fo i = nI f := by
  rcases h.b2 f hf with ⟨z, _⟩ | ⟨i', a, b, c⟩
  · rw [z] at e; exact absurd e.symm (nIneg (by omega))
  · rw [b] at e
    have := nI_inj (by omega) (by omega) e
    subst this
    rcases h.b1 i' a with ⟨_, z⟩ | ⟨z, _⟩
    · rw [z] at c; exact absurd c.symm (nIneg (by omega))
    · exact ⟨z, c⟩
theorem TR.fx {T : TS} {fl : Int32} {jf zf nf mf fo vf : Nat → Int32} {K : Int64} (h : TR T fl jf zf nf mf fo vf K) {i : Nat} (hi : i < 512) (e : T.ex i = true) : ∃ f : Nat, f < 48 ∧ fo i = nI f ∧ jf f = nI i := by
  rcases h.b1 i hi with ⟨z, _⟩ | ⟨_, z⟩
  · rw [z] at e; cases e
  · exact z
theorem TR.inj {T : TS} {fl : Int32} {jf zf nf mf fo vf : Nat → Int32} {K : Int64} (h : TR T fl jf zf nf mf fo vf K) {f g i : Nat} (hf : f < 48) (hg : g < 48) (hi : i < 512) (e1 : jf f = nI i) (e2 : jf g = nI i) : f = g := by
  have a := (h.jx hf hi e1).2
  have b := (h.jx hg hi e2).2
  rw [a] at b
  exact nI_inj (by omega) (by omega) b
theorem Sm_eq {g h : Nat → Nat} : ∀ {n : Nat}, (∀ i, i < n → g i ≤ h i) → Sm g n = Sm h n → ∀ i, i < n → g i = h i
  | 0, _, _, _, hi => absurd hi (by omega)
  | n + 1, H, e, i, hi => by
    have e : Sm g n + g n = Sm h n + h n := e
    have a := Sm_le (g := g) (h := h) (n := n) (fun i hi => H i (by omega))
    have b := H n (by omega)
    by_cases z : i = n
    · subst z; omega
    · exact Sm_eq (n := n) (fun i hi => H i (by omega)) (by omega) i (by omega)
theorem Sm_tail {g : Nat → Nat} {n : Nat} : ∀ (k : Nat), (∀ i, n ≤ i → i < n + k → g i = 0) → Sm g (n + k) = Sm g n
  | 0, _ => rfl
  | k + 1, H => by
    show Sm g (n + k) + g (n + k) = _
    rw [Sm_tail k (fun i h1 h2 => H i h1 (by omega)), H (n + k) (by omega) (by omega), Nat.add_zero]
theorem TR.cnt {T : TS} {fl : Int32} {jf zf nf mf fo vf : Nat → Int32} {K : Int64} (h : TR T fl jf zf nf mf fo vf K) : Sm (fun f => if jf f = -1 then 0 else 1) 48 = T.cnt := by
  refine Sm_bij (jf := jf) (by decide) (fun f hf => ?_) (fun i hi => ?_) (fun f f' i hf hf' hi e1 e2 => h.inj hf hf' hi e1 e2)
  · rcases h.b2 f hf with ⟨z, _⟩ | ⟨i, a, b, c⟩
    · exact Or.inl ⟨if_pos z, fun i hi e => by rw [z] at e; exact nIneg (by omega) e.symm⟩
    · refine Or.inr ⟨i, a, b, ?_⟩
      rw [if_neg (by rw [b]; exact nIneg (by omega)), (h.jx hf a b).1]
      rfl
  · rcases h.b1 i hi with ⟨z, _⟩ | ⟨_, f, a, _, c⟩
    · left; rw [z]; rfl
    · exact Or.inr ⟨f, a, c⟩
/-- isKnown -/
theorem TR.known {T : TS} {fl : Int32} {jf zf nf mf fo vf : Nat → Int32} {K : Int64} (h : TR T fl jf zf nf mf fo vf K) : ¬ knA K fl = 0 ↔ ∀ f, f < 48 → ¬ jf f = -1 → bq K f = true := by
  have hle : ∀ f, f < 48 → (if bq K f = true then 1 else 0) ≤ (if jf f = -1 then 0 else 1) := fun f hf => by
    rcases h.b2 f hf with ⟨_, _, z, _⟩ | ⟨i, a, b, c⟩
    · rw [z]; exact Nat.zero_le _
    · rw [if_neg (show ¬ jf f = -1 by rw [b]; exact nIneg (by omega))]
      split <;> omega
  have hS : Sm (fun i => if bq K i = true then 1 else 0) 64 = Sm (fun i => if bq K i = true then 1 else 0) 48 := Sm_tail (n := 48) 16 (fun i h1 h2 => by rw [h.kb i h1 (by omega)]; rfl)
  have h48 : ∀ (g : Nat → Nat), (∀ i, g i ≤ 1) → ∀ n, Sm g n ≤ n := fun g hg n => by
    induction n with
    | zero => exact Nat.le_refl _
    | succ n ih => show Sm g n + g n ≤ n + 1; have := hg n; omega
  have hb1 := h48 (fun i => if bq K i = true then 1 else 0) (fun i => by show (if bq K i = true then 1 else 0) ≤ 1; split <;> omega) 48
  have hb2 := h48 (fun f => if jf f = -1 then 0 else 1) (fun i => by show (if jf i = -1 then 0 else 1) ≤ 1; split <;> omega) 48
  have hk : ¬ knA K fl = 0 ↔ bcL K = fl := by unfold knA; split <;> simp_all
  rw [hk, bcL_eq, hS, h.c1, ← h.cnt]
  constructor
  · intro e f hf hj
    have e := nI_inj (by omega) (by omega) e
    have := Sm_eq hle e f hf
    rw [if_neg hj] at this
    split at this
    · assumption
    · omega
  · intro H
    congr 1
    refine Sm_cg (fun f hf => ?_)
    show (if bq K f = true then 1 else 0) = (if jf f = -1 then 0 else 1)
    by_cases e : jf f = -1
    · have := hle f hf
      rw [if_pos e] at this ⊢
      omega
    · rw [if_neg e, H f hf e, if_pos rfl]
/-- all RECORDS were read -/
def TK (T : TS) (fl : Int32) (jf zf nf mf fo vf : Nat → Int32) (K : Int64) : Prop := TR T fl jf zf nf mf fo vf K ∧ ∀ f, f < 48 → ¬ jf f = -1 → bq K f = true
theorem TK.at {T : TS} {fl : Int32} {jf zf nf mf fo vf : Nat → Int32} {K : Int64} (h : TK T fl jf zf nf mf fo vf K) {f i : Nat} (hf : f < 48) (hi : i < 512) (e : jf f = nI i) : zf f = nI (T.sz i) ∧ nf f = nI (T.nl i) ∧ (∀ x, x < 50 → mf (f * 50 + x) = T.nm i x) ∧ ∀ p, p < 20 → vf (f * 20 + p) = T.vr i p := by
  obtain ⟨a, b, c, d⟩ := h.1.k1 i f hi hf e (h.2 f hf (by rw [e]; exact nIneg (by omega)))
  refine ⟨a, b, c, fun p hp => ?_⟩
  by_cases z : p = 19
  · subst z; exact h.1.r1 i f hi hf e
  · exact d p (by omega)
theorem TK.tot {T : TS} {fl : Int32} {jf zf nf mf fo vf : Nat → Int32} {K : Int64} (h : TK T fl jf zf nf mf fo vf K) (ht : ∀ i, T.sz i ≤ 8192) (hz : ∀ i, T.ex i = false → T.sz i = 0) : totS zf 48 0 0 = nI T.tot := by
  have key : ∀ (k i r : Nat), totS zf k i (nI r) = nI (r + Sm (fun j => (zf (i + j)).toNatClampNeg) k) ∨ ∃ j, i ≤ j ∧ j < i + k ∧ ¬ ∃ z, z < 2 ^ 31 ∧ zf j = nI z := fun k => by
    induction k with
    | zero => intro i r; exact Or.inl rfl
    | succ k ih =>
      intro i r
      by_cases hz : ∃ z, z < 2 ^ 31 ∧ zf i = nI z
      · obtain ⟨z, hz, e⟩ := hz
        show totS zf k (i + 1) (nI r + zf i) = _ ∨ _
        rw [e, nI_add]
        rcases ih (i + 1) (r + z) with a | ⟨j, a, b, c⟩
        · left
          rw [a]
          have hs : ∀ n, Sm (fun j => (zf (i + j)).toNatClampNeg) (n + 1) = z + Sm (fun j => (zf (i + 1 + j)).toNatClampNeg) n := fun n => by
            induction n with
            | zero => show 0 + (zf (i + 0)).toNatClampNeg = z + 0; rw [Nat.add_zero, e, nI_clamp hz]; omega
            | succ n ihn =>
              show Sm (fun j => (zf (i + j)).toNatClampNeg) (n + 1) + (zf (i + (n + 1))).toNatClampNeg = z + (Sm _ n + (zf (i + 1 + n)).toNatClampNeg)
              rw [ihn, show i + (n + 1) = i + 1 + n by omega]
              omega
          rw [hs k]
          congr 1
          omega
        · exact Or.inr ⟨j, by omega, by omega, c⟩
      · exact Or.inr ⟨i, by omega, by omega, hz⟩
  rcases key 48 0 0 with a | ⟨j, _, b, c⟩
  · rw [show (nI 0) = 0 from rfl] at a
    rw [a, Nat.zero_add]
    congr 1
    refine Sm_bij (jf := jf) (by decide) (fun f hf => ?_) (fun i hi => ?_) (fun f f' i hf hf' hi e1 e2 => h.1.inj hf hf' hi e1 e2)
    · rw [Nat.zero_add]
      rcases h.1.b2 f hf with ⟨z, y, _⟩ | ⟨i, a, b, c⟩
      · refine Or.inl ⟨by rw [y]; rfl, fun i hi e => by rw [z] at e; exact nIneg (by omega) e.symm⟩
      · exact Or.inr ⟨i, a, b, by rw [(h.at hf a b).1, nI_clamp (by have := ht i; omega)]⟩
    · rcases h.1.b1 i hi with ⟨z, _⟩ | ⟨_, f, a, _, c⟩
      · exact Or.inl (hz i z)
      · exact Or.inr ⟨f, a, c⟩
  · refine absurd ?_ c
    rcases h.1.b2 j (by omega) with ⟨_, y, _⟩ | ⟨i, a, b', c⟩
    · exact ⟨0, by decide, y⟩
    · exact ⟨_, by have := ht i; omega, (h.at (by omega) a b').1⟩
theorem cmpW_0 {f g : Nat → Int32} {p q : Nat} {x : Int32} : ∀ (k i : Nat), cmpW f g p q x x k i = 0 ↔ ∀ j, i ≤ j → j < i + k → f (p + j) = g (q + j)
  | 0, i => by
    show cmpI x x = 0 ↔ _
    have : cmpI x x = 0 := by unfold cmpI; rw [if_neg (by rw [Int32.lt_iff_toInt_lt]; omega), if_pos rfl]
    simp only [this, true_iff]
    intro j h1 h2
    omega
  | k + 1, i => by
    show (if f (p + i) = g (q + i) then cmpW f g p q x x k (i + 1) else _) = 0 ↔ _
    by_cases e : f (p + i) = g (q + i)
    · rw [if_pos e, cmpW_0 k (i + 1)]
      constructor
      · intro H j h1 h2
        by_cases z : j = i
        · subst z; exact e
        · exact H j (by omega) (by omega)
      · intro H j h1 h2
        exact H j (by omega) (by omega)
    · rw [if_neg e]
      constructor
      · intro z
        exfalso
        unfold cmpI at z
        split at z
        · exact absurd z (by decide)
        · split at z
          · rename_i e2
            refine e (b_ext (fun j _ => ?_))
            have := congrArg (fun z => bt z j) e2
            simp only [b_xor] at this
            revert this
            cases bt (f (p + i)) j <;> cases bt (g (q + i)) j <;> cases bt (-2147483648) j <;> simp
          · exact absurd z (by decide)
      · intro H
        exact absurd (H i (by omega) (by omega)) e
/-- named -/
theorem TK.named {T : TS} {k : Nat} {fl : Int32} {jf zf nf mf fo vf w : Nat → Int32} {K : Int64} (hT : TOK T k) (hk : k ≤ 512) (h : TK T fl jf zf nf mf fo vf K) {p l : Nat} (hl : l < 2 ^ 31) : (nmB jf nf mf w p (nI l) = -1 ∧ fdN T w p l = none) ∨ ∃ f i : Nat, f < 48 ∧ i < 512 ∧ nmB jf nf mf w p (nI l) = nI f ∧ jf f = nI i ∧ fdN T w p l = some i := by
  rcases fst1_spec (fun i => decide (¬ jf i < 0 ∧ nf i = nI l ∧ cmpW mf w (i * 50) p (nI l) (nI l) 50 0 = 0)) 48 0 with ⟨f, _, a2, a3, _, a5⟩ | ⟨a1, a2⟩
  · right
    have a3 := of_decide_eq_true a3
    rcases h.1.b2 f (by omega) with ⟨z, _⟩ | ⟨i, b1, b2, b3⟩
    · rw [z] at a3; exact absurd (by decide) a3.1
    · refine ⟨f, i, by omega, b1, a5, b2, ?_⟩
      obtain ⟨c1, c2, c3, c4⟩ := h.at (by omega) b1 b2
      have hx := h.1.jx (by omega) b1 b2
      refine fdN_eq hT ⟨b1, hx.1, ?_, fun x hx => ?_⟩
      · rw [a3.2.1] at c2
        have := hT.n1 i hx.1
        exact (nI_inj hl (by omega) c2).symm
      · rw [← c3 x hx]
        exact (cmpW_0 50 0).mp a3.2.2 x (by omega) (by omega)
  · left
    refine ⟨a2, ?_⟩
    cases e : fdN T w p l with
    | none => rfl
    | some i =>
      obtain ⟨d1, d2, d3, d4⟩ := fdN_some e
      obtain ⟨f, b1, b2, b3⟩ := h.1.fx d1 d2
      obtain ⟨c1, c2, c3, c4⟩ := h.at b1 d1 b3
      have := a1 f (by omega) (by omega)
      rw [decide_eq_false_iff_not] at this
      refine absurd ⟨?_, ?_, (cmpW_0 50 0).mpr (fun j _ hj => ?_)⟩ this
      · rw [b3]; exact nI_pos (by omega)
      · rw [c2, d3]
      · rw [c3 j (by omega), d4 j (by omega)]
/-! tags -/
/-- the tag k is one of T's ITEMS, r the VERSION of its ROOT -/
def isIt (T : TS) (r : Int32) (k : Nat) : Prop := (k / 10240 = 512 ∧ r = nI (k % 512)) ∨ (k / 10240 < 512 ∧ T.ex (k / 10240) = true ∧ T.vr (k / 10240) (k / 512 % 20) = nI (k % 512))
/-- where an ITEM is in the table: the place a of the tag k -/
def plc (jf : Nat → Int32) (k a : Nat) : Prop := (k / 10240 = 512 ∧ a = 960) ∨ (k / 10240 < 512 ∧ ∃ f, f < 48 ∧ jf f = nI (k / 10240) ∧ a = f * 20 + k / 512 % 20)
theorem TR.find {T : TS} {fl : Int32} {jf zf nf mf fo vf : Nat → Int32} {K : Int64} (h : TR T fl jf zf nf mf fo vf K) {k : Nat} (hk : k < 2 ^ 31) : (fndI fo vf (nI k) = -1 ∧ ∀ a, plc jf k a → ¬ vf a = nI (k % 512)) ∨ ∃ a : Nat, a < 961 ∧ fndI fo vf (nI k) = nI a ∧ plc jf k a ∧ vf a = nI (k % 512) := by
  have hf : fndI fo vf (nI k) = tfind fo vf k := by
    unfold fndI
    rw [if_neg (nI_pos hk), nI_clamp hk]
  rw [hf]
  unfold tfind
  by_cases e : k / 10240 = 512
  · rw [if_pos e]
    by_cases e2 : vf 960 = nI (k % 512)
    · rw [if_pos e2]
      exact Or.inr ⟨960, by decide, rfl, Or.inl ⟨e, rfl⟩, e2⟩
    · rw [if_neg e2]
      refine Or.inl ⟨rfl, fun a ha => ?_⟩
      rcases ha with ⟨_, z⟩ | ⟨z, _⟩
      · rw [z]; exact e2
      · omega
  · rw [if_neg e]
    by_cases e2 : k / 10240 < 512 ∧ ¬ fo (k / 10240) < 0
    · rw [if_pos e2]
      rcases h.b1 (k / 10240) e2.1 with ⟨_, z⟩ | ⟨_, f, b1, b2, b3⟩
      · rw [z] at e2; exact absurd (by decide) e2.2
      · rw [b2, nI_clamp (by omega)]
        have hp : k / 512 % 20 < 20 := Nat.mod_lt _ (by decide)
        have huq : ∀ a, plc jf k a → a = f * 20 + k / 512 % 20 := fun a ha => by
          rcases ha with ⟨z, _⟩ | ⟨_, g, g1, g2, g3⟩
          · exact absurd z e
          · rw [g3, h.inj g1 b1 e2.1 g2 b3]
        by_cases e3 : vf (f * 20 + k / 512 % 20) = nI (k % 512)
        · rw [if_pos e3]
          exact Or.inr ⟨_, by omega, rfl, Or.inr ⟨e2.1, f, b1, b3, rfl⟩, e3⟩
        · rw [if_neg e3]
          exact Or.inl ⟨rfl, fun a ha => by rw [huq a ha]; exact e3⟩
    · rw [if_neg e2]
      refine Or.inl ⟨rfl, fun a ha => ?_⟩
      rcases ha with ⟨z, _⟩ | ⟨z, g, g1, g2, g3⟩
      · exact absurd z e
      · have := (h.jx g1 z g2).2
        exact absurd ⟨z, by rw [this]; exact nI_pos (by omega)⟩ e2

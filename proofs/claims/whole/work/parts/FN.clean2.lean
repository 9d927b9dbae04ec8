/-! one hand-over: what counts for the clean NODES -/
theorem DKR.d {nn : Nat} {me : Int32} {f : Nat → Int32} {D D' : Nat → Nat → Int32} {Z : List Mg} {t0 : Int32} (h : DKR nn me f D D' Z t0) : (∀ t, ¬ t < 0 → stb D' t → stb D t ∨ (pnd D t ∧ ∃ z Z', Z = z :: Z' ∧ isHV nn me f D z ∧ hvT z t)) := fun t ht hs => by
  rcases h.2.2.1 t ht hs with y | ⟨y1, z, Z', y2, y3⟩
  · exact Or.inl y
  · exact Or.inr ⟨y1, z, Z', y2, h.2.1 z (by rw [y2]; exact List.mem_cons_self), y3⟩
theorem st7 {D D' : Nat → Nat → Int32} (h : ∀ q, q < 7 → D' q = D q) : (∀ t, stb D' t → stb D t) ∧ ∀ t, pnd D' t → pnd D t := ⟨fun t ⟨s, a, b, c⟩ => ⟨s, a, by rw [← h 6 (by decide)]; exact b, by rw [← h 5 (by decide)]; exact c⟩, fun t ⟨s, a, b, c⟩ => ⟨s, a, by rw [← h 6 (by decide)]; exact b, by rw [← h 5 (by decide)]; exact c⟩⟩
theorem NKz.dk {P : Pm} {g : Gh} {n e : Nat} {u b : Nat → Int32} {D : Nat → Nat → Int32} {K A : Int64} {D' : Nat → Nat → Int32} {K' A' : Int64} {Z : List Mg} (hN : NU P g n e D K) (h : NKz P g n e u b D K A D' K' A' Z) :
    D' 0 = D 0 ∧ (∀ t, ¬ t < 0 → stb D' t → stb D t ∨ (pnd D t ∧ ∃ z Z', Z = z :: Z' ∧ isHV P.nn (nI n) P.f D z ∧ hvT z t)) ∧
    (∀ t, ¬ t < 0 → pnd D' t → pnd D t ∨ (u 0 = 10 ∧ t = u 5)) ∧ (∀ z ∈ Z, z.1 0 = 5 → u 0 = 4 ∧ D' = D ∧ Z = [z] ∧ z = mLS n D (u 1)) ∧
    (∀ z ∈ Z, z.1 0 = 4 → ¬ ldB P.f P.nn (nI n) (D 0 8) = 0 ∧ ∃ j, j < P.nn ∧ z = mLI (nI n) D j) ∧ LOr P.nn (nI n) D Z := by
  rcases h with ⟨_, _, _, h3, _, h5⟩ | ⟨_, hl, _, _, _, h4, h5, h6⟩ | ⟨_, _, h1, _, _, h4⟩
  · -- as a NODE
    have one : ∀ z : Mg, D' = D → Z = [z] → ¬ z.1 0 = 5 → ¬ z.1 0 = 4 → D' 0 = D 0 ∧ (∀ t, ¬ t < 0 → stb D' t → stb D t ∨ (pnd D t ∧ ∃ z Z', Z = z :: Z' ∧ isHV P.nn (nI n) P.f D z ∧ hvT z t)) ∧ (∀ t, ¬ t < 0 → pnd D' t → pnd D t ∨ (u 0 = 10 ∧ t = u 5)) ∧ (∀ z ∈ Z, z.1 0 = 5 → u 0 = 4 ∧ D' = D ∧ Z = [z] ∧ z = mLS n D (u 1)) ∧ (∀ z ∈ Z, z.1 0 = 4 → ¬ ldB P.f P.nn (nI n) (D 0 8) = 0 ∧ ∃ j, j < P.nn ∧ z = mLI (nI n) D j) ∧ LOr P.nn (nI n) D Z := fun z q1 q2 q3 q4 => by
      rw [q1, q2]
      exact ⟨rfl, fun t _ hs => Or.inl hs, fun t _ hs => Or.inl hs, fun y hy z5 => by rw [List.mem_singleton.mp hy] at z5; exact absurd z5 q3, fun y hy z4 => by rw [List.mem_singleton.mp hy] at z4; exact absurd z4 q4, LOr.no (fun y hy => by rw [List.mem_singleton.mp hy]; exact q4)⟩
    have hv : (∀ z ∈ Z, isHV P.nn (nI n) P.f D z) → (∀ z ∈ Z, z.1 0 = 5 → u 0 = 4 ∧ D' = D ∧ Z = [z] ∧ z = mLS n D (u 1)) ∧ (∀ z ∈ Z, z.1 0 = 4 → ¬ ldB P.f P.nn (nI n) (D 0 8) = 0 ∧ ∃ j, j < P.nn ∧ z = mLI (nI n) D j) ∧ LOr P.nn (nI n) D Z := fun q => ⟨fun z hz z5 => by rw [(q z hz).v.1] at z5; exact absurd z5 (by decide), fun z hz z4 => by rw [(q z hz).v.1] at z4; exact absurd z4 (by decide), LOr.no (fun z hz => by rw [(q z hz).v.1]; decide)⟩
    rcases h5 with ⟨_, q1, q2⟩ | ⟨q0, q1, q2⟩ | ⟨_, q1, z, q2, _, _, _, _, _, q3⟩ | ⟨_, q1, z, q2, _, _, _, _, q3⟩ | ⟨q0, _, q1, _⟩ | ⟨_, _, q1, _⟩
    · exact one _ q1 q2 (show ¬ (1 : Int32) = 5 by decide) (show ¬ (1 : Int32) = 4 by decide)
    · have v0 := (mLS_v (to := u 1) hN).1
      rw [q1, q2]
      exact ⟨rfl, fun t _ hs => Or.inl hs, fun t _ hs => Or.inl hs, fun y hy _ => by rw [List.mem_singleton.mp hy]; exact ⟨q0, rfl, rfl, rfl⟩, fun y hy z4 => by rw [List.mem_singleton.mp hy, v0] at z4; exact absurd z4 (by decide), LOr.no (fun y hy => by rw [List.mem_singleton.mp hy, v0]; decide)⟩
    · have hk : z.1 0 = 7 ∨ z.1 0 = 8 := by rcases q3 with ⟨_, y⟩ | ⟨_, y⟩; exact Or.inl y; exact Or.inr y
      exact one z q1 q2 (by rcases hk with y | y <;> rw [y] <;> decide) (by rcases hk with y | y <;> rw [y] <;> decide)
    · have hk : z.1 0 = 10 ∨ z.1 0 = 8 := by rcases q3 with ⟨_, y, _⟩ | ⟨_, y, _⟩; exact Or.inl y; exact Or.inr y
      exact one z q1 q2 (by rcases hk with y | y <;> rw [y] <;> decide) (by rcases hk with y | y <;> rw [y] <;> decide)
    · refine ⟨h3 0 (Or.inl rfl), q1.d, fun t ht hp => ?_, hv q1.2.1⟩
      rcases q1.2.2.2 t ht hp with y | y
      · exact Or.inl y
      · exact Or.inr ⟨q0, y⟩
    · refine ⟨h3 0 (Or.inl rfl), q1.d, fun t ht hp => ?_, hv q1.2.1⟩
      rcases q1.2.2.2 t ht hp with y | y
      · exact Or.inl y
      · exact absurd (by rw [y]; decide) ht
  · obtain ⟨a1, a2⟩ := st7 h4
    exact ⟨h4 0 (by decide), fun t _ hs => Or.inl (a1 t hs), fun t _ hs => Or.inl (a2 t hs), fun z hz z5 => absurd z5 (h5 z hz).2.2.1, fun z hz z4 => ⟨hl, (h5 z hz).2.2.2.2 z4⟩, h6⟩
  · rw [h1, h4]
    exact ⟨rfl, fun t _ hs => Or.inl hs, fun t _ hs => Or.inl hs, fun z hz => (by cases hz), fun z hz => (by cases hz), LOr.nil⟩
theorem psl_last {Z1 Y : List Mg} {y0 y : Mg} {i : Nat} (h1 : ∀ z ∈ Z1, ¬ z.1 0 = 5) (hy : y.1 0 = 5) (hg : (psl Y (Z1 ++ [y0]))[i]? = some y) (hi : Y.length ≤ i) : y = y0 ∧ i + 1 = (psl Y (Z1 ++ [y0])).length := by
  rw [psl_app] at hg ⊢
  have hg : (pst (psl Y Z1) y0)[i]? = some y := hg
  show y = y0 ∧ i + 1 = (pst (psl Y Z1) y0).length
  obtain ⟨W, w1, w2⟩ := psl_pre Z1 Y
  have hno : ∀ i, Y.length ≤ i → (psl Y Z1)[i]? = some y → False := fun i hi hz => by
    rw [w1, List.getElem?_append_right hi] at hz
    exact h1 y (w2 y (List.mem_of_getElem? hz)) hy
  unfold pst at hg ⊢
  split at hg
  · rename_i c
    rw [if_pos c]
    rcases Nat.lt_or_ge i (psl Y Z1).length with q | q
    · rw [List.getElem?_append_left q] at hg
      exact (hno i hi hg).elim
    · rw [List.getElem?_append_right q] at hg
      have hlt := (List.getElem?_eq_some_iff.mp hg).1
      have hlt : i - (psl Y Z1).length < 1 := hlt
      have e : i - (psl Y Z1).length = 0 := by omega
      rw [e] at hg
      have hg : some y0 = some y := hg
      refine ⟨(Option.some.inj hg).symm, ?_⟩
      rw [List.length_append]
      show i + 1 = (psl Y Z1).length + 1
      omega
  · exact (hno i hi hg).elim
/-- those before it are there too -/
theorem psl_bef {Z Y : List Mg} {y : Mg} {p p' : Nat} (hY : Y.length ≤ 128) (hp : p < 128 - Y.length) (hlt : p' < p) (hz : Z[p']? = some y) : y ∈ psl Y Z := by
  rw [psl_take Z hY]
  refine List.mem_append.mpr (Or.inr ?_)
  refine List.mem_of_getElem? (i := p') ?_
  rw [List.getElem?_take_of_lt (by omega)]
  exact hz
theorem psl_pos {Z Y : List Mg} {y : Mg} {i : Nat} (hY : Y.length ≤ 128) (hi : Y.length ≤ i) (h : (psl Y Z)[i]? = some y) : Z[i - Y.length]? = some y ∧ i - Y.length < 128 - Y.length := by
  rw [psl_take Z hY, List.getElem?_append_right hi] at h
  have hlt := (List.getElem?_eq_some_iff.mp h).1
  rw [List.length_take] at hlt
  rw [List.getElem?_take_of_lt (by omega)] at h
  exact ⟨h, by omega⟩

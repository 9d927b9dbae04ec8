/-! which NODES the leader takes for clean: what one hand-over keeps -/
theorem smL_get : ∀ {l m : List Mg} {i : Nat} {y : Mg}, smL l m → l[i]? = some y → ∃ y', m[i]? = some y' ∧ smM y y'
  | [], [], i, y, _, h => by cases h
  | x :: l, z :: m, 0, y, h, hy => by
    have hy : some x = some y := hy
    exact ⟨z, rfl, by rw [← Option.some.inj hy]; exact h.1⟩
  | x :: l, z :: m, i + 1, y, h, hy => smL_get (l := l) (m := m) (i := i) h.2 hy
theorem smL_mem2 : ∀ {l m : List Mg} {y : Mg}, smL l m → y ∈ m → ∃ y', y' ∈ l ∧ smM y' y
  | [], [], y, _, h => by cases h
  | x :: l, z :: m, y, h, hy => by
    rcases List.mem_cons.mp hy with e | e
    · rw [e]; exact ⟨x, List.mem_cons_self, h.1⟩
    · obtain ⟨y', a, b⟩ := smL_mem2 h.2 e
      exact ⟨y', List.mem_cons_of_mem _ a, b⟩
theorem tkl0_get {l : List Mg} {i : Nat} {y : Mg} (h : (tkl l 0)[i]? = some y) : (i = 0 ∧ 2 ≤ l.length ∧ l[l.length - 1]? = some y) ∨ (1 ≤ i ∧ i + 1 < l.length ∧ l[i]? = some y) := by
  cases l with
  | nil => cases h
  | cons a l =>
    have hne : a :: l ≠ [] := by intro z; cases z
    unfold tkl at h
    rw [List.getLast?_eq_some_getLast hne] at h
    have h : (if 0 + 1 = (a :: l).length then (a :: l).dropLast else (a :: l).dropLast.set 0 ((a :: l).getLast hne))[i]? = some y := h
    have hdl : (a :: l).dropLast.length = (a :: l).length - 1 := List.length_dropLast
    have hlen : (a :: l).length = l.length + 1 := rfl
    by_cases c : 0 + 1 = (a :: l).length
    · rw [if_pos c] at h
      have := (List.getElem?_eq_some_iff.mp h).1
      omega
    · rw [if_neg c] at h
      have hi := (List.getElem?_eq_some_iff.mp h).1
      rw [List.length_set, hdl] at hi
      cases i with
      | zero =>
        rw [List.getElem?_set_self (by omega)] at h
        refine Or.inl ⟨rfl, by omega, ?_⟩
        rw [← List.getLast?_eq_getElem?, List.getLast?_eq_some_getLast hne]
        exact h
      | succ i =>
        rw [List.getElem?_set_ne (by omega)] at h
        refine Or.inr ⟨by omega, by omega, ?_⟩
        have h2 : (a :: l)[i + 1]? = (a :: l).dropLast[i + 1]? := by
          conv => lhs; rw [← List.dropLast_concat_getLast hne]
          rw [List.getElem?_append_left (by omega)]
        rw [h2]; exact h
theorem hvT_sm {y y' : Mg} {t : Int32} (h : smM y y') (hk : y.1 0 = 5 ∨ y.1 0 = 11) (ht : hvT y' t) : hvT y t := by
  obtain ⟨i, i1, i2⟩ := ht
  have hr : rlv y.1 = (y.1 7).toNatClampNeg := by
    unfold rlv
    rw [if_neg (by rcases hk with z | z <;> rw [z] <;> decide), if_neg (by rcases hk with z | z <;> rw [z] <;> decide), if_pos (by rcases hk with z | z; exact Or.inl z; exact Or.inr (Or.inl z))]
  rw [← h.1] at i1
  exact ⟨i, i1, by rw [h.2 i (by rw [hr]; exact i1)]; exact i2⟩
def isLS (ep n : Nat) (x : Mg) : Prop := x.1 0 = 5 ∧ x.1 1 = nI n ∧ x.1 3 = nI ep
def isHW (ep l n : Nat) (t : Int32) (x : Mg) : Prop := x.1 0 = 11 ∧ x.1 1 = nI n ∧ x.1 2 = nI l ∧ x.1 3 = nI ep ∧ hvT x t
def isLI (ep n : Nat) (x : Mg) : Prop := x.1 0 = 4 ∧ x.1 2 = nI n ∧ x.1 3 = nI ep
def CL1 (P : Pm) (g : Gh) (S : SS) : Prop := ∀ (i : Nat) (x : Mg) (n : Nat), S.2.2.1[i]? = some x → n < P.nn → isLS g.ep n x → eN S n = g.ep ∧ (x.1 6 = 0 → (i = 0 ∨ (i + 1 = S.2.2.1.length ∧ S.2.2.2.1 n 1 4 = 0)) ∧ (∀ k, k < 5243392 → stb (S.2.2.2.1 n) (nI k) → hvT x (nI k)) ∧ ∀ k, k < 5243392 → pnd (S.2.2.2.1 n) (nI k) → bt (msk P g g.ep k) n = true)
def CL2 (P : Pm) (g : Gh) (l : Nat) (S : SS) : Prop := eN S l = g.ep → S.2.2.2.1 l 18 3 ≤ 2 → ∀ n, n < P.nn → bt (S.2.2.2.1 l 7 10) n = true → eN S n = g.ep ∧ (∀ k, k < 5243392 → stb (S.2.2.2.1 n) (nI k) → KPb P.gg (S.2.2.2.1 l) n (nI k) ∨ (bt (msk P g g.ep k) n = true ∧ ∃ x, x ∈ S.2.2.1 ∧ isHW g.ep l n (nI k) x)) ∧ ∀ k, k < 5243392 → pnd (S.2.2.2.1 n) (nI k) → bt (msk P g g.ep k) n = true
def CL3 (P : Pm) (g : Gh) (l : Nat) (S : SS) : Prop := ∀ n, n < P.nn → ((∃ x, x ∈ S.2.2.1 ∧ isLI g.ep n x) ∨ (∃ x, x ∈ S.2.2.1 ∧ isLS g.ep n x) ∨ (eN S l = g.ep ∧ S.2.2.2.1 l 18 3 ≤ 2 ∧ bt (S.2.2.2.1 l 7 10) n = true)) → ∀ j, j < n → eN S j = g.ep ∨ ∃ x, x ∈ S.2.2.1 ∧ isLI g.ep j x
/-- what one hand-over does, as far as it counts here: x0 is handed over, ms1 is what is left -/
def HFx (P : Pm) (g : Gh) (l : Nat) (x0 : Mg) (ms1 : List Mg) (S S' : SS) : Prop :=
  (∀ n, n < P.nn → eN S n = g.ep → eN S' n = g.ep) ∧
  (∀ n, n < P.nn → eN S n = g.ep → ∀ k, k < 5243392 → stb (S'.2.2.2.1 n) (nI k) → stb (S.2.2.2.1 n) (nI k) ∨ (pnd (S.2.2.2.1 n) (nI k) ∧ ∃ x, x ∈ S'.2.2.1 ∧ isHW g.ep l n (nI k) x)) ∧
  (∀ n, n < P.nn → eN S n = g.ep → ∀ k, k < 5243392 → pnd (S'.2.2.2.1 n) (nI k) → pnd (S.2.2.2.1 n) (nI k) ∨ bt (msk P g g.ep k) n = true) ∧
  (eN S' l = g.ep → S'.2.2.2.1 l 18 3 ≤ 2 → ∀ n, n < P.nn → bt (S'.2.2.2.1 l 7 10) n = true →
    (eN S l = g.ep ∧ S.2.2.2.1 l 18 3 ≤ 2 ∧ bt (S.2.2.2.1 l 7 10) n = true ∧ (∀ k, k < 5243392 → KPb P.gg (S.2.2.2.1 l) n (nI k) → KPb P.gg (S'.2.2.2.1 l) n (nI k)) ∧ ∀ k, k < 5243392 → isHW g.ep l n (nI k) x0 → bt (msk P g g.ep k) n = true → KPb P.gg (S'.2.2.2.1 l) n (nI k)) ∨
    (isLS g.ep n x0 ∧ x0.1 6 = 0 ∧ ∀ k, k < 5243392 → hvT x0 (nI k) → KPb P.gg (S'.2.2.2.1 l) n (nI k))) ∧
  (∀ (i : Nat) (y : Mg) (n : Nat), S'.2.2.1[i]? = some y → n < P.nn → isLS g.ep n y → (∃ y', ms1[i]? = some y' ∧ smM y y') ∨ (isLI g.ep n x0 ∧ eN S' n = g.ep ∧ i + 1 = S'.2.2.1.length ∧ y.1 6 = S'.2.2.2.1 n 1 4 ∧ ∀ k, k < 5243392 → stb (S'.2.2.2.1 n) (nI k) → hvT y (nI k))) ∧
  (∀ (y : Mg) (n : Nat), y ∈ S'.2.2.1 → n < P.nn → isLI g.ep n y → (∃ y', y' ∈ ms1 ∧ smM y y') ∨ ∀ j, j < n → (eN S l = g.ep ∧ S.2.2.2.1 l 18 3 ≤ 2 ∧ bt (S.2.2.2.1 l 7 10) j = true) ∨ ∃ x, x ∈ S'.2.2.1 ∧ isLI g.ep j x) ∧
  (∀ y', y' ∈ ms1 → ∃ y, y ∈ S'.2.2.1 ∧ smM y y') ∧ (∀ n, n < P.nn → x0.1 2 = nI n → x0.1 3 = nI g.ep → eN S' n = g.ep)
theorem isLI.sm {ep n : Nat} {y y' : Mg} (h : smM y y') (hy : isLI ep n y') : isLI ep n y := by unfold isLI; rw [h.1]; exact hy
theorem isLI.sm2 {ep n : Nat} {y y' : Mg} (h : smM y y') (hy : isLI ep n y) : isLI ep n y' := by unfold isLI; rw [← h.1]; exact hy
theorem isLS.sm2 {ep n : Nat} {y y' : Mg} (h : smM y y') (hy : isLS ep n y) : isLS ep n y' := by unfold isLS; rw [← h.1]; exact hy
theorem isHW.sm {ep l n : Nat} {t : Int32} {y y' : Mg} (h : smM y y') (hy : isHW ep l n t y') : isHW ep l n t y := by
  obtain ⟨a, b, c, d, e⟩ := hy
  have a' : y.1 0 = 11 := by rw [h.1]; exact a
  exact ⟨a', by rw [h.1]; exact b, by rw [h.1]; exact c, by rw [h.1]; exact d, hvT_sm h (Or.inr a') e⟩
/-- no tag at all that is not FLUSHED -/
theorem CL_stepA {P : Pm} {g : Gh} {l : Nat} {x0 : Mg} {S S' : SS} (hl : l < P.nn) (hnp : ∀ n, n < P.nn → S.2.2.2.1 n 1 4 = 0 → ∀ t, ¬ pnd (S.2.2.2.1 n) t) (hnp' : ∀ n, n < P.nn → S'.2.2.2.1 n 1 4 = 0 → ∀ t, ¬ pnd (S'.2.2.2.1 n) t) (hx : S.2.2.1[0]? = some x0) (hf : HFx P g l x0 (tkl S.2.2.1 0) S S') (h1 : CL1 P g S) (h2 : CL2 P g l S) : CL1 P g S' ∧ CL2 P g l S' := by
  obtain ⟨f1, f2, f3, f4, f5, f6, f7, f8⟩ := hf
  have hx0 : x0 ∈ S.2.2.1 := List.mem_of_getElem? hx
  have hperm := tkl_perm hx
  have hin : ∀ y, y ∈ S.2.2.1 → y = x0 ∨ y ∈ tkl S.2.2.1 0 := fun y hy => List.mem_cons.mp (hperm.mem_iff.mpr hy)
  have hsub : ∀ y, y ∈ tkl S.2.2.1 0 → y ∈ S.2.2.1 := fun y hy => hperm.mem_iff.mp (List.mem_cons_of_mem _ hy)
  -- a LIST that was under way: it still is, or its NODE is at ep
  have hLI : ∀ j, j < P.nn → (eN S j = g.ep ∨ ∃ x, x ∈ S.2.2.1 ∧ isLI g.ep j x) → eN S' j = g.ep ∨ ∃ x, x ∈ S'.2.2.1 ∧ isLI g.ep j x := fun j hj z => by
    rcases z with z | ⟨x, q1, q2⟩
    · exact Or.inl (f1 j hj z)
    · rcases hin x q1 with e | e
      · rw [e] at q2; exact Or.inl (f8 j hj q2.2.1 q2.2.2)
      · obtain ⟨y, y1, y2⟩ := f7 x e
        exact Or.inr ⟨y, y1, q2.sm y2⟩
  refine ⟨fun i y n hy hn hs => ?_, fun he hs n hn hc => ?_⟩
  · rcases f5 i y n hy hn hs with ⟨y', q1, q2⟩ | ⟨_, q2, q3, q4, q5⟩
    · have hs' := hs.sm2 q2
      rcases tkl0_get q1 with ⟨e0, e1, e2⟩ | ⟨e0, e1, e2⟩
      · obtain ⟨a1, a2⟩ := h1 (S.2.2.1.length - 1) y' n e2 hn hs'
        refine ⟨f1 n hn a1, fun z6 => ?_⟩
        obtain ⟨b1, b2, b3⟩ := a2 (by rw [← q2.1]; exact z6)
        have b14 : S.2.2.2.1 n 1 4 = 0 := by
          rcases b1 with b1 | ⟨_, b1⟩
          · omega
          · exact b1
        refine ⟨Or.inl e0, fun k hk hst => ?_, fun k hk hp => ?_⟩
        · rcases f2 n hn a1 k hk hst with c | ⟨c, _⟩
          · exact hvT_sm q2 (Or.inl hs.1) (b2 k hk c)
          · exact absurd c (hnp n hn b14 _)
        · rcases f3 n hn a1 k hk hp with c | c
          · exact absurd c (hnp n hn b14 _)
          · exact c
      · obtain ⟨a1, a2⟩ := h1 i y' n e2 hn hs'
        refine ⟨f1 n hn a1, fun z6 => ?_⟩
        exfalso
        rcases (a2 (by rw [← q2.1]; exact z6)).1 with b1 | ⟨b1, _⟩ <;> omega
    · exact ⟨q2, fun z6 => ⟨Or.inr ⟨q3, by rw [← q4]; exact z6⟩, q5, fun k _ hp => absurd hp (hnp' n hn (by rw [← q4]; exact z6) _)⟩⟩
  · rcases f4 he hs n hn hc with ⟨a1, a2, a3, a4, a5⟩ | ⟨a1, a2, a3⟩
    · obtain ⟨b1, b2, b3⟩ := h2 a1 a2 n hn a3
      refine ⟨f1 n hn b1, fun k hk hst => ?_, fun k hk hp => ?_⟩
      · rcases f2 n hn b1 k hk hst with c | ⟨c1, c2⟩
        · rcases b2 k hk c with d | ⟨d1, x, d2, d3⟩
          · exact Or.inl (a4 k hk d)
          · rcases hin x d2 with e | e
            · rw [e] at d3; exact Or.inl (a5 k hk d3 d1)
            · obtain ⟨y, y1, y2⟩ := f7 x e
              exact Or.inr ⟨d1, y, y1, d3.sm y2⟩
        · exact Or.inr ⟨b3 k hk c1, c2⟩
      · rcases f3 n hn b1 k hk hp with c | c
        · exact b3 k hk c
        · exact c
    · obtain ⟨b1, b2⟩ := h1 0 x0 n hx hn a1
      obtain ⟨_, b3, b4⟩ := b2 a2
      refine ⟨f1 n hn b1, fun k hk hst => ?_, fun k hk hp => ?_⟩
      · rcases f2 n hn b1 k hk hst with c | ⟨c1, c2⟩
        · exact Or.inl (a3 k hk (b3 k hk c))
        · exact Or.inr ⟨b4 k hk c1, c2⟩
      · rcases f3 n hn b1 k hk hp with c | c
        · exact b4 k hk c
        · exact c
theorem CL_step {P : Pm} {g : Gh} {l : Nat} {x0 : Mg} {S S' : SS} (hl : l < P.nn) (hnp : ∀ n, n < P.nn → S.2.2.2.1 n 1 4 = 0 → ∀ t, ¬ pnd (S.2.2.2.1 n) t) (hnp' : ∀ n, n < P.nn → S'.2.2.2.1 n 1 4 = 0 → ∀ t, ¬ pnd (S'.2.2.2.1 n) t) (hx : S.2.2.1[0]? = some x0) (hf : HFx P g l x0 (tkl S.2.2.1 0) S S') (h1 : CL1 P g S) (h2 : CL2 P g l S) (h3 : CL3 P g l S) : CL3 P g l S' := by
  obtain ⟨f1, f2, f3, f4, f5, f6, f7, f8⟩ := hf
  have hx0 : x0 ∈ S.2.2.1 := List.mem_of_getElem? hx
  have hperm := tkl_perm hx
  have hin : ∀ y, y ∈ S.2.2.1 → y = x0 ∨ y ∈ tkl S.2.2.1 0 := fun y hy => List.mem_cons.mp (hperm.mem_iff.mpr hy)
  have hsub : ∀ y, y ∈ tkl S.2.2.1 0 → y ∈ S.2.2.1 := fun y hy => hperm.mem_iff.mp (List.mem_cons_of_mem _ hy)
  -- a LIST that was under way: it still is, or its NODE is at ep
  have hLI : ∀ j, j < P.nn → (eN S j = g.ep ∨ ∃ x, x ∈ S.2.2.1 ∧ isLI g.ep j x) → eN S' j = g.ep ∨ ∃ x, x ∈ S'.2.2.1 ∧ isLI g.ep j x := fun j hj z => by
    rcases z with z | ⟨x, q1, q2⟩
    · exact Or.inl (f1 j hj z)
    · rcases hin x q1 with e | e
      · rw [e] at q2; exact Or.inl (f8 j hj q2.2.1 q2.2.2)
      · obtain ⟨y, y1, y2⟩ := f7 x e
        exact Or.inr ⟨y, y1, q2.sm y2⟩
  intro n hn hp j hj
  rcases hp with ⟨y, q1, q2⟩ | ⟨y, q1, q2⟩ | ⟨q1, q2, q3⟩
  · rcases f6 y n q1 hn q2 with ⟨y', r1, r2⟩ | r
    · exact hLI j (by omega) (h3 n hn (Or.inl ⟨y', hsub y' r1, q2.sm2 r2⟩) j hj)
    · rcases r j hj with ⟨s1, s2, s3⟩ | s
      · exact Or.inl (f1 j (by omega) (h2 s1 s2 j (by omega) s3).1)
      · exact Or.inr s
  · obtain ⟨i, hi⟩ := List.getElem?_of_mem q1
    rcases f5 i y n hi hn q2 with ⟨y', r1, r2⟩ | ⟨r, _⟩
    · exact hLI j (by omega) (h3 n hn (Or.inr (Or.inl ⟨y', hsub y' (List.mem_of_getElem? r1), q2.sm2 r2⟩)) j hj)
    · exact hLI j (by omega) (h3 n hn (Or.inl ⟨x0, hx0, r⟩) j hj)
  · rcases f4 q1 q2 n hn q3 with ⟨a1, a2, a3, _⟩ | ⟨a1, _⟩
    · exact hLI j (by omega) (h3 n hn (Or.inr (Or.inr ⟨a1, a2, a3⟩)) j hj)
    · exact hLI j (by omega) (h3 n hn (Or.inr (Or.inl ⟨x0, hx0, a1⟩)) j hj)

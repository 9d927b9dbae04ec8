/-! settle of the quiet store: what is under way, and that it comes to an end -/
def iM (nn j : Nat) (u : Nat → Int32) : Prop := u 0 = 0 ∧ u 2 = nI j ∧ u 3 = 2 ∧ u 4 = allN nn
def iH (nn j : Nat) (u : Nat → Int32) : Prop := u 0 = 1 ∧ u 1 = nI j ∧ u 2 = nI nn ∧ u 3 = 2
def iL (p nn t j : Nat) (u : Nat → Int32) : Prop := u 0 = 4 ∧ u 1 = nI p ∧ u 2 = nI j ∧ u 3 = nI t ∧ u 4 = allN nn
def iD (p t j : Nat) (u : Nat → Int32) : Prop := u 0 = 5 ∧ u 1 = nI j ∧ u 2 = nI p ∧ u 3 = nI t ∧ u 6 = 0 ∧ u 7 = 0
def okM (p nn ep : Nat) (u : Nat → Int32) : Prop := ∃ j, j < nn ∧ (iM nn j u ∨ iH nn j u ∨ ∃ t, (t = 1 ∨ t = 2) ∧ (t = 2 → ep = 2) ∧ (iL p nn t j u ∨ iD p t j u))
def Iv (p nn ep km kc : Nat) (us : List (Nat → Int32)) : Prop :=
  (∀ u ∈ us, okM p nn ep u) ∧ (∀ j, j < nn → (∃ u ∈ us, iM nn j u) ∨ (∃ u ∈ us, iH nn j u) ∨ km.testBit j = true) ∧ (ep = 1 → ∃ u ∈ us, iM nn p u) ∧ (ep = 2 → ∀ j, j < nn → (∃ u ∈ us, iL p nn 2 j u) ∨ (∃ u ∈ us, iD p 2 j u) ∨ kc.testBit j = true) ∧ (ep = 1 ∨ ep = 2) ∧ km < 2 ^ nn ∧ kc < 2 ^ nn
def wt (u : Nat → Int32) : Nat := if u 0 = 0 ∨ u 0 = 4 then 2 else 1
def mea (nn ep : Nat) (us : List (Nat → Int32)) : Nat := (us.map wt).sum + (if ep = 1 then 2 * nn else 0)
theorem mea_cons {nn ep : Nat} {x : Nat → Int32} {us : List (Nat → Int32)} : mea nn ep (x :: us) = wt x + mea nn ep us := by
  unfold mea
  rw [List.map_cons, List.sum_cons]
  omega
theorem mea_app {nn ep : Nat} {us vs : List (Nat → Int32)} : mea nn ep (us ++ vs) = mea nn ep us + (vs.map wt).sum := by
  unfold mea
  rw [List.map_append, List.sum_append]
  omega
theorem mea_perm {nn ep : Nat} {us vs : List (Nat → Int32)} (h : us.Perm vs) : mea nn ep us = mea nn ep vs := by
  unfold mea
  rw [(h.map wt).sum_nat]
theorem Iv.perm {p nn ep km kc : Nat} {us vs : List (Nat → Int32)} (hI : Iv p nn ep km kc us) (h : us.Perm vs) : Iv p nn ep km kc vs := by
  obtain ⟨h1, h2, h3, h4, h5⟩ := hI
  have hm : ∀ {R : (Nat → Int32) → Prop}, (∃ u ∈ us, R u) → ∃ u ∈ vs, R u := fun ⟨u, hu, hR⟩ => ⟨u, h.mem_iff.mp hu, hR⟩
  exact ⟨fun u hu => h1 u (h.mem_iff.mpr hu), fun j hj => (h2 j hj).imp hm (Or.imp hm id), fun e => hm (h3 e), fun e j hj => (h4 e j hj).imp hm (Or.imp hm id), h5⟩
theorem mem_x {x : Nat → Int32} {us vs : List (Nat → Int32)} {R : (Nat → Int32) → Prop} (hs : ∀ u ∈ us, u ∈ vs) (hx : R x → False) (h : ∃ u ∈ x :: us, R u) : ∃ u ∈ vs, R u := by
  obtain ⟨u, hu, hR⟩ := h
  rcases List.mem_cons.mp hu with rfl | hu
  · exact (hx hR).elim
  · exact ⟨u, hs u hu, hR⟩
theorem mem_y {x : Nat → Int32} {us vs : List (Nat → Int32)} {R : (Nat → Int32) → Prop} (hs : ∀ u ∈ us, u ∈ vs) (h : ∃ u ∈ x :: us, R u) : R x ∨ ∃ u ∈ vs, R u := by
  obtain ⟨u, hu, hR⟩ := h
  rcases List.mem_cons.mp hu with rfl | hu
  · exact Or.inl hR
  · exact Or.inr ⟨u, hs u hu, hR⟩
theorem nIj {p nn a b : Nat} (h6 : nn ≤ 6) (ha : a < nn) (hb : b < nn) (e : nI a = nI b) : a = b := nI_inj (by omega) (by omega) e
/-- a MAP is heard: a HEARD goes out -/
theorem st_M {p nn ep km kc j : Nat} {x y : Nat → Int32} {us : List (Nat → Int32)} (h6 : nn ≤ 6) (hp : p < nn) (hj : j < nn) (hI : Iv p nn ep km kc (x :: us)) (hx : iM nn j x) (hy : iH nn j y) (hne : ep = 1 → j ≠ p) : Iv p nn ep km kc (us ++ [y]) ∧ mea nn ep (us ++ [y]) < mea nn ep (x :: us) := by
  obtain ⟨h1, h2, h3, h4, h5, h6', h7⟩ := hI
  have hs : ∀ u ∈ us, u ∈ us ++ [y] := fun u hu => List.mem_append_left _ hu
  have hyy : y ∈ us ++ [y] := List.mem_append_right _ (List.mem_singleton.mpr rfl)
  refine ⟨⟨fun u hu => ?_, fun k hk => ?_, fun e => ?_, fun e k hk => ?_, h5, h6', h7⟩, ?_⟩
  · rcases List.mem_append.mp hu with hu | hu
    · exact h1 u (List.mem_cons_of_mem _ hu)
    · rw [List.mem_singleton.mp hu]
      exact ⟨j, hj, Or.inr (Or.inl hy)⟩
  · rcases h2 k hk with h | h | h
    · rcases mem_y hs h with h | h
      · have : j = k := nIj h6 (p := p) hj hk (hx.2.1.symm.trans h.2.1)
        subst this
        exact Or.inr (Or.inl ⟨y, hyy, hy⟩)
      · exact Or.inl h
    · exact Or.inr (Or.inl (mem_x hs (fun z => absurd (hx.1.symm.trans z.1) (by decide)) h))
    · exact Or.inr (Or.inr h)
  · exact mem_x hs (fun z => hne e (nIj h6 (p := p) hj hp (hx.2.1.symm.trans z.2.1))) (h3 e)
  · rcases h4 e k hk with h | h | h
    · exact Or.inl (mem_x hs (fun z => absurd (hx.1.symm.trans z.1) (by decide)) h)
    · exact Or.inr (Or.inl (mem_x hs (fun z => absurd (hx.1.symm.trans z.1) (by decide)) h))
    · exact Or.inr (Or.inr h)
  · rw [mea_app, mea_cons]
    have e1 : wt x = 2 := if_pos (Or.inl hx.1)
    have e2 : wt y = 1 := if_neg (by rw [hy.1]; decide)
    simp [e1, e2]
    omega
theorem wt_list {p : Nat} {st : Int32} : ∀ (k i : Nat), (((List.range' i k).map (fun n => mg 4 (nI p) (nI n) 2 st)).map wt).sum = 2 * k := by
  intro k
  induction k with
  | zero =>
    intro i
    rfl
  | succ k ih =>
    intro i
    rw [List.range'_succ, List.map_cons, List.map_cons, List.sum_cons, ih]
    have e : wt (mg 4 (nI p) (nI i) 2 st) = 2 := if_pos (Or.inr rfl)
    rw [e]
    omega
/-- the leader hears of the new MAP: it asks all NODES what they have -/
theorem st_P {p nn km kc : Nat} {x y : Nat → Int32} {us : List (Nat → Int32)} (h6 : nn ≤ 6) (hp : p < nn) (hI : Iv p nn 1 km kc (x :: us)) (hx : iM nn p x) (hy : iH nn p y) : Iv p nn 2 km 0 ((us ++ (List.range' 0 nn).map (fun n => mg 4 (nI p) (nI n) 2 (allN nn))) ++ [y]) ∧ mea nn 2 ((us ++ (List.range' 0 nn).map (fun n => mg 4 (nI p) (nI n) 2 (allN nn))) ++ [y]) < mea nn 1 (x :: us) := by
  obtain ⟨h1, h2, h3, h4, h5, h6', h7⟩ := hI
  have hs : ∀ u ∈ us, u ∈ (us ++ (List.range' 0 nn).map (fun n => mg 4 (nI p) (nI n) 2 (allN nn))) ++ [y] := fun u hu => List.mem_append_left _ (List.mem_append_left _ hu)
  have hyy : y ∈ (us ++ (List.range' 0 nn).map (fun n => mg 4 (nI p) (nI n) 2 (allN nn))) ++ [y] := List.mem_append_right _ (List.mem_singleton.mpr rfl)
  refine ⟨⟨fun u hu => ?_, fun k hk => ?_, fun e => absurd e (by decide), fun e k hk => ?_, Or.inr rfl, h6', Nat.two_pow_pos nn⟩, ?_⟩
  · rcases List.mem_append.mp hu with hu | hu
    · rcases List.mem_append.mp hu with hu | hu
      · obtain ⟨j, hj, h⟩ := h1 u (List.mem_cons_of_mem _ hu)
        exact ⟨j, hj, h.imp id (Or.imp id (fun ⟨t, a, b, c⟩ => ⟨t, a, fun _ => rfl, c⟩))⟩
      · obtain ⟨j, hj, rfl⟩ := List.mem_map.mp hu
        have hj := List.mem_range'_1.mp hj
        exact ⟨j, by omega, Or.inr (Or.inr ⟨2, Or.inr rfl, fun _ => rfl, Or.inl ⟨rfl, rfl, rfl, rfl, rfl⟩⟩)⟩
    · rw [List.mem_singleton.mp hu]
      exact ⟨p, hp, Or.inr (Or.inl hy)⟩
  · rcases h2 k hk with h | h | h
    · rcases mem_y hs h with h | h
      · have : p = k := nIj h6 (p := p) hp hk (hx.2.1.symm.trans h.2.1)
        subst this
        exact Or.inr (Or.inl ⟨y, hyy, hy⟩)
      · exact Or.inl h
    · exact Or.inr (Or.inl (mem_x hs (fun z => absurd (hx.1.symm.trans z.1) (by decide)) h))
    · exact Or.inr (Or.inr h)
  · refine Or.inl ⟨mg 4 (nI p) (nI k) 2 (allN nn), List.mem_append_left _ (List.mem_append_right _ (List.mem_map.mpr ⟨k, List.mem_range'_1.mpr ⟨by omega, by omega⟩, rfl⟩)), rfl, rfl, rfl, rfl, rfl⟩
  · rw [mea_app, mea_app, mea_cons, wt_list]
    have e1 : wt x = 2 := if_pos (Or.inl hx.1)
    have e2 : wt y = 1 := if_neg (by rw [hy.1]; decide)
    unfold mea
    simp [e1, e2]
    omega
theorem tb_or {a b n : Nat} (ha : a < 2 ^ n) (hb : b < n) : a ||| 2 ^ b < 2 ^ n := Nat.or_lt_two_pow ha (Nat.pow_lt_pow_right (by decide) hb)
theorem tb_self {a b : Nat} : (a ||| 2 ^ b).testBit b = true := by rw [Nat.testBit_or, Nat.testBit_two_pow_self, Bool.or_true]
theorem tb_old {a b k : Nat} (h : a.testBit k = true) : (a ||| 2 ^ b).testBit k = true := by rw [Nat.testBit_or, h, Bool.true_or]
theorem st_H {p nn ep km kc j : Nat} {x : Nat → Int32} {us : List (Nat → Int32)} (h6 : nn ≤ 6) (hj : j < nn) (hI : Iv p nn ep km kc (x :: us)) (hx : iH nn j x) : Iv p nn ep (km ||| 2 ^ j) kc us ∧ mea nn ep us < mea nn ep (x :: us) := by
  obtain ⟨h1, h2, h3, h4, h5, h6', h7⟩ := hI
  have hs : ∀ u ∈ us, u ∈ us := fun u hu => hu
  refine ⟨⟨fun u hu => h1 u (List.mem_cons_of_mem _ hu), fun k hk => ?_, fun e => ?_, fun e k hk => ?_, h5, tb_or h6' hj, h7⟩, ?_⟩
  · rcases h2 k hk with h | h | h
    · exact Or.inl (mem_x hs (fun z => absurd (hx.1.symm.trans z.1) (by decide)) h)
    · rcases mem_y hs h with h | h
      · have : j = k := nIj h6 (p := p) hj hk (hx.2.1.symm.trans h.2.1)
        subst this
        exact Or.inr (Or.inr tb_self)
      · exact Or.inr (Or.inl h)
    · exact Or.inr (Or.inr (tb_old h))
  · exact mem_x hs (fun z => absurd (hx.1.symm.trans z.1) (by decide)) (h3 e)
  · rcases h4 e k hk with h | h | h
    · exact Or.inl (mem_x hs (fun z => absurd (hx.1.symm.trans z.1) (by decide)) h)
    · exact Or.inr (Or.inl (mem_x hs (fun z => absurd (hx.1.symm.trans z.1) (by decide)) h))
    · exact Or.inr (Or.inr h)
  · rw [mea_cons]
    have e1 : wt x = 1 := if_neg (by rw [hx.1]; decide)
    omega
theorem st_L {p nn ep km kc j t : Nat} {x y : Nat → Int32} {us : List (Nat → Int32)} (h6 : nn ≤ 6) (hj : j < nn) (ht : t = 1 ∨ t = 2) (ht2 : t = 2 → ep = 2) (hI : Iv p nn ep km kc (x :: us)) (hx : iL p nn t j x) (hy : iD p t j y) : Iv p nn ep km kc (us ++ [y]) ∧ mea nn ep (us ++ [y]) < mea nn ep (x :: us) := by
  obtain ⟨h1, h2, h3, h4, h5, h6', h7⟩ := hI
  have hs : ∀ u ∈ us, u ∈ us ++ [y] := fun u hu => List.mem_append_left _ hu
  have hyy : y ∈ us ++ [y] := List.mem_append_right _ (List.mem_singleton.mpr rfl)
  refine ⟨⟨fun u hu => ?_, fun k hk => ?_, fun e => ?_, fun e k hk => ?_, h5, h6', h7⟩, ?_⟩
  · rcases List.mem_append.mp hu with hu | hu
    · exact h1 u (List.mem_cons_of_mem _ hu)
    · rw [List.mem_singleton.mp hu]
      exact ⟨j, hj, Or.inr (Or.inr ⟨t, ht, ht2, Or.inr hy⟩)⟩
  · rcases h2 k hk with h | h | h
    · exact Or.inl (mem_x hs (fun z => absurd (hx.1.symm.trans z.1) (by decide)) h)
    · exact Or.inr (Or.inl (mem_x hs (fun z => absurd (hx.1.symm.trans z.1) (by decide)) h))
    · exact Or.inr (Or.inr h)
  · exact mem_x hs (fun z => absurd (hx.1.symm.trans z.1) (by decide)) (h3 e)
  · rcases h4 e k hk with h | h | h
    · rcases mem_y hs h with h | h
      · have : j = k := nIj h6 (p := p) hj hk (hx.2.2.1.symm.trans h.2.2.1)
        subst this
        have : t = 2 := nI_inj (by omega) (by omega) (hx.2.2.2.1.symm.trans h.2.2.2.1)
        subst this
        exact Or.inr (Or.inl ⟨y, hyy, hy⟩)
      · exact Or.inl h
    · exact Or.inr (Or.inl (mem_x hs (fun z => absurd (hx.1.symm.trans z.1) (by decide)) h))
    · exact Or.inr (Or.inr h)
  · rw [mea_app, mea_cons]
    have e1 : wt x = 2 := if_pos (Or.inr hx.1)
    have e2 : wt y = 1 := if_neg (by rw [hy.1]; decide)
    simp [e1, e2]
    omega
theorem st_D {p nn ep km kc j t : Nat} {x : Nat → Int32} {us : List (Nat → Int32)} (h6 : nn ≤ 6) (hj : j < nn) (hI : Iv p nn ep km kc (x :: us)) (hx : iD p t j x) : Iv p nn ep km (kc ||| 2 ^ j) us ∧ mea nn ep us < mea nn ep (x :: us) := by
  obtain ⟨h1, h2, h3, h4, h5, h6', h7⟩ := hI
  have hs : ∀ u ∈ us, u ∈ us := fun u hu => hu
  refine ⟨⟨fun u hu => h1 u (List.mem_cons_of_mem _ hu), fun k hk => ?_, fun e => ?_, fun e k hk => ?_, h5, h6', tb_or h7 hj⟩, ?_⟩
  · rcases h2 k hk with h | h | h
    · exact Or.inl (mem_x hs (fun z => absurd (hx.1.symm.trans z.1) (by decide)) h)
    · exact Or.inr (Or.inl (mem_x hs (fun z => absurd (hx.1.symm.trans z.1) (by decide)) h))
    · exact Or.inr (Or.inr h)
  · exact mem_x hs (fun z => absurd (hx.1.symm.trans z.1) (by decide)) (h3 e)
  · rcases h4 e k hk with h | h | h
    · exact Or.inl (mem_x hs (fun z => absurd (hx.1.symm.trans z.1) (by decide)) h)
    · rcases mem_y hs h with h | h
      · have : j = k := nIj h6 (p := p) hj hk (hx.2.1.symm.trans h.2.1)
        subst this
        exact Or.inr (Or.inr tb_self)
      · exact Or.inr (Or.inl h)
    · exact Or.inr (Or.inr (tb_old h))
  · rw [mea_cons]
    have e1 : wt x = 1 := if_neg (by rw [hx.1]; decide)
    omega
/-- what is too old goes by -/
theorem st_O {p nn ep km kc j : Nat} {x : Nat → Int32} {us : List (Nat → Int32)} (hI : Iv p nn ep km kc (x :: us)) (hx : iL p nn 1 j x ∨ iD p 1 j x) : Iv p nn ep km kc us ∧ mea nn ep us < mea nn ep (x :: us) := by
  obtain ⟨h1, h2, h3, h4, h5, h6', h7⟩ := hI
  have hs : ∀ u ∈ us, u ∈ us := fun u hu => hu
  have k0 : ∀ c : Int32, x 0 = c → c ≠ 4 → c ≠ 5 → False := fun c e a b => hx.elim (fun z => a (e.symm.trans z.1)) (fun z => b (e.symm.trans z.1))
  have k3 : x 3 = nI 1 := hx.elim (fun z => z.2.2.2.1) (fun z => z.2.2.2.1)
  have k4 : x 3 = nI 2 → False := fun z => absurd (k3.symm.trans z) (by decide)
  refine ⟨⟨fun u hu => h1 u (List.mem_cons_of_mem _ hu), fun k hk => ?_, fun e => ?_, fun e k hk => ?_, h5, h6', h7⟩, ?_⟩
  · rcases h2 k hk with h | h | h
    · exact Or.inl (mem_x hs (fun z => k0 0 z.1 (by decide) (by decide)) h)
    · exact Or.inr (Or.inl (mem_x hs (fun z => k0 1 z.1 (by decide) (by decide)) h))
    · exact Or.inr (Or.inr h)
  · exact mem_x hs (fun z => k0 0 z.1 (by decide) (by decide)) (h3 e)
  · rcases h4 e k hk with h | h | h
    · exact Or.inl (mem_x hs (fun z => k4 z.2.2.2.1) h)
    · exact Or.inr (Or.inl (mem_x hs (fun z => k4 z.2.2.2.1) h))
    · exact Or.inr (Or.inr h)
  · rw [mea_cons]
    have : 0 < wt x := by
      unfold wt
      split <;> omega
    omega
theorem allBits : ∀ nn, nn < 7 → ∀ k, k < 64 → k < 2 ^ nn → (∀ j, j < nn → k.testBit j = true) → nI k = allN nn := by decide +kernel
theorem orBit : ∀ k, k < 64 → ∀ j, j < 6 → nI k ||| (1 <<< (nI j &&& 31)) = nI (k ||| 2 ^ j) := by decide +kernel
/-- nothing is under way any more: all have heard, all are clean -/
theorem Iv.fin {p nn ep km kc : Nat} (h6 : nn ≤ 6) (hI : Iv p nn ep km kc []) : ep = 2 ∧ nI km = allN nn ∧ nI kc = allN nn := by
  obtain ⟨h1, h2, h3, h4, h5, h6', h7⟩ := hI
  have e2 : ep = 2 := by
    rcases h5 with e | e
    · obtain ⟨u, hu, -⟩ := h3 e
      cases hu
    · exact e
  have hpow : 2 ^ nn ≤ 2 ^ 6 := Nat.pow_le_pow_right (by decide) h6
  refine ⟨e2, allBits nn (by omega) km (by omega) h6' (fun j hj => ?_), allBits nn (by omega) kc (by omega) h7 (fun j hj => ?_)⟩
  · rcases h2 j hj with ⟨u, hu, -⟩ | ⟨u, hu, -⟩ | h
    · cases hu
    · cases hu
    · exact h
  · rcases h4 e2 j hj with ⟨u, hu, -⟩ | ⟨u, hu, -⟩ | h
    · cases hu
    · cases hu
    · exact h

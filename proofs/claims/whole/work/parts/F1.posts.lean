/-! what a NODE posts, one behind the other, whatever is under way -/
def psl : List Mg → List Mg → List Mg
  | Y, [] => Y
  | Y, z :: Z => psl (pst Y z) Z
theorem psl_app : ∀ (Z W Y : List Mg), psl Y (Z ++ W) = psl (psl Y Z) W
  | [], W, Y => rfl
  | z :: Z, W, Y => psl_app Z W (pst Y z)
theorem pst_in {Y : List Mg} {x y : Mg} (h : y ∈ pst Y x) : y ∈ Y ∨ y = x := by
  unfold pst at h
  split at h
  · rcases List.mem_append.mp h with h | h
    · exact Or.inl h
    · exact Or.inr (List.mem_singleton.mp h)
  · exact Or.inl h
theorem pst_old {Y : List Mg} {x y : Mg} (h : y ∈ Y) : y ∈ pst Y x := by
  unfold pst
  split
  · exact List.mem_append.mpr (Or.inl h)
  · exact h
theorem psl_in : ∀ (Z : List Mg) {Y : List Mg} {y : Mg}, y ∈ psl Y Z → y ∈ Y ∨ y ∈ Z
  | [], Y, y, h => Or.inl h
  | z :: Z, Y, y, h => by
    rcases psl_in Z (Y := pst Y z) h with h | h
    · rcases pst_in h with h | h
      · exact Or.inl h
      · exact Or.inr (by rw [h]; exact List.mem_cons_self)
    · exact Or.inr (List.mem_cons_of_mem _ h)
theorem psl_old : ∀ (Z : List Mg) {Y : List Mg} {y : Mg}, y ∈ Y → y ∈ psl Y Z
  | [], Y, y, h => h
  | z :: Z, Y, y, h => psl_old Z (Y := pst Y z) (pst_old h)
theorem psl_new {Y Z : List Mg} {z : Mg} (h : Y.length < 128) : z ∈ psl Y (z :: Z) := by
  refine psl_old Z ?_
  unfold pst
  rw [if_pos h]
  exact List.mem_append.mpr (Or.inr (List.mem_singleton.mpr rfl))
theorem psl_fit : ∀ (Z : List Mg) {Y : List Mg}, Y.length + Z.length ≤ 128 → psl Y Z = Y ++ Z
  | [], Y, h => (List.append_nil Y).symm
  | z :: Z, Y, h => by
    have h : Y.length + (Z.length + 1) ≤ 128 := h
    show psl (pst Y z) Z = Y ++ z :: Z
    have e : pst Y z = Y ++ [z] := by unfold pst; rw [if_pos (by omega)]
    rw [e, psl_fit Z (by rw [List.length_append]; show Y.length + 1 + Z.length ≤ 128; omega), List.append_assoc]
    rfl
theorem psl_le : ∀ (Z : List Mg) {Y : List Mg}, Y.length ≤ 128 → (psl Y Z).length ≤ 128
  | [], Y, h => h
  | z :: Z, Y, h => by
    refine psl_le Z (Y := pst Y z) ?_
    unfold pst
    split
    · rw [List.length_append]; show Y.length + 1 ≤ 128; omega
    · exact h
/-- behind Y only -/
theorem psl_pre : ∀ (Z : List Mg) (Y : List Mg), ∃ W, psl Y Z = Y ++ W ∧ ∀ w ∈ W, w ∈ Z
  | [], Y => ⟨[], (List.append_nil Y).symm, fun w h => h⟩
  | z :: Z, Y => by
    obtain ⟨W, h1, h2⟩ := psl_pre Z (pst Y z)
    show ∃ W, psl (pst Y z) Z = Y ++ W ∧ _
    rw [h1]
    unfold pst
    split
    · exact ⟨z :: W, by rw [List.append_assoc]; rfl, fun w hw => by
        rcases List.mem_cons.mp hw with e | e
        · rw [e]; exact List.mem_cons_self
        · exact List.mem_cons_of_mem _ (h2 w e)⟩
    · exact ⟨W, rfl, fun w hw => List.mem_cons_of_mem _ (h2 w hw)⟩
theorem psl_take : ∀ (Z : List Mg) {Y : List Mg}, Y.length ≤ 128 → psl Y Z = Y ++ Z.take (128 - Y.length)
  | [], Y, h => by rw [List.take_nil, List.append_nil]; rfl
  | z :: Z, Y, h => by
    show psl (pst Y z) Z = _
    by_cases c : Y.length < 128
    · have e : pst Y z = Y ++ [z] := by unfold pst; rw [if_pos c]
      rw [e, psl_take Z (by rw [List.length_append]; show Y.length + 1 ≤ 128; omega), List.length_append, List.append_assoc]
      have : 128 - Y.length = (128 - (Y.length + [z].length)) + 1 := by show _ = 128 - (Y.length + 1) + 1; omega
      rw [this]
      rfl
    · have e : pst Y z = Y := by unfold pst; rw [if_neg c]
      rw [e, psl_take Z h, show 128 - Y.length = 0 by omega]
      rfl
/-- LIST to NODE j -/
def mLI (me : Int32) (D : Nat → Nat → Int32) (j : Nat) : Mg := (mg 4 me (nI j) (D 7 7) (D 7 8), fun _ => 0)
theorem mLI_inj {me : Int32} {D : Nat → Nat → Int32} {a b : Nat} (ha : a < 2 ^ 31) (hb : b < 2 ^ 31) (h : mLI me D a = mLI me D b) : a = b := by
  have h1 := congrArg (fun z : Mg => z.1 2) h
  exact nI_inj ha hb h1
/-- LISTS in the order of the NODES: those before it, but for the clean ones -/
def lOr (me : Int32) (D : Nat → Nat → Int32) (nn i : Nat) (Z : List Mg) : Prop := ∀ p j : Nat, j < nn → Z[p]? = some (mLI me D j) → ∀ j' : Nat, i ≤ j' → j' < j → bt (D 7 10) j' = false → ∃ p' : Nat, p' < p ∧ Z[p']? = some (mLI me D j')
theorem poll_z {nn gg : Nat} {C me : Int32} {f u b : Nat → Int32} {D : Nat → Nat → Int32} {K A : Int64} : ∀ (k i : Nat), i + k ≤ 32 → ∃ Z, (∀ Y, G_35 nn gg C me f u b k i D K A Y = (D, K, A, psl Y Z)) ∧ Z.length ≤ k ∧ (∀ z ∈ Z, ∃ j, i ≤ j ∧ j < i + k ∧ bt (D 7 10) j = false ∧ z = mLI me D j) ∧ (∀ j, i ≤ j → j < i + k → bt (D 7 10) j = false → mLI me D j ∈ Z) ∧ lOr me D (i + k) i Z
  | 0, i, _ => ⟨[], fun _ => rfl, Nat.le_refl _, fun z h => (by cases h), fun j h1 h2 => (by omega), fun p j _ h => (by cases h)⟩
  | k + 1, i, hi => by
    obtain ⟨Z, z1, z2, z3, z4, z5⟩ := poll_z (nn := nn) (gg := gg) (C := C) (me := me) (f := f) (u := u) (b := b) (D := D) (K := K) (A := A) k (i + 1) (by omega)
    have hb := bitz (D 7 10) (show i < 32 by omega)
    cases c : bt (D 7 10) i with
    | true =>
      refine ⟨Z, fun Y => ?_, by omega, fun z hz => ?_, fun j h1 h2 h3 => ?_, fun p j h1 h2 j' h3 h4 h5 => ?_⟩
      · show (if ¬ (((D 7 10) >>> ((nI i) &&& 31)) &&& 1) = 0 then G_35 nn gg C me f u b k (i + 1) D K A Y else _) = _
        rw [if_pos (fun z => by rw [hb.mp z] at c; cases c), z1 Y]
      · obtain ⟨j, a1, a2, a3, a4⟩ := z3 z hz
        exact ⟨j, by omega, by omega, a3, a4⟩
      · rcases Nat.lt_or_ge i j with q | q
        · exact z4 j (by omega) (by omega) h3
        · have : j = i := by omega
          rw [this, c] at h3; cases h3
      · rcases Nat.lt_or_ge i j' with q | q
        · exact z5 p j (by omega) h2 j' (by omega) h4 h5
        · have : j' = i := by omega
          rw [this, c] at h5; cases h5
    | false =>
      refine ⟨mLI me D i :: Z, fun Y => ?_, by show Z.length + 1 ≤ k + 1; omega, fun z hz => ?_, fun j h1 h2 h3 => ?_, fun p j h1 h2 j' h3 h4 h5 => ?_⟩
      · show (if ¬ (((D 7 10) >>> ((nI i) &&& 31)) &&& 1) = 0 then _ else G_35 nn gg C me f u b k (i + 1) D K A (pst Y (mLI me D i))) = _
        rw [if_neg (fun z => z (hb.mpr c)), z1 _]
        rfl
      · rcases List.mem_cons.mp hz with e | e
        · exact ⟨i, Nat.le_refl _, by omega, c, e⟩
        · obtain ⟨j, a1, a2, a3, a4⟩ := z3 z e
          exact ⟨j, by omega, by omega, a3, a4⟩
      · rcases Nat.lt_or_ge i j with q | q
        · exact List.mem_cons_of_mem _ (z4 j (by omega) (by omega) h3)
        · have : j = i := by omega
          rw [this]; exact List.mem_cons_self
      · cases p with
        | zero =>
          have h2 : some (mLI me D i) = some (mLI me D j) := h2
          have := mLI_inj (show i < 2 ^ 31 by omega) (show j < 2 ^ 31 by omega) (Option.some.inj h2)
          omega
        | succ p =>
          have h2 : Z[p]? = some (mLI me D j) := h2
          rcases Nat.lt_or_ge i j' with q | q
          · obtain ⟨p', a1, a2⟩ := z5 p j (by omega) h2 j' (by omega) h4 h5
            exact ⟨p' + 1, by omega, a2⟩
          · have : j' = i := by omega
            rw [this]; exact ⟨0, by omega, rfl⟩
/-- PUT of block o to NODE j -/
def mPU (me : Int32) (D : Nat → Nat → Int32) (o j : Nat) : Mg := (va_up (mg 10 me (nI j) (D 7 7) (D 7 8)) 5 ((D 21) (o * 128 + 1)), fun x => D 21 (o * 128 + x))
theorem putb_z {nn gg : Nat} {C me : Int32} {f u b : Nat → Int32} {D : Nat → Nat → Int32} {K A : Int64} {o : Nat} {y : Int32} : ∀ (k i : Nat), i + k ≤ 32 → ∃ Z, (∀ Y, G_128 nn gg C me f u b o y k i D K A Y = (D, K, A, psl Y Z)) ∧ Z.length ≤ k ∧ (∀ z ∈ Z, ∃ j, i ≤ j ∧ j < i + k ∧ bt y j = true ∧ z = mPU me D o j) ∧ ∀ j, i ≤ j → j < i + k → bt y j = true → mPU me D o j ∈ Z
  | 0, i, _ => ⟨[], fun _ => rfl, Nat.le_refl _, fun z h => (by cases h), fun j h1 h2 => by omega⟩
  | k + 1, i, hi => by
    obtain ⟨Z, z1, z2, z3, z4⟩ := putb_z (nn := nn) (gg := gg) (C := C) (me := me) (f := f) (u := u) (b := b) (D := D) (K := K) (A := A) (o := o) (y := y) k (i + 1) (by omega)
    have hb := bitz y (show i < 32 by omega)
    cases c : bt y i with
    | false =>
      refine ⟨Z, fun Y => ?_, by omega, fun z hz => ?_, fun j h1 h2 h3 => ?_⟩
      · show (if ((y >>> ((nI i) &&& 31)) &&& 1) = 0 then G_128 nn gg C me f u b o y k (i + 1) D K A Y else _) = _
        rw [if_pos (hb.mpr c), z1 Y]
      · obtain ⟨j, a1, a2, a3, a4⟩ := z3 z hz
        exact ⟨j, by omega, by omega, a3, a4⟩
      · rcases Nat.lt_or_ge i j with q | q
        · exact z4 j (by omega) (by omega) h3
        · have : j = i := by omega
          rw [this, c] at h3; cases h3
    | true =>
      refine ⟨mPU me D o i :: Z, fun Y => ?_, by show Z.length + 1 ≤ k + 1; omega, fun z hz => ?_, fun j h1 h2 h3 => ?_⟩
      · show (if ((y >>> ((nI i) &&& 31)) &&& 1) = 0 then _ else G_128 nn gg C me f u b o y k (i + 1) D K A (pst Y (mPU me D o i))) = _
        rw [if_neg (fun z => by rw [hb.mp z] at c; cases c), z1 _]
        rfl
      · rcases List.mem_cons.mp hz with e | e
        · exact ⟨i, Nat.le_refl _, by omega, c, e⟩
        · obtain ⟨j, a1, a2, a3, a4⟩ := z3 z e
          exact ⟨j, by omega, by omega, a3, a4⟩
      · rcases Nat.lt_or_ge i j with q | q
        · exact List.mem_cons_of_mem _ (z4 j (by omega) (by omega) h3)
        · have : j = i := by omega
          rw [this]; exact List.mem_cons_self
/-- the NODES that still lack the ITEM of block o -/
def msO (gg : Nat) (D : Nat → Nat → Int32) (o : Nat) : Int32 := if seB (D 21 (o * 128)) = 0 then 0 else if fndI (D 15) (D 16) (D 21 (o * 128 + 1)) = -1 then 0 else D 8 (grp (D 11) gg (fndI (D 15) (D 16) (D 21 (o * 128 + 1))).toNatClampNeg) &&& (D 17 (fndI (D 15) (D 16) (D 21 (o * 128 + 1))).toNatClampNeg ^^^ (-1))
theorem put_z {nn gg : Nat} {C me : Int32} {f u b : Nat → Int32} {D : Nat → Nat → Int32} {K A : Int64} (hnn : nn ≤ 6) (o : Nat) : ∃ Z, (∀ Y, F_128 nn gg C me f u b D K A Y o = (D, K, A, psl Y Z)) ∧ Z.length ≤ nn ∧ (∀ z ∈ Z, ∃ j, j < nn ∧ bt (msO gg D o) j = true ∧ z = mPU me D o j) ∧ ∀ j, j < nn → bt (msO gg D o) j = true → mPU me D o j ∈ Z := by
  obtain ⟨Z, z1, z2, z3, z4⟩ := putb_z (nn := nn) (gg := gg) (C := C) (me := me) (f := f) (u := u) (b := b) (D := D) (K := K) (A := A) (o := o) (y := msO gg D o) nn 0 (by omega)
  refine ⟨Z, fun Y => ?_, z2, fun z hz => ?_, fun j h1 h2 => z4 j (Nat.zero_le _) (by omega) h2⟩
  · rw [← z1 Y]
    unfold F_128 msO
    by_cases c : seB (D 21 (o * 128)) = 0
    · rw [if_pos c, if_pos c]
    · rw [if_neg c, if_neg c]
      by_cases d : fndI (D 15) (D 16) (D 21 (o * 128 + 1)) = -1
      · rw [if_pos d, if_pos d]
      · rw [if_neg d, if_neg d, bnN_e]
  · obtain ⟨j, _, a2, a3, a4⟩ := z3 z hz
    exact ⟨j, by omega, a3, a4⟩
theorem store_z {nn gg : Nat} {C me : Int32} {f u b : Nat → Int32} {D : Nat → Nat → Int32} {K A : Int64} (hnn : nn ≤ 6) : ∀ (k i : Nat), ∃ Z, (∀ Y, H_125 nn gg C me f u b k i D K A Y = (D, K, A, psl Y Z)) ∧ Z.length ≤ k * nn ∧ (∀ z ∈ Z, ∃ o j, i ≤ o ∧ o < i + k ∧ j < nn ∧ bt (msO gg D o) j = true ∧ z = mPU me D o j) ∧ ∀ o j, i ≤ o → o < i + k → j < nn → bt (msO gg D o) j = true → mPU me D o j ∈ Z
  | 0, i => ⟨[], fun _ => rfl, by show 0 ≤ _; omega, fun z h => (by cases h), fun o j h1 h2 => by omega⟩
  | k + 1, i => by
    obtain ⟨Z, z1, z2, z3, z4⟩ := store_z (nn := nn) (gg := gg) (C := C) (me := me) (f := f) (u := u) (b := b) (D := D) (K := K) (A := A) hnn k (i + 1)
    obtain ⟨W, w1, w2, w3, w4⟩ := put_z (nn := nn) (gg := gg) (C := C) (me := me) (f := f) (u := u) (b := b) (D := D) (K := K) (A := A) hnn i
    refine ⟨W ++ Z, fun Y => ?_, ?_, fun z hz => ?_, fun o j h1 h2 h3 h4 => ?_⟩
    · rw [H_125.eq_2, w1 Y, bnS_e, z1 _, psl_app]
    · rw [List.length_append, Nat.add_mul]; omega
    · rcases List.mem_append.mp hz with e | e
      · obtain ⟨j, a1, a2, a3⟩ := w3 z e
        exact ⟨i, j, Nat.le_refl _, by omega, a1, a2, a3⟩
      · obtain ⟨o, j, a1, a2, a3, a4, a5⟩ := z3 z e
        exact ⟨o, j, by omega, by omega, a3, a4, a5⟩
    · rcases Nat.lt_or_ge i o with q | q
      · exact List.mem_append.mpr (Or.inr (z4 o j (by omega) (by omega) h3 h4))
      · have : o = i := by omega
        rw [this] at h4 ⊢
        exact List.mem_append.mpr (Or.inl (w4 j h3 h4))
/-- GET of the ITEM at a, from one that has it -/
def mGE (nn : Nat) (me : Int32) (D : Nat → Nat → Int32) (a : Nat) : Mg := (va_up (mg 6 me (nI (oneO ((D 17) a) nn nn ((D 7 13)).toNatClampNeg)) (D 7 7) (D 7 8)) 5 (tgA (D 11) (D 16) a), fun _ => 0)
/-- STRIPE i is fetched -/
def ftB (gg : Nat) (D : Nat → Nat → Int32) (i : Nat) : Prop := ¬ ndB (D 18) i < 0 ∧ ¬ D 17 (ndB (D 18) i).toNatClampNeg = 0 ∧ ¬ rdB (D 8) (D 7 9) (grp (D 11) gg (ndB (D 18) i).toNatClampNeg) = 0
theorem fetch_z {nn gg : Nat} {C me : Int32} {f u b : Nat → Int32} {D : Nat → Nat → Int32} {K A : Int64} : ∀ (k i : Nat), ∃ Z, (∀ Y, G_125 nn gg C me f u b k i D K A Y = (D, K, A, psl Y Z)) ∧ Z.length ≤ k ∧ (∀ z ∈ Z, ∃ j, i ≤ j ∧ j < i + k ∧ ftB gg D j ∧ z = mGE nn me D (ndB (D 18) j).toNatClampNeg) ∧ ∀ j, i ≤ j → j < i + k → ftB gg D j → mGE nn me D (ndB (D 18) j).toNatClampNeg ∈ Z
  | 0, i => ⟨[], fun _ => rfl, Nat.le_refl _, fun z h => (by cases h), fun j h1 h2 => by omega⟩
  | k + 1, i => by
    obtain ⟨Z, z1, z2, z3, z4⟩ := fetch_z (nn := nn) (gg := gg) (C := C) (me := me) (f := f) (u := u) (b := b) (D := D) (K := K) (A := A) k (i + 1)
    by_cases c : ftB gg D i
    · refine ⟨mGE nn me D (ndB (D 18) i).toNatClampNeg :: Z, fun Y => ?_, by show Z.length + 1 ≤ k + 1; omega, fun z hz => ?_, fun j h1 h2 h3 => ?_⟩
      · have hF : F_126 nn gg C me f u b D K A Y (ndB (D 18) i) = (D, K, A, pst Y (mGE nn me D (ndB (D 18) i).toNatClampNeg)) := by
          unfold F_126
          rw [if_neg c.1, bnN_e, if_neg c.2.1, if_neg c.2.2]
          rfl
        rw [G_125.eq_2, hF, bnS_e, z1 _]
        rfl
      · rcases List.mem_cons.mp hz with e | e
        · exact ⟨i, Nat.le_refl _, by omega, c, e⟩
        · obtain ⟨j, a1, a2, a3, a4⟩ := z3 z e
          exact ⟨j, by omega, by omega, a3, a4⟩
      · rcases Nat.lt_or_ge i j with q | q
        · exact List.mem_cons_of_mem _ (z4 j (by omega) (by omega) h3)
        · have : j = i := by omega
          rw [this]; exact List.mem_cons_self
    · refine ⟨Z, fun Y => ?_, by omega, fun z hz => ?_, fun j h1 h2 h3 => ?_⟩
      · have hF : F_126 nn gg C me f u b D K A Y (ndB (D 18) i) = (D, K, A, Y) := by
          unfold F_126
          simp only [bnN_e]
          repeat' split
          · rfl
          · rfl
          · rfl
          · exact absurd ⟨by assumption, by assumption, by assumption⟩ c
        rw [G_125.eq_2, hF, bnS_e, z1 _]
      · obtain ⟨j, a1, a2, a3, a4⟩ := z3 z hz
        exact ⟨j, by omega, by omega, a3, a4⟩
      · rcases Nat.lt_or_ge i j with q | q
        · exact z4 j (by omega) (by omega) h3
        · have : j = i := by omega
          rw [this] at h3; exact absurd h3 c
/-- push -/
def PZ (nn gg : Nat) (me : Int32) (D : Nat → Nat → Int32) (Z : List Mg) : Prop :=
  (D 18 3 = 2 ∧ Z.length ≤ 6 ∧ (∀ z ∈ Z, ∃ j, j < 6 ∧ ftB gg D j ∧ z = mGE nn me D (ndB (D 18) j).toNatClampNeg) ∧ ∀ j, j < 6 → ftB gg D j → mGE nn me D (ndB (D 18) j).toNatClampNeg ∈ Z) ∨
  (D 18 3 = 3 ∧ Z.length ≤ 8 * nn ∧ (∀ z ∈ Z, ∃ o j, o < 8 ∧ j < nn ∧ bt (msO gg D o) j = true ∧ z = mPU me D o j) ∧ ∀ o j, o < 8 → j < nn → bt (msO gg D o) j = true → mPU me D o j ∈ Z) ∨
  (D 18 3 = 4 ∧ Z.length ≤ nn ∧ (∀ z ∈ Z, ∃ j, j < nn ∧ bt (msO gg D 8) j = true ∧ z = mPU me D 8 j) ∧ ∀ j, j < nn → bt (msO gg D 8) j = true → mPU me D 8 j ∈ Z) ∨
  (¬ D 18 3 = 2 ∧ ¬ D 18 3 = 3 ∧ ¬ D 18 3 = 4 ∧ Z = [])
theorem push_z {nn gg : Nat} {C me : Int32} {f u b : Nat → Int32} {D : Nat → Nat → Int32} {K A : Int64} (hnn : nn ≤ 6) : ∃ Z, (∀ Y, F_125 nn gg C me f u b D K A Y = (D, K, A, psl Y Z)) ∧ PZ nn gg me D Z := by
  by_cases c2 : D 18 3 = 2
  · obtain ⟨Z, z1, z2, z3, z4⟩ := fetch_z (nn := nn) (gg := gg) (C := C) (me := me) (f := f) (u := u) (b := b) (D := D) (K := K) (A := A) 6 0
    refine ⟨Z, fun Y => by unfold F_125; rw [if_neg (fun z => z c2), z1 Y], Or.inl ⟨c2, z2, fun z hz => ?_, fun j h1 h2 => z4 j (Nat.zero_le _) (by omega) h2⟩⟩
    obtain ⟨j, _, a2, a3⟩ := z3 z hz
    exact ⟨j, by omega, a3⟩
  · by_cases c3 : D 18 3 = 3
    · obtain ⟨Z, z1, z2, z3, z4⟩ := store_z (nn := nn) (gg := gg) (C := C) (me := me) (f := f) (u := u) (b := b) (D := D) (K := K) (A := A) hnn 8 0
      refine ⟨Z, fun Y => by unfold F_125; rw [if_pos c2, if_neg (fun z => z c3), z1 Y], Or.inr (Or.inl ⟨c3, z2, fun z hz => ?_, fun o j h1 h2 h3 => z4 o j (Nat.zero_le _) (by omega) h2 h3⟩)⟩
      obtain ⟨o, j, _, a2, a3⟩ := z3 z hz
      exact ⟨o, j, by omega, a3⟩
    · by_cases c4 : D 18 3 = 4
      · obtain ⟨Z, z1, z2, z3, z4⟩ := put_z (nn := nn) (gg := gg) (C := C) (me := me) (f := f) (u := u) (b := b) (D := D) (K := K) (A := A) hnn 8
        exact ⟨Z, fun Y => by unfold F_125; rw [if_pos c2, if_pos c3, if_neg (fun z => z c4), z1 Y, bnS_e], Or.inr (Or.inr (Or.inl ⟨c4, z2, z3, z4⟩))⟩
      · exact ⟨[], fun Y => by unfold F_125; rw [if_pos c2, if_pos c3, if_pos c4]; rfl, Or.inr (Or.inr (Or.inr ⟨c2, c3, c4, rfl⟩))⟩

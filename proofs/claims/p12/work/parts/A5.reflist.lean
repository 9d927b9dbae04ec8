/-! the reference's FILES in their order, as a list -/
def oL (og : Nat → Int32) (c : Nat) : List Nat := (List.range c).map (fun i => (og i).toNatClampNeg)
theorem oL_len {og : Nat → Int32} {c : Nat} : (oL og c).length = c := by
  unfold oL
  rw [List.length_map, List.length_range]
theorem oL_get {og : Nat → Int32} {c i : Nat} (h : i < c) : (oL og c)[i]? = some (og i).toNatClampNeg := by
  unfold oL
  rw [List.getElem?_map, List.getElem?_range h]
  rfl
theorem oL_succ {og : Nat → Int32} {c : Nat} : oL og (c + 1) = oL og c ++ [(og c).toNatClampNeg] := by
  unfold oL
  rw [List.range_succ, List.map_append]
  rfl
theorem oL_cg {og og' : Nat → Int32} {c : Nat} (h : ∀ i, i < c → og' i = og i) : oL og' c = oL og c := by
  unfold oL
  refine List.map_congr_left (fun i hi => ?_)
  rw [h i (List.mem_range.mp hi)]
theorem oL_mem {og : Nat → Int32} {c f : Nat} : f ∈ oL og c ↔ ∃ i, i < c ∧ (og i).toNatClampNeg = f := by
  unfold oL
  rw [List.mem_map]
  exact ⟨fun ⟨i, h1, h2⟩ => ⟨i, List.mem_range.mp h1, h2⟩, fun ⟨i, h1, h2⟩ => ⟨i, List.mem_range.mpr h1, h2⟩⟩
/-- places i to i + k - 1 -/
def oR (og : Nat → Int32) (i k : Nat) : List Nat := (List.range' i k).map (fun j => (og j).toNatClampNeg)
theorem oR_succ {og : Nat → Int32} {i k : Nat} : oR og i (k + 1) = (og i).toNatClampNeg :: oR og (i + 1) k := rfl
theorem oR_cg {og og' : Nat → Int32} {i k : Nat} (h : ∀ j, i ≤ j → og' j = og j) : oR og' i k = oR og i k := by
  unfold oR
  refine List.map_congr_left (fun j hj => ?_)
  rw [h j (List.mem_range'_1.mp hj).1]
theorem oL_oR {og : Nat → Int32} {c : Nat} : oL og c = oR og 0 c := by
  unfold oL oR
  rw [List.range_eq_range']
theorem lv_gen {f : Nat} (hf : f < 48) : ∀ (k i d : Nat) (og : Nat → Int32), d ≤ i → (∀ j, i ≤ j → j < i + k → ¬ og j < 0) → oL (lvF (nI f) k i d og) (lvN (nI f) k i d og) = oL og d ++ (oR og i k).filter (fun x => !(x == f)) := by
  intro k
  induction k with
  | zero =>
    intro i d og hd hn
    show oL og d = oL og d ++ _
    rw [show oR og i 0 = [] from rfl, List.filter_nil, List.append_nil]
  | succ k ih =>
    intro i d og hd hn
    rw [oR_succ]
    by_cases e : og i = nI f
    · have e2 : (og i).toNatClampNeg = f := by rw [e, nI_clamp (show f < 2 ^ 31 by omega)]
      rw [show lvF (nI f) (k + 1) i d og = lvF (nI f) k (i + 1) d og from if_pos e, show lvN (nI f) (k + 1) i d og = lvN (nI f) k (i + 1) d og from if_pos e, ih (i + 1) d og (by omega) (fun j h1 h2 => hn j (by omega) (by omega)), e2]
      simp
    · have e2 : ¬ (og i).toNatClampNeg = f := fun z => e (by rw [← z]; exact nI_cl (hn i (by omega) (by omega)))
      rw [show lvF (nI f) (k + 1) i d og = lvF (nI f) k (i + 1) (d + 1) (upd og d (og i)) from if_neg e, show lvN (nI f) (k + 1) i d og = lvN (nI f) k (i + 1) (d + 1) (upd og d (og i)) from if_neg e]
      rw [ih (i + 1) (d + 1) (upd og d (og i)) (by omega) (fun j h1 h2 => by rw [pk_un (by omega)]; exact hn j (by omega) (by omega))]
      rw [oR_cg (og := og) (fun j hj => pk_un (by omega)), oL_succ, pk_us, oL_cg (og := og) (fun j hj => pk_un (by omega))]
      rw [List.filter_cons_of_pos (by simpa using e2), List.append_assoc]
      rfl
theorem lv_oL {og : Nat → Int32} {c f : Nat} (hf : f < 48) (hn : ∀ j, j < c → ¬ og j < 0) : oL (lvF (nI f) c 0 0 og) (lvN (nI f) c 0 0 og) = (oL og c).filter (fun x => !(x == f)) := by
  rw [lv_gen hf c 0 0 og (Nat.le_refl _) (fun j _ h => hn j (by omega)), ← oL_oR]
  rfl
theorem lv_nn {x : Int32} {P : Int32 → Prop} : ∀ (k i d : Nat) (og : Nat → Int32), d ≤ i → (∀ j, j < d → P (og j)) → (∀ j, i ≤ j → j < i + k → P (og j)) → ∀ j, j < lvN x k i d og → P (lvF x k i d og j) := by
  intro k
  induction k with
  | zero => intro i d og hd h1 h2 j hj; exact h1 j hj
  | succ k ih =>
    intro i d og hd h1 h2 j hj
    by_cases e : og i = x
    · rw [show lvF x (k + 1) i d og = lvF x k (i + 1) d og from if_pos e]
      rw [show lvN x (k + 1) i d og = lvN x k (i + 1) d og from if_pos e] at hj
      exact ih (i + 1) d og (by omega) h1 (fun j a b => h2 j (by omega) (by omega)) j hj
    · rw [show lvF x (k + 1) i d og = lvF x k (i + 1) (d + 1) (upd og d (og i)) from if_neg e]
      rw [show lvN x (k + 1) i d og = lvN x k (i + 1) (d + 1) (upd og d (og i)) from if_neg e] at hj
      refine ih (i + 1) (d + 1) (upd og d (og i)) (by omega) (fun j hj => ?_) (fun j a b => ?_) j hj
      · by_cases z : j = d
        · rw [z, pk_us]; exact h2 i (by omega) (by omega)
        · rw [pk_un z]; exact h1 j (by omega)
      · rw [pk_un (by omega)]; exact h2 j (by omega) (by omega)
theorem in_pt {ff pf lf : Nat → Int32} {b n : Nat} : ∀ (a : Nat) (og : Nat → Int32) (j : Nat), inF ff pf lf b n a og j = if inA ff pf lf b n a og < j ∧ j ≤ a then og (j - 1) else og j := by
  intro a
  induction a with
  | zero =>
    intro og j
    show og j = _
    rw [if_neg (by omega)]
  | succ a ih =>
    intro og j
    by_cases e : mcF ff pf lf b n (og a).toNatClampNeg ≤ 0
    · rw [show inF ff pf lf b n (a + 1) og = og from if_pos e, show inA ff pf lf b n (a + 1) og = a + 1 from if_pos e, if_neg (by omega)]
    · rw [show inF ff pf lf b n (a + 1) og = inF ff pf lf b n a (upd og (a + 1) (og a)) from if_neg e, show inA ff pf lf b n (a + 1) og = inA ff pf lf b n a (upd og (a + 1) (og a)) from if_neg e, ih]
      have hle := inA_le ff pf lf b n a (upd og (a + 1) (og a))
      generalize inA ff pf lf b n a (upd og (a + 1) (og a)) = p at hle
      by_cases h1 : j = a + 1
      · subst h1
        rw [if_neg (by omega), pk_us, if_pos (by omega)]
        rfl
      · by_cases h2 : p < j ∧ j ≤ a
        · rw [if_pos h2, if_pos (by omega), pk_un (by omega)]
        · rw [if_neg h2, if_neg (by omega), pk_un h1]
/-- a FILE put in at its place -/
theorem in_oL {ff pf lf : Nat → Int32} {b n c f : Nat} {og : Nat → Int32} (hf : f < 48) : oL (upd (inF ff pf lf b n c og) (inA ff pf lf b n c og) (nI f)) (c + 1) = (oL og c).take (inA ff pf lf b n c og) ++ f :: (oL og c).drop (inA ff pf lf b n c og) := by
  have hle := inA_le ff pf lf b n c og
  have hpt := in_pt (ff := ff) (pf := pf) (lf := lf) (b := b) (n := n) c og
  generalize inA ff pf lf b n c og = p at hle hpt
  refine List.ext_getElem? (fun i => ?_)
  by_cases hi : i < c + 1
  · rw [oL_get hi]
    by_cases h1 : i < p
    · rw [List.getElem?_append_left (by rw [List.length_take, oL_len]; omega), List.getElem?_take_of_lt h1, oL_get (by omega), pk_un (by omega), hpt, if_neg (by omega)]
    · rw [List.getElem?_append_right (by rw [List.length_take, oL_len]; omega), List.length_take, oL_len, Nat.min_eq_left hle]
      by_cases h2 : i = p
      · subst h2
        rw [pk_us, nI_clamp (show f < 2 ^ 31 by omega), Nat.sub_self]
        rfl
      · rw [show i - p = (i - p - 1) + 1 by omega, List.getElem?_cons_succ, List.getElem?_drop, show p + (i - p - 1) = i - 1 by omega, oL_get (by omega), pk_un (by omega), hpt, if_pos (by omega)]
  · rw [List.getElem?_eq_none (by rw [oL_len]; omega), List.getElem?_eq_none (by simp [oL_len]; omega)]
theorem in_nn {ff pf lf : Nat → Int32} {b n c f : Nat} {og : Nat → Int32} {P : Int32 → Prop} (hf : P (nI f)) (h : ∀ j, j < c → P (og j)) : ∀ j, j < c + 1 → P (upd (inF ff pf lf b n c og) (inA ff pf lf b n c og) (nI f) j) := by
  intro j hj
  have hle := inA_le ff pf lf b n c og
  by_cases e : j = inA ff pf lf b n c og
  · rw [e, pk_us]; exact hf
  · rw [pk_un e, in_pt]
    split
    · exact h _ (by omega)
    · exact h _ (by omega)
theorem mfnd_c {ff pf lf og : Nat → Int32} {b n : Nat} : ∀ (k i : Nat), mfnd ff pf lf og b n k i = -1 ∨ ∃ j, i ≤ j ∧ j < i + k ∧ mfnd ff pf lf og b n k i = og j ∧ mcF ff pf lf b n (og j).toNatClampNeg = 0 := by
  intro k
  induction k with
  | zero => intro i; exact Or.inl rfl
  | succ k ih =>
    intro i
    by_cases e : mcF ff pf lf b n (og i).toNatClampNeg = 0
    · exact Or.inr ⟨i, Nat.le_refl _, by omega, if_pos e, e⟩
    · rw [show mfnd ff pf lf og b n (k + 1) i = mfnd ff pf lf og b n k (i + 1) from if_neg e]
      rcases ih (i + 1) with h | ⟨j, h1, h2, h3⟩
      · exact Or.inl h
      · exact Or.inr ⟨j, by omega, by omega, h3⟩
theorem frN_le {us : Nat → Int32} : ∀ (k i : Nat), (∃ j, i ≤ j ∧ j < i + k ∧ us j = 0) → frN us k i < i + k ∧ us (frN us k i) = 0 := by
  intro k
  induction k with
  | zero => intro i ⟨j, h1, h2, _⟩; omega
  | succ k ih =>
    intro i ⟨j, h1, h2, h3⟩
    by_cases e : us i = 0
    · rw [show frN us (k + 1) i = i from if_pos e]
      exact ⟨by omega, e⟩
    · rw [show frN us (k + 1) i = frN us k (i + 1) from if_neg e]
      have hij : ¬ j = i := fun z => e (z ▸ h3)
      have := ih (i + 1) ⟨j, by omega, by omega, h3⟩
      exact ⟨by omega, this.2⟩
/-- a list of different numbers below N is no longer than N -/
theorem nd_len : ∀ (N : Nat) (l : List Nat), l.Nodup → (∀ x ∈ l, x < N) → l.length ≤ N := by
  intro N
  induction N with
  | zero =>
    intro l _ h
    cases l with
    | nil => exact Nat.le_refl _
    | cons a t => exact absurd (h a List.mem_cons_self) (by omega)
  | succ N ih =>
    intro l hl h
    by_cases hm : N ∈ l
    · have h1 := ih (l.erase N) (hl.erase N) (fun x hx => by
        have h2 := (hl.mem_erase_iff).mp hx
        have h3 := h x h2.2
        have h4 := h2.1
        omega)
      rw [List.length_erase_of_mem hm] at h1
      omega
    · have h1 := ih l hl (fun x hx => by
        have h3 := h x hx
        have h4 : ¬ x = N := fun z => hm (z ▸ hx)
        omega)
      omega
/-- a number below N that is not in a short list -/
theorem nd_free (N : Nat) (l : List Nat) (h : l.length < N) : ∃ x, x < N ∧ ¬ x ∈ l := by
  refine Classical.byContradiction (fun z => ?_)
  have h1 : ∀ x, x < N → x ∈ l := fun x hx => Classical.byContradiction (fun y => z ⟨x, hx, y⟩)
  have h2 : ∀ (M : Nat) (l : List Nat), (∀ x, x < M → x ∈ l) → M ≤ l.length := by
    intro M
    induction M with
    | zero => intro l _; exact Nat.zero_le _
    | succ M ih =>
      intro l hl
      have hm := hl M (by omega)
      have h3 := ih (l.erase M) (fun x hx => (List.mem_erase_of_ne (by omega)).mpr (hl x (by omega)))
      rw [List.length_erase_of_mem hm] at h3
      have h4 := List.length_pos_of_mem hm
      omega
  have := h2 N l h1
  omega


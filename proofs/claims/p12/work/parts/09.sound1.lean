/-! THE ENGINE IS SOUND: what holds over handles holds over the machine. Handle 0 is at b (the script), handle i > 0 at base + i. -/
def ax_ad (base b i : Nat) : Nat := if i = 0 then b else base + i
def ax_tv (base b : Nat) : Value → Value
  | .ref i => .ref (ax_ad base b i)
  | v => v
def ax_ta (base b : Nat) : vp_A → vp_A
  | (n, .inl f) => (n, .inl f)
  | (n, .inr (.inl f)) => (n, .inr (.inl f))
  | (n, .inr (.inr (.inl f))) => (n, .inr (.inr (.inl f)))
  | (n, .inr (.inr (.inr (.inl f)))) => (n, .inr (.inr (.inr (.inl f))))
  | (n, .inr (.inr (.inr (.inr f)))) => (n, .inr (.inr (.inr (.inr (fun j => (f j).map (ax_ad base b))))))
def ax_te (base b : Nat) (dA : Nat → ClassId) : va_E → va_E
  | .inl (t, x) => .inl (dA t, ax_ta base b x)
  | .inr (ci, fs) => .inr (ci, fs.map (ax_tv base b))
def ax_tl (base b : Nat) (q : Nat × Value) : Nat × Value := (q.1, ax_tv base b q.2)
theorem ax_ad_pos {base b a : Nat} (h : 0 < a) : ax_ad base b a = base + a := if_neg (by omega)
theorem ax_tv_cat (base b : Nat) (v : Value) : (ax_tv base b v).category = v.category := by cases v <;> rfl
theorem ax_tv_rf (base b : Nat) (r : Option Nat) : ax_tv base b (va_rf r) = va_rf (r.map (ax_ad base b)) := by cases r <;> rfl
theorem ax_cats (base b : Nat) (st : List Value) : ((st.map (ax_tv base b)).map fun v => v.category) = st.map fun v => v.category := by
  rw [List.map_map]
  exact List.map_congr_left (fun v _ => ax_tv_cat base b v)
theorem ax_slots (base b : Nat) (st : List Value) : (lg_sl (st.map (ax_tv base b))).length = (lg_sl st).length := by
  induction st with
  | nil => rfl
  | cons v t ih =>
    have h : ∀ (w : Value) (r : List Value), (lg_sl (w :: r)).length = (if w.category = 2 then 2 else 1) + (lg_sl r).length := by
      intro w r
      unfold lg_sl
      rw [List.flatMap_cons, List.length_append]
      split <;> rfl
    rw [List.map_cons, h, h, ih, ax_tv_cat]
theorem ax_argsT (base b : Nat) : ∀ (i : Nat) (vs : List Value), lv_args i (vs.map (ax_tv base b)) = (lv_args i vs).map (ax_tl base b)
  | _, [] => rfl
  | i, v :: vs => by
    show (i, ax_tv base b v) :: lv_args (if (ax_tv base b v).category = 2 then i + 2 else i + 1) (vs.map (ax_tv base b)) = (i, ax_tv base b v) :: (lv_args (if v.category = 2 then i + 2 else i + 1) vs).map (ax_tl base b)
    rw [ax_tv_cat, ax_argsT]
theorem ax_lk_mem : ∀ {ls : List (Nat × Value)} {i : Nat} {v : Value}, ax_lk ls i = some v → (i, v) ∈ ls
  | [], _, _, h => by cases h
  | q :: t, i, v, h => by
    unfold ax_lk at h
    by_cases hq : q.1 = i
    · rw [if_pos hq] at h
      cases h
      subst hq
      exact List.mem_cons_self
    · rw [if_neg hq] at h
      exact List.mem_cons_of_mem _ (ax_lk_mem h)
theorem ax_lkI_s {ls : List (Nat × Value)} {i : Nat} {x : Int32} (h : ax_lkI ls i = some x) : ax_lk ls i = some (.int x) := by
  unfold ax_lkI at h
  split at h
  · next y e => rw [e]; cases h; rfl
  · cases h
theorem ax_lkL_s {ls : List (Nat × Value)} {i : Nat} {x : Int64} (h : ax_lkL ls i = some x) : ax_lk ls i = some (.long x) := by
  unfold ax_lkL at h
  split at h
  · next y e => rw [e]; cases h; rfl
  · cases h
theorem ax_lkR_s {ls : List (Nat × Value)} {i x : Nat} (h : ax_lkR ls i = some x) : ax_lk ls i = some (.ref x) := by
  unfold ax_lkR at h
  split at h
  · next y e => rw [e]; cases h; rfl
  · cases h
theorem ax_lv {base b nL i : Nat} {ls : Array Slot} {lv : List (Nat × Value)} {v : Value} (h : lv_has ls nL (lv.map (ax_tl base b))) (hv : ax_lk lv i = some v) : ls[i]? = some (.val (ax_tv base b v)) :=
  h.2.2 (i, ax_tv base b v) (List.mem_map.mpr ⟨(i, v), ax_lk_mem hv, rfl⟩)
theorem ax_lvk {base b i : Nat} {lv : List (Nat × Value)} {v : Value} (hv : ax_lk lv i = some v) : ∃ k : Nat, (lv.map (ax_tl base b))[k]? = some (i, ax_tv base b v) :=
  List.getElem?_of_mem (List.mem_map.mpr ⟨(i, v), ax_lk_mem hv, rfl⟩)
theorem ax_si_mem {i : Nat} {v : Value} : ∀ {l : List (Nat × Value)} {q : Nat × Value}, q ∈ ax_si l i v → q = (i, v) ∨ q ∈ l
  | [], q, h => Or.inl (List.mem_singleton.mp h)
  | x :: t, q, h => by
    unfold ax_si at h
    split at h
    · rcases List.mem_cons.mp h with e | h
      · exact Or.inr (List.mem_cons.mpr (Or.inl e))
      · rcases ax_si_mem h with e | h
        · exact Or.inl e
        · exact Or.inr (List.mem_cons_of_mem _ h)
    · rcases List.mem_cons.mp h with e | h
      · exact Or.inl e
      · exact Or.inr h
theorem ax_st1T {base b i nL : Nat} {ls : Array Slot} {lv : List (Nat × Value)} {v : Value} (h : lv_has ls nL ((i, ax_tv base b v) :: (lv.map (ax_tl base b)).filter (fun q => !(q.1 == i) && !(q.1 + 1 == i && q.2.category == 2)))) : lv_has ls nL ((ax_st1 lv i v).map (ax_tl base b)) := by
  refine ⟨h.1, h.2.1, fun q hq => ?_⟩
  obtain ⟨x, hx, rfl⟩ := List.mem_map.mp hq
  rcases ax_si_mem hx with e | hx
  · subst e
    exact h.2.2 _ List.mem_cons_self
  · obtain ⟨h1, h2⟩ := List.mem_filter.mp hx
    refine h.2.2 _ (List.mem_cons_of_mem _ (List.mem_filter.mpr ⟨List.mem_map.mpr ⟨x, h1, rfl⟩, ?_⟩))
    show (!(x.1 == i) && !(x.1 + 1 == i && (ax_tv base b x.2).category == 2)) = true
    rw [ax_tv_cat]
    exact h2
theorem ax_st2T {base b i nL : Nat} {ls : Array Slot} {lv : List (Nat × Value)} {v : Value} (h : lv_has ls nL ((i, ax_tv base b v) :: (lv.map (ax_tl base b)).filter (fun q => !(q.1 == i) && (!(q.1 == i + 1) && !(q.1 + 1 == i && q.2.category == 2))))) : lv_has ls nL ((ax_st2 lv i v).map (ax_tl base b)) := by
  refine ⟨h.1, h.2.1, fun q hq => ?_⟩
  obtain ⟨x, hx, rfl⟩ := List.mem_map.mp hq
  rcases ax_si_mem hx with e | hx
  · subst e
    exact h.2.2 _ List.mem_cons_self
  · obtain ⟨h1, h2⟩ := List.mem_filter.mp hx
    refine h.2.2 _ (List.mem_cons_of_mem _ (List.mem_filter.mpr ⟨List.mem_map.mpr ⟨x, h1, rfl⟩, ?_⟩))
    show (!(x.1 == i) && (!(x.1 == i + 1) && !(x.1 + 1 == i && (ax_tv base b x.2).category == 2))) = true
    rw [ax_tv_cat]
    exact h2
-- what a pop says
theorem ax_pI_s {st : List Value} {x : Int32} {r : List Value} (h : ax_pI st = some (x, r)) : st = .int x :: r := by
  unfold ax_pI at h
  split at h <;> cases h
  rfl
theorem ax_pL_s {st : List Value} {x : Int64} {r : List Value} (h : ax_pL st = some (x, r)) : st = .long x :: r := by
  unfold ax_pL at h
  split at h <;> cases h
  rfl
theorem ax_pR_s {st : List Value} {x : Nat} {r : List Value} (h : ax_pR st = some (x, r)) : st = .ref x :: r := by
  unfold ax_pR at h
  split at h <;> cases h
  rfl
theorem ax_pV_s {st : List Value} {x : Value} {r : List Value} (h : ax_pV st = some (x, r)) : st = x :: r := by
  unfold ax_pV at h
  split at h <;> cases h
  rfl
theorem ax_p2_s {st : List Value} {y x : Int32} {r : List Value} (h : ax_p2 st = some (y, x, r)) : st = .int y :: .int x :: r := by
  unfold ax_p2 at h
  obtain ⟨⟨a1, a2⟩, ha, h⟩ := Option.bind_eq_some_iff.mp h
  obtain ⟨⟨b1, b2⟩, hb, h⟩ := Option.bind_eq_some_iff.mp h
  cases h
  have e2 : a2 = _ := ax_pI_s hb
  rw [ax_pI_s ha, e2]
theorem ax_pLL_s {st : List Value} {y x : Int64} {r : List Value} (h : ax_pLL st = some (y, x, r)) : st = .long y :: .long x :: r := by
  unfold ax_pLL at h
  obtain ⟨⟨a1, a2⟩, ha, h⟩ := Option.bind_eq_some_iff.mp h
  obtain ⟨⟨b1, b2⟩, hb, h⟩ := Option.bind_eq_some_iff.mp h
  cases h
  have e2 : a2 = _ := ax_pL_s hb
  rw [ax_pL_s ha, e2]
theorem ax_pIL_s {st : List Value} {y : Int32} {x : Int64} {r : List Value} (h : ax_pIL st = some (y, x, r)) : st = .int y :: .long x :: r := by
  unfold ax_pIL at h
  obtain ⟨⟨a1, a2⟩, ha, h⟩ := Option.bind_eq_some_iff.mp h
  obtain ⟨⟨b1, b2⟩, hb, h⟩ := Option.bind_eq_some_iff.mp h
  cases h
  have e2 : a2 = _ := ax_pL_s hb
  rw [ax_pI_s ha, e2]
theorem ax_pIR_s {st : List Value} {y : Int32} {x : Nat} {r : List Value} (h : ax_pIR st = some (y, x, r)) : st = .int y :: .ref x :: r := by
  unfold ax_pIR at h
  obtain ⟨⟨a1, a2⟩, ha, h⟩ := Option.bind_eq_some_iff.mp h
  obtain ⟨⟨b1, b2⟩, hb, h⟩ := Option.bind_eq_some_iff.mp h
  cases h
  have e2 : a2 = _ := ax_pR_s hb
  rw [ax_pI_s ha, e2]
theorem ax_pIIR_s {st : List Value} {x i : Int32} {a : Nat} {r : List Value} (h : ax_pIIR st = some (x, i, a, r)) : st = .int x :: .int i :: .ref a :: r := by
  unfold ax_pIIR at h
  obtain ⟨⟨a1, a2⟩, ha, h⟩ := Option.bind_eq_some_iff.mp h
  obtain ⟨⟨b1, b2, b3⟩, hb, h⟩ := Option.bind_eq_some_iff.mp h
  cases h
  have e2 : a2 = _ := ax_pIR_s hb
  rw [ax_pI_s ha, e2]
theorem ax_pRIR_s {st : List Value} {x : Nat} {i : Int32} {a : Nat} {r : List Value} (h : ax_pRIR st = some (x, i, a, r)) : st = .ref x :: .int i :: .ref a :: r := by
  unfold ax_pRIR at h
  obtain ⟨⟨a1, a2⟩, ha, h⟩ := Option.bind_eq_some_iff.mp h
  obtain ⟨⟨b1, b2, b3⟩, hb, h⟩ := Option.bind_eq_some_iff.mp h
  cases h
  have e2 : a2 = _ := ax_pIR_s hb
  rw [ax_pR_s ha, e2]
theorem ax_pVR_s {st : List Value} {x : Value} {a : Nat} {r : List Value} (h : ax_pVR st = some (x, a, r)) : st = x :: .ref a :: r := by
  unfold ax_pVR at h
  obtain ⟨⟨a1, a2⟩, ha, h⟩ := Option.bind_eq_some_iff.mp h
  obtain ⟨⟨b1, b2⟩, hb, h⟩ := Option.bind_eq_some_iff.mp h
  cases h
  have e2 : a2 = _ := ax_pR_s hb
  rw [ax_pV_s ha, e2]
theorem ax_pVV_s {st : List Value} {x y : Value} {r : List Value} (h : ax_pVV st = some (x, y, r)) : st = x :: y :: r := by
  unfold ax_pVV at h
  obtain ⟨⟨a1, a2⟩, ha, h⟩ := Option.bind_eq_some_iff.mp h
  obtain ⟨⟨b1, b2⟩, hb, h⟩ := Option.bind_eq_some_iff.mp h
  cases h
  have e2 : a2 = _ := ax_pV_s hb
  rw [ax_pV_s ha, e2]
theorem ax_pVVV_s {st : List Value} {x y z : Value} {r : List Value} (h : ax_pVVV st = some (x, y, z, r)) : st = x :: y :: z :: r := by
  unfold ax_pVVV at h
  obtain ⟨⟨a1, a2⟩, ha, h⟩ := Option.bind_eq_some_iff.mp h
  obtain ⟨⟨b1, b2, b3⟩, hb, h⟩ := Option.bind_eq_some_iff.mp h
  cases h
  have e2 : a2 = _ := ax_pVV_s hb
  rw [ax_pV_s ha, e2]
theorem ax_pC_s {st : List Value} {n dp sp : Int32} {d a : Nat} {r : List Value} (h : ax_pC st = some (n, dp, d, sp, a, r)) : st = .int n :: .int dp :: .ref d :: .int sp :: .ref a :: r := by
  unfold ax_pC at h
  obtain ⟨⟨a1, a2⟩, ha, h⟩ := Option.bind_eq_some_iff.mp h
  obtain ⟨⟨b1, b2, b3⟩, hb, h⟩ := Option.bind_eq_some_iff.mp h
  obtain ⟨⟨c1, c2, c3⟩, hc, h⟩ := Option.bind_eq_some_iff.mp h
  cases h
  have e2 : a2 = _ := ax_pIR_s hb
  have e3 : b3 = _ := ax_pIR_s hc
  rw [ax_pI_s ha, e2, e3]
theorem ax_pN_s {st : List Value} {n : Nat} {as r : List Value} (h : ax_pN st n = some (as, r)) : st = as.reverse ++ r ∧ as.length = n := by
  unfold ax_pN at h
  split at h
  · next hn =>
    cases h
    exact ⟨by rw [List.reverse_reverse, List.take_append_drop], by rw [List.length_reverse, List.length_take]; omega⟩
  · cases h
theorem ax_o_s {α : Type} {q : Option α} {k : α → ax_O} {P : ax_S → ax_Po → Prop} {h0 : ax_H} {post : ax_Po} (h : ax_F (ax_o q k) P h0 post) : ∃ a, q = some a ∧ ax_F (k a) P h0 post := by
  cases q with
  | none => exact h.1.elim
  | some a => exact ⟨a, rfl, h⟩
-- what a look at the heap says
theorem ax_g_s {h : ax_H} {a : Nat} {e : va_E} (q : ax_g h a = some e) : 0 < a ∧ a < h.1 ∧ h.2.2 a = e := by
  unfold ax_g at q
  split at q
  · next hn => cases q; exact ⟨hn.1, hn.2, rfl⟩
  · cases q
theorem ax_go_s {h : ax_H} {a ci : Nat} {fs : List Value} (q : ax_go h a ci = some fs) : ax_g h a = some (.inr (ci, fs)) := by
  unfold ax_go at q
  split at q
  · next c f e =>
    split at q
    · next hc => cases q; subst hc; exact e
    · cases q
  · cases q
theorem ax_gi_s {h : ax_H} {a t n : Nat} {f : Nat → Int32} (q : ax_gi h a t = some (n, f)) : ax_g h a = some (.inl (t, n, .inl f)) := by
  unfold ax_gi at q
  split at q
  · next t' n' f' e =>
    split at q
    · next hc => cases q; subst hc; exact e
    · cases q
  · cases q
theorem ax_gq_s {h : ax_H} {a t n : Nat} {f : Nat → Option Nat} (q : ax_gq h a = some (t, n, f)) : ax_g h a = some (.inl (t, n, .inr (.inr (.inr (.inr f))))) := by
  unfold ax_gq at q
  split at q
  · next t' n' f' e => cases q; exact e
  · cases q
theorem ax_gn_s {h : ax_H} {a t n : Nat} (q : ax_gn h a = some (t, n)) : ∃ x : vp_A, x.1 = n ∧ ax_g h a = some (.inl (t, x)) := by
  unfold ax_gn at q
  split at q
  · next t' x e => cases q; exact ⟨x, rfl, e⟩
  · cases q
theorem ax_ta_1 (base b : Nat) (x : vp_A) : (ax_ta base b x).1 = x.1 := by
  obtain ⟨n, f | f | f | f | f⟩ := x <;> rfl
-- the heap as it stands
def ax_R (D : va_G) (dA : Nat → ClassId) (base b : Nat) (h : ax_H) (H : Heap) : Prop := H.size = base + h.1 ∧ ∀ i, 0 < i → i < h.1 → va_at D axt_cl (base + i, ax_te base b dA (h.2.2 i)) H
theorem ax_R.at {D : va_G} {dA : Nat → ClassId} {base b : Nat} {h : ax_H} {H : Heap} (hR : ax_R D dA base b h H) {a : Nat} {e : va_E} (q : ax_g h a = some e) : va_at D axt_cl (ax_ad base b a, ax_te base b dA e) H := by
  obtain ⟨h1, h2, h3⟩ := ax_g_s q
  have := hR.2 a h1 h2
  rw [h3] at this
  rw [ax_ad_pos h1]
  exact this
theorem ax_R.P {D : va_G} {dA : Nat → ClassId} {base b : Nat} {h : ax_H} {H : Heap} (hR : ax_R D dA base b h H) {a : Nat} {e : va_E} (q : ax_g h a = some e) : va_P D axt_cl [(ax_ad base b a, ax_te base b dA e)] H := by
  intro k x hk
  cases k with
  | zero => cases hk; exact hR.at q
  | succ k => cases hk
theorem ax_R.set {D : va_G} {dA : Nat → ClassId} {base b : Nat} {h : ax_H} {H H1 : Heap} (hR : ax_R D dA base b h H) {a : Nat} {e e' : va_E} (q : ax_g h a = some e) (he : va_at D axt_cl (ax_ad base b a, ax_te base b dA e') H1) (hz : H1.size = H.size) (oq : ∀ x, x ≠ ax_ad base b a → H1[x]? = H[x]?) : ax_R D dA base b (ax_put h a e') H1 := by
  obtain ⟨h1, h2, h3⟩ := ax_g_s q
  rw [ax_ad_pos h1] at he oq
  refine ⟨by rw [hz]; exact hR.1, fun i hi hl => ?_⟩
  show va_at D axt_cl (base + i, ax_te base b dA (if i = a then e' else h.2.2 i)) H1
  by_cases hia : i = a
  · subst hia
    rw [if_pos rfl]
    exact he
  · rw [if_neg hia]
    exact (hR.2 i hi hl).kept (oq _ (by show base + i ≠ base + a; omega))
theorem ax_R.push {D : va_G} {dA : Nat → ClassId} {base b : Nat} {h : ax_H} {H H1 : Heap} (hR : ax_R D dA base b h H) {n : Nat} {e : va_E} (he : va_at D axt_cl (H.size, ax_te base b dA e) H1) (hz : H1.size = H.size + 1) (oq : ∀ x, x < H.size → H1[x]? = H[x]?) : ax_R D dA base b (ax_push h n e) H1 := by
  refine ⟨by rw [hz, hR.1]; rfl, fun i hi hl => ?_⟩
  show va_at D axt_cl (base + i, ax_te base b dA (if i = h.1 then e else h.2.2 i)) H1
  by_cases hia : i = h.1
  · subst hia
    rw [if_pos rfl, ← hR.1]
    exact he
  · rw [if_neg hia]
    have hl' : i < h.1 + 1 := hl
    exact (hR.2 i hi (by omega)).kept (oq _ (by rw [hR.1]; show base + i < base + h.1; omega))
-- the tables, as they stand
def ax_tys (dA : Nat → ClassId) : List (ClassId × FieldType) := (List.range axt_tys.length).map (fun t => (dA t, axt_tys.getD t .int))
theorem ax_tys_at {dA : Nat → ClassId} {t : Nat} {ty : FieldType} (h : axt_tys[t]? = some ty) : (ax_tys dA)[t]? = some (dA t, ty) := by
  have hl : t < axt_tys.length := (List.getElem?_eq_some_iff.mp h).1
  unfold ax_tys
  rw [List.getElem?_map, List.getElem?_range hl]
  show some (dA t, axt_tys.getD t .int) = _
  rw [List.getD_eq_getElem?_getD, h]
  rfl
def ax_K (D : va_G) (dA : Nat → ClassId) (U : State) : Prop := va_K D axt_cl (ax_tys dA) U ∧ (∀ q ∈ axt_nf, va_Nw (.fieldLinkNest q.1 q.2.1 q.2.2.1 q.2.2.2.1 q.2.2.2.2.1 q.2.2.2.2.2) U) ∧ (∀ q ∈ axt_nm, va_Nw (.methodLinkNest q.1 q.2.1 q.2.2.1 q.2.2.2) U) ∧ (∀ C ∈ axt_ao, va_AO C U)
theorem ax_K.warm {D : va_G} {dA : Nat → ClassId} {s U : State} (hW : s.WarmedH U.vm) (h : ax_K D dA s) : ax_K D dA U := ⟨va_K.moved hW.alike h.1, fun q hq => va_Nw.warmF hW (h.2.1 q hq), fun q hq => va_Nw.warmM hW (h.2.2.1 q hq), fun q hq => (h.2.2.2 q hq).moved hW.alike⟩
theorem ax_K.same {D : va_G} {dA : Nat → ClassId} {s U : State} (hv : s.vm = U.vm) (h : ax_K D dA s) : ax_K D dA U := ⟨va_K.moved (hv ▸ Vm.Alike.refl s.vm) h.1, fun q hq => va_Nw.same rfl hv (h.2.1 q hq), fun q hq => va_Nw.same rfl hv (h.2.2.1 q hq), fun q hq => (h.2.2.2 q hq).moved (hv ▸ Vm.Alike.refl s.vm)⟩
/-- the frame of method mi, with fr frames and lo words of locals left -/
def ax_C (p : Program) (R : Room) (s : State) (m : MethodId) (args : Array Value) (meth : Method) (c : Code) (D : va_G) (dA : Nat → ClassId) (mi fr lo : Nat) : Prop :=
  p.tables.exec = Jvm.exec ∧ c.code = axt_b mi ∧ c.maxLocals = axt_mx mi ∧ s.vm.findClass (axt_on (axt_ow mi)) = some m.cls ∧ (∀ w ∈ axt_ts, w.before args s = true) ∧ meth.sig.returnType = axt_rt mi ∧ meth.locks = false ∧ (mi < axt_n → meth.name = (axt_y mi).name) ∧ ax_K D dA s ∧ fr ≤ R.frames ∧ lo ≤ R.locals ∧ mi ≤ axt_n
def ax_G (p : Program) (l : Launch) (e : Env) (R : Room) (s : State) (m : MethodId) (args : Array Value) (below : List Frame) (meth : Method) (c : Code) (D : va_G) (dA : Nat → ClassId) (base b L : Nat) (xs : Nat → Int32) (Q : State → Prop) (n0 s0 : Nat) (t : ax_S) : Prop :=
  ∀ (H : Heap) (locs : List Loc) (ls : Array Slot), n0 ≤ t.2.2.2.1 → s0 ≤ t.2.2.2.2.1 → ax_R D dA base b t.2.2.2 H → va_X b L xs s H → (∀ q, q ≤ base → H[q]? = s.heap[q]?) → lv_has ls (axt_mx t.1.1) (t.2.1.map (ax_tl base b)) → (∀ q ∈ locs, base < q.base) →
    W p l e R s m args below meth c H locs (t.2.2.2.1 - n0) (t.2.2.2.2.1 - s0) Q (F0 m t.1.2.1 ls (t.2.2.1.map (ax_tv base b)))
/-- an instruction is sound -/
def ax_I (ins : Jvm.ClassFile.Instr) : Prop := ∀ {p : Program} {l : Launch} {e : Env} {R : Room} {s : State} {m : MethodId} {args : Array Value} {below : List Frame} {meth : Method} {c : Code} {D : va_G} {dA : Nat → ClassId} {base b L : Nat} {xs : Nat → Int32} {Q : State → Prop} {n0 s0 : Nat} {P : ax_S → ax_Po → Prop} {post : ax_Po} {mi pc fr lo len : Nat} {lv : List (Nat × Value)} {st : List Value} {h : ax_H},
  b ≤ base → 0 < n0 → ax_C p R s m args meth c D dA mi fr lo → decode (axt_b mi) pc = .ok (ins, len) → (∀ v h', post v h' → h'.1 - n0 ≤ R.cells ∧ h'.2.1 - s0 ≤ R.slots) → (∀ t, P t post → ∃ v h', post v h' ∧ ax_le t.2.2.2 h') →
  ax_F (ax_ins L xs ins len (mi, pc, fr, lo) lv st h) P h post → (∀ t, P t post → t.1.1 = mi → t.1.2.2 = (fr, lo) → ax_G p l e R s m args below meth c D dA base b L xs Q n0 s0 t) → ax_G p l e R s m args below meth c D dA base b L xs Q n0 s0 ((mi, pc, fr, lo), lv, st, h)


/-! a state with more locals does what one with fewer does -/
def ax_ml (lv : List (Nat × Value)) (o : ax_O) : ax_O := (o.1, match o.2 with
  | .inl s => .inl (s.1, lv, s.2.2)
  | .inr (.inl r) => .inr (.inl r)
  | .inr (.inr (ce, k)) => .inr (.inr (ce, fun v h => ((k v h).1, lv, (k v h).2.2))))
theorem ax_ml_o {α : Type} {lv : List (Nat × Value)} {q : Option α} {k : α → ax_O} : ax_ml lv (ax_o q k) = ax_o q (fun a => ax_ml lv (k a)) := by cases q <;> rfl
theorem ax_ml_o2 {α : Type} {lv : List (Nat × Value)} {q : Option α} {k : α → ax_O} {z : ax_O} : ax_ml lv (ax_o2 q k z) = ax_o2 q (fun a => ax_ml lv (k a)) (ax_ml lv z) := by cases q <;> rfl
theorem ax_ml_if {c : Prop} [Decidable c] {lv : List (Nat × Value)} {a b : ax_O} : ax_ml lv (if c then a else b) = if c then ax_ml lv a else ax_ml lv b := by split <;> rfl
theorem ax_ml_ifs {c g : Prop} [Decidable c] {lv : List (Nat × Value)} {a b : ax_S} : ax_ml lv (g, .inl (if c then a else b)) = (g, .inl (if c then (a.1, lv, a.2.2) else (b.1, lv, b.2.2))) := by split <;> rfl
/-- these look at the locals -/
def ax_looks : Jvm.ClassFile.Instr → Bool
  | .iload _ | .iload_n _ | .lload _ | .lload_n _ | .aload _ | .aload_n _ | .istore _ | .istore_n _ | .lstore _ | .lstore_n _ | .astore _ | .astore_n _ | .iinc _ _ => true
  | _ => false
theorem ax_inv_ml {kd : Nat} {c : Nat × Nat × Nat × Nat} {lv lv' : List (Nat × Value)} {st : List Value} {h : ax_H} {q : Nat × Nat × Nat} : ax_inv kd c lv' st h q = ax_ml lv' (ax_inv kd c lv st h q) := by
  unfold ax_inv
  simp only [ax_ml_if, ax_ml_o]
  rfl
theorem ax_ins_ml {L : Nat} {xs : Nat → Int32} {ins : Jvm.ClassFile.Instr} {len : Nat} {c : Nat × Nat × Nat × Nat} {lv lv' : List (Nat × Value)} {st : List Value} {h : ax_H} (hi : ax_looks ins = false) : ax_ins L xs ins len c lv' st h = ax_ml lv' (ax_ins L xs ins len c lv st h) := by
  cases ins <;> first
    | exact Bool.noConfusion hi
    | rfl
    | (simp only [ax_ins, ax_ml_if, ax_ml_o, ax_ml_o2, ax_ml_ifs]; rfl)
    | (simp only [ax_ins, ax_ml_if, ax_ml_o, ax_ml_o2, ax_ml_ifs, ← ax_inv_ml (lv := lv) (lv' := lv')]; done)
    | (simp only [ax_ins, ax_ml_if, ax_ml_o]; congr 1; congr 1; funext q; exact ax_inv_ml)
def ax_sb (lv lv' : List (Nat × Value)) : Prop := (∀ q ∈ lv, q ∈ lv') ∧ (lv'.map (·.1)).Nodup
theorem ax_lk_of : ∀ {lv : List (Nat × Value)} {i : Nat} {v : Value}, (lv.map (·.1)).Nodup → (i, v) ∈ lv → ax_lk lv i = some v
  | [], _, _, _, h => by cases h
  | q :: t, i, v, hn, h => by
    rw [List.map_cons, List.nodup_cons] at hn
    unfold ax_lk
    rcases List.mem_cons.mp h with e | h
    · subst e
      exact if_pos rfl
    · rw [if_neg]
      · exact ax_lk_of hn.2 h
      · intro e
        exact hn.1 (List.mem_map.mpr ⟨(i, v), h, e.symm⟩)
theorem ax_sb.lk {lv lv' : List (Nat × Value)} (hs : ax_sb lv lv') {i : Nat} {v : Value} (h : ax_lk lv i = some v) : ax_lk lv' i = some v := ax_lk_of hs.2 (hs.1 _ (ax_lk_mem h))
theorem ax_si_in {i : Nat} {v : Value} : ∀ {l : List (Nat × Value)} {q : Nat × Value}, q = (i, v) ∨ q ∈ l → q ∈ ax_si l i v
  | [], q, h => by
    rcases h with e | h
    · exact List.mem_singleton.mpr e
    · cases h
  | x :: t, q, h => by
    unfold ax_si
    split
    · rcases h with e | h
      · exact List.mem_cons_of_mem _ (ax_si_in (Or.inl e))
      · rcases List.mem_cons.mp h with e | h
        · exact List.mem_cons.mpr (Or.inl e)
        · exact List.mem_cons_of_mem _ (ax_si_in (Or.inr h))
    · rcases h with e | h
      · exact List.mem_cons.mpr (Or.inl e)
      · exact List.mem_cons_of_mem _ h
theorem ax_si_nd {i : Nat} {v : Value} : ∀ {l : List (Nat × Value)}, (l.map (·.1)).Nodup → (∀ q ∈ l, q.1 ≠ i) → ((ax_si l i v).map (·.1)).Nodup
  | [], _, _ => by simp [ax_si]
  | x :: t, hn, hi => by
    have hn' := hn
    rw [List.map_cons, List.nodup_cons] at hn
    unfold ax_si
    split
    · rw [List.map_cons, List.nodup_cons]
      refine ⟨fun h => ?_, ax_si_nd hn.2 (fun q hq => hi q (List.mem_cons_of_mem _ hq))⟩
      obtain ⟨q, hq, e⟩ := List.mem_map.mp h
      rcases ax_si_mem hq with e2 | hq
      · subst e2
        exact hi x List.mem_cons_self e.symm
      · exact hn.1 (List.mem_map.mpr ⟨q, hq, e⟩)
    · rw [List.map_cons, List.nodup_cons]
      refine ⟨fun h => ?_, hn'⟩
      obtain ⟨q, hq, e⟩ := List.mem_map.mp h
      exact hi q hq e
theorem ax_nd_filter {p : Nat × Value → Bool} {l : List (Nat × Value)} (h : (l.map (·.1)).Nodup) : ((l.filter p).map (·.1)).Nodup := h.sublist ((List.filter_sublist).map _)
theorem ax_sb.st1 {lv lv' : List (Nat × Value)} (hs : ax_sb lv lv') (i : Nat) (v : Value) : ax_sb (ax_st1 lv i v) (ax_st1 lv' i v) := by
  refine ⟨fun q hq => ?_, ax_si_nd (ax_nd_filter hs.2) (fun q hq e => ?_)⟩
  · rcases ax_si_mem hq with e | hq
    · exact ax_si_in (Or.inl e)
    · obtain ⟨a, b⟩ := List.mem_filter.mp hq
      exact ax_si_in (Or.inr (List.mem_filter.mpr ⟨hs.1 _ a, b⟩))
  · have b := (List.mem_filter.mp hq).2
    subst e
    simp at b
theorem ax_sb.st2 {lv lv' : List (Nat × Value)} (hs : ax_sb lv lv') (i : Nat) (v : Value) : ax_sb (ax_st2 lv i v) (ax_st2 lv' i v) := by
  refine ⟨fun q hq => ?_, ax_si_nd (ax_nd_filter hs.2) (fun q hq e => ?_)⟩
  · rcases ax_si_mem hq with e | hq
    · exact ax_si_in (Or.inl e)
    · obtain ⟨a, b⟩ := List.mem_filter.mp hq
      exact ax_si_in (Or.inr (List.mem_filter.mpr ⟨hs.1 _ a, b⟩))
  · have b := (List.mem_filter.mp hq).2
    subst e
    simp at b
theorem ax_sb.lkI {lv lv' : List (Nat × Value)} (hs : ax_sb lv lv') {i : Nat} {v : Int32} (h : ax_lkI lv i = some v) : ax_lkI lv' i = some v := by
  unfold ax_lkI
  rw [hs.lk (ax_lkI_s h)]
theorem ax_sb.lkL {lv lv' : List (Nat × Value)} (hs : ax_sb lv lv') {i : Nat} {v : Int64} (h : ax_lkL lv i = some v) : ax_lkL lv' i = some v := by
  unfold ax_lkL
  rw [hs.lk (ax_lkL_s h)]
theorem ax_sb.lkR {lv lv' : List (Nat × Value)} (hs : ax_sb lv lv') {i v : Nat} (h : ax_lkR lv i = some v) : ax_lkR lv' i = some v := by
  unfold ax_lkR
  rw [hs.lk (ax_lkR_s h)]
theorem ax_F_ml {P : ax_S → ax_Po → Prop} {h0 : ax_H} {post : ax_Po} {o : ax_O} {lv lv' : List (Nat × Value)} (hP : ∀ (c : Nat × Nat × Nat × Nat) (st : List Value) (h : ax_H) (r : ax_Po), P (c, lv, st, h) r → P (c, lv', st, h) r) (hM : ∀ s (r r' : ax_Po), (∀ v h, r v h → r' v h) → P s r → P s r') (ho : o = ax_ml lv o) (h : ax_F o P h0 post) : ax_F (ax_ml lv' o) P h0 post := by
  rw [ho] at h
  obtain ⟨g, o⟩ := o
  obtain ⟨h1, h2⟩ := h
  refine ⟨h1, ?_⟩
  rcases o with s' | ⟨v, h⟩ | ⟨ce, k⟩
  · exact ⟨h2.1, hP _ _ _ _ h2.2⟩
  · exact h2
  · exact ⟨h2.1, hM _ _ _ (fun v h q => ⟨q.1, hP _ _ _ _ q.2⟩) h2.2⟩
theorem ax_wp.wk {L : Nat} {xs : Nat → Int32} : ∀ (n : Nat) (c : Nat × Nat × Nat × Nat) (lv lv' : List (Nat × Value)) (st : List Value) (h : ax_H) (post : ax_Po), ax_sb lv lv' → ax_wp (ax_step L xs) n (c, lv, st, h) post → ax_wp (ax_step L xs) n (c, lv', st, h) post
  | 0, _, _, _, _, _, _, _, hw => hw
  | n + 1, c, lv, lv', st, h, post, hs, hw => by
    have ih := fun (c : Nat × Nat × Nat × Nat) (lv lv' : List (Nat × Value)) (st : List Value) (h : ax_H) (r : ax_Po) (hs : ax_sb lv lv') (q : ax_wp (ax_step L xs) n (c, lv, st, h) r) => ax_wp.wk n c lv lv' st h r hs q
    have hw : ax_F (ax_step L xs (c, lv, st, h)) (ax_wp (ax_step L xs) n) h post := hw
    show ax_F (ax_step L xs (c, lv', st, h)) (ax_wp (ax_step L xs) n) h post
    have e1 : ∀ l, ax_step L xs (c, l, st, h) = (match decode (axt_b c.1) c.2.1 with | .ok q => ax_ins L xs q.1 q.2 c l st h | .error _ => ax_no) := fun _ => rfl
    rw [e1] at hw ⊢
    cases hd : decode (axt_b c.1) c.2.1 with
    | error x => rw [hd] at hw; exact hw.1.elim
    | ok q =>
      obtain ⟨ins, len⟩ := q
      rw [hd] at hw
      have hw : ax_F (ax_ins L xs ins len c lv st h) (ax_wp (ax_step L xs) n) h post := hw
      show ax_F (ax_ins L xs ins len c lv' st h) (ax_wp (ax_step L xs) n) h post
      by_cases hi : ax_looks ins = false
      · rw [ax_ins_ml (lv := lv) (lv' := lv') hi]
        exact ax_F_ml (lv := lv) (fun c st h r q => ih c lv lv' st h r hs q) (fun s r r' hr q => ax_wp.post n s r r' hr q) (ax_ins_ml (lv := lv) (lv' := lv) hi) hw
      · cases ins with
        | iload i =>
          obtain ⟨v, hv, hw⟩ := ax_o_s (q := ax_lkI lv i) hw
          obtain ⟨g, l, hw⟩ := ax_F_i hw
          have e := ar_o (k := fun v => ((len = 2, .inl (ax_nx c 2 lv' (.int v :: st) h)) : ax_O)) (hs.lkI hv)
          show ax_F (ax_o (ax_lkI lv' i) (fun v => ((len = 2, .inl (ax_nx c 2 lv' (.int v :: st) h)) : ax_O))) _ h post
          rw [e]
          exact ⟨g, l, ih _ _ _ _ _ _ hs hw⟩
        | iload_n i =>
          obtain ⟨v, hv, hw⟩ := ax_o_s (q := ax_lkI lv i) hw
          obtain ⟨g, l, hw⟩ := ax_F_i hw
          have e := ar_o (k := fun v => ((len = 1, .inl (ax_nx c 1 lv' (.int v :: st) h)) : ax_O)) (hs.lkI hv)
          show ax_F (ax_o (ax_lkI lv' i) (fun v => ((len = 1, .inl (ax_nx c 1 lv' (.int v :: st) h)) : ax_O))) _ h post
          rw [e]
          exact ⟨g, l, ih _ _ _ _ _ _ hs hw⟩
        | lload i =>
          obtain ⟨v, hv, hw⟩ := ax_o_s (q := ax_lkL lv i) hw
          obtain ⟨g, l, hw⟩ := ax_F_i hw
          have e := ar_o (k := fun v => ((len = 2, .inl (ax_nx c 2 lv' (.long v :: st) h)) : ax_O)) (hs.lkL hv)
          show ax_F (ax_o (ax_lkL lv' i) (fun v => ((len = 2, .inl (ax_nx c 2 lv' (.long v :: st) h)) : ax_O))) _ h post
          rw [e]
          exact ⟨g, l, ih _ _ _ _ _ _ hs hw⟩
        | lload_n i =>
          obtain ⟨v, hv, hw⟩ := ax_o_s (q := ax_lkL lv i) hw
          obtain ⟨g, l, hw⟩ := ax_F_i hw
          have e := ar_o (k := fun v => ((len = 1, .inl (ax_nx c 1 lv' (.long v :: st) h)) : ax_O)) (hs.lkL hv)
          show ax_F (ax_o (ax_lkL lv' i) (fun v => ((len = 1, .inl (ax_nx c 1 lv' (.long v :: st) h)) : ax_O))) _ h post
          rw [e]
          exact ⟨g, l, ih _ _ _ _ _ _ hs hw⟩
        | aload i =>
          obtain ⟨v, hv, hw⟩ := ax_o_s (q := ax_lkR lv i) hw
          obtain ⟨g, l, hw⟩ := ax_F_i hw
          have e := ar_o (k := fun v => ((len = 2, .inl (ax_nx c 2 lv' (.ref v :: st) h)) : ax_O)) (hs.lkR hv)
          show ax_F (ax_o (ax_lkR lv' i) (fun v => ((len = 2, .inl (ax_nx c 2 lv' (.ref v :: st) h)) : ax_O))) _ h post
          rw [e]
          exact ⟨g, l, ih _ _ _ _ _ _ hs hw⟩
        | aload_n i =>
          obtain ⟨v, hv, hw⟩ := ax_o_s (q := ax_lkR lv i) hw
          obtain ⟨g, l, hw⟩ := ax_F_i hw
          have e := ar_o (k := fun v => ((len = 1, .inl (ax_nx c 1 lv' (.ref v :: st) h)) : ax_O)) (hs.lkR hv)
          show ax_F (ax_o (ax_lkR lv' i) (fun v => ((len = 1, .inl (ax_nx c 1 lv' (.ref v :: st) h)) : ax_O))) _ h post
          rw [e]
          exact ⟨g, l, ih _ _ _ _ _ _ hs hw⟩
        | istore i =>
          obtain ⟨q, hq, hw⟩ := ax_o_s (q := ax_pI st) hw
          obtain ⟨g, l, hw⟩ := ax_F_i hw
          show ax_F (ax_o (ax_pI st) (fun q => (((len = 2 ∧ i < axt_mx c.1), .inl (ax_nx c 2 (ax_st1 lv' i (.int q.1)) q.2 h)) : ax_O))) _ h post
          rw [hq]
          exact ⟨g, l, ih _ _ _ _ _ _ (hs.st1 _ _) hw⟩
        | istore_n i =>
          obtain ⟨q, hq, hw⟩ := ax_o_s (q := ax_pI st) hw
          obtain ⟨g, l, hw⟩ := ax_F_i hw
          show ax_F (ax_o (ax_pI st) (fun q => (((len = 1 ∧ (i : Nat) < axt_mx c.1), .inl (ax_nx c 1 (ax_st1 lv' i (.int q.1)) q.2 h)) : ax_O))) _ h post
          rw [hq]
          exact ⟨g, l, ih _ _ _ _ _ _ (hs.st1 _ _) hw⟩
        | lstore i =>
          obtain ⟨q, hq, hw⟩ := ax_o_s (q := ax_pL st) hw
          obtain ⟨g, l, hw⟩ := ax_F_i hw
          show ax_F (ax_o (ax_pL st) (fun q => (((len = 2 ∧ i + 1 < axt_mx c.1), .inl (ax_nx c 2 (ax_st2 lv' i (.long q.1)) q.2 h)) : ax_O))) _ h post
          rw [hq]
          exact ⟨g, l, ih _ _ _ _ _ _ (hs.st2 _ _) hw⟩
        | lstore_n i =>
          obtain ⟨q, hq, hw⟩ := ax_o_s (q := ax_pL st) hw
          obtain ⟨g, l, hw⟩ := ax_F_i hw
          show ax_F (ax_o (ax_pL st) (fun q => (((len = 1 ∧ (i : Nat) + 1 < axt_mx c.1), .inl (ax_nx c 1 (ax_st2 lv' i (.long q.1)) q.2 h)) : ax_O))) _ h post
          rw [hq]
          exact ⟨g, l, ih _ _ _ _ _ _ (hs.st2 _ _) hw⟩
        | astore i =>
          obtain ⟨q, hq, hw⟩ := ax_o_s (q := ax_pR st) hw
          obtain ⟨g, l, hw⟩ := ax_F_i hw
          show ax_F (ax_o (ax_pR st) (fun q => (((len = 2 ∧ i < axt_mx c.1), .inl (ax_nx c 2 (ax_st1 lv' i (.ref q.1)) q.2 h)) : ax_O))) _ h post
          rw [hq]
          exact ⟨g, l, ih _ _ _ _ _ _ (hs.st1 _ _) hw⟩
        | astore_n i =>
          obtain ⟨q, hq, hw⟩ := ax_o_s (q := ax_pR st) hw
          obtain ⟨g, l, hw⟩ := ax_F_i hw
          show ax_F (ax_o (ax_pR st) (fun q => (((len = 1 ∧ (i : Nat) < axt_mx c.1), .inl (ax_nx c 1 (ax_st1 lv' i (.ref q.1)) q.2 h)) : ax_O))) _ h post
          rw [hq]
          exact ⟨g, l, ih _ _ _ _ _ _ (hs.st1 _ _) hw⟩
        | iinc i k =>
          obtain ⟨v, hv, hw⟩ := ax_o_s (q := ax_lkI lv i) hw
          obtain ⟨g, l, hw⟩ := ax_F_i hw
          show ax_F (ax_o (ax_lkI lv' i) (fun v => (((len = 3 ∧ i < axt_mx c.1), .inl (ax_nx c 3 (ax_st1 lv' i (.int (v + Int32.ofInt k))) st h)) : ax_O))) _ h post
          rw [hs.lkI hv]
          exact ⟨g, l, ih _ _ _ _ _ _ (hs.st1 _ _) hw⟩
        | _ => exact absurd rfl hi
/-- fewer locals, by their places -/
theorem ar_wk {L : Nat} {xs : Nat → Int32} {c : Nat × Nat × Nat × Nat} {lv lv' : List (Nat × Value)} {st : List Value} {h : ax_H} {post : ax_Po} (ks : List Nat) (hs : lv_pick lv' ks = lv) (hn : (lv'.map (·.1)).Nodup) (k : ax_A (ax_step L xs) (c, lv, st, h) post) : ax_A (ax_step L xs) (c, lv', st, h) post := by
  obtain ⟨n, hn'⟩ := k
  refine ⟨n, ax_wp.wk n c lv lv' st h post ⟨fun q hq => ?_, hn⟩ hn'⟩
  rw [← hs] at hq
  obtain ⟨i, -, hi⟩ := List.mem_filterMap.mp hq
  exact List.mem_of_getElem? hi


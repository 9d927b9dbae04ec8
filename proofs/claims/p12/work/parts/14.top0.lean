def R_law : String := "StripedStoreLaw"
def lw_P (b : Addr) (xs : List Int32) (args : Array Value) (s : State) : Prop := args = #[.ref b] ∧ s.IntsAt b xs ∧ xs.length ≤ 3075 ∧ (Jvm.Cond.and given_1 narrow_1).before args s = true
def lw_Q (_ : Array Value) (s : State) (o : Outcome) (t : State) : Prop := o = .returned (some (.int 1)) ∧ Framed s o t [] 600000 7302250
def lw_Z (below : List Frame) (a : Array Value) (s : State) : State → Prop := fun t => ∃ o, t.status = .running ∧ Ended t below o ∧ lw_Q a s o t
/-- the law's own end, with 1 on the stack, nothing written that was there before, its room as the claim has it -/
theorem lw_ret {p : Program} {l : Launch} {e : Env} {s : State} {m : MethodId} {below : List Frame} {meth : Method} {c : Code} {b : Nat} (hx : p.tables.exec = Jvm.exec) (hb : c.code = code) (hr : meth.sig.returnType = ret) (hlocks : meth.locks = false) {pc : Nat} {H : Heap} {ls : Array Slot} (hdg : decode code pc = .ok (.ireturn, 1)) : W p l e room_1 s m #[Value.ref b] below meth c H [] 600000 7302250 (lw_Z below #[Value.ref b] s) (F0 m pc ls [.int 1]) := by
  intro T hT X
  obtain ⟨fs, hret, hrun, hended, hW, hframe⟩ := X.leave (v := some (.int 1)) (hlocks := hlocks) (fun h => by rw [hr] at h; cases h)
  have hmeth' : T.vm.method? m = some meth := X.method'
  refine ⟨T.setFrames fs, ?_, .returned (some (.int 1)), hrun, hended, rfl, ⟨_, rfl⟩, hW, hframe⟩
  jvm_step X.here [X.here.top, hx, hb, hdg, hmeth', hr, ret, narrow_b1]
  (try refine ⟨rfl, ?_⟩); (try refine ⟨rfl, ?_⟩)
  first | (intro acts; rw [hret _ acts rfl rfl rfl]) | rw [hret _ _ rfl rfl rfl]
  exact Steps.refl _
/-- what holds at the law's entry: the machine, the code, the tables' words (any of lw_tbl by 'hts w (by decide +kernel)'), the script of L ints xs at the cell b, what the Statement gives of the start (any of its parts by flat_of_before) -/
def lw_At (p : Program) (s : State) (m : MethodId) (meth : Method) (c : Code) (b L : Nat) (xs : Nat → Int32) : Prop :=
  p.tables.exec = Jvm.exec ∧ c.code = code ∧ meth.sig.returnType = ret ∧ c.maxLocals = 4 ∧ s.vm.findClass R_law = some m.cls ∧ (∀ w ∈ lw_tbl, w.before #[Value.ref b] s = true) ∧ va_X b L xs s s.heap ∧ b < s.heap.size ∧ meth.locks = false ∧ (Jvm.Cond.and given_1 narrow_1).before #[Value.ref b] s = true
/-! FROM THE ENGINE TO THE LAW -/
theorem axt_cl_inst {ci : Nat} {r : vw_C} (h : axt_cl[ci]? = some r) : Cond.instantiable r.1 r.2.2 ∈ axt_ts := by
  match ci, h with
  | 0, h => cases h; exact axt_in 91 (by decide +kernel) rfl
  | 1, h => cases h; exact axt_in 99 (by decide +kernel) rfl
  | 2, h => cases h; exact axt_in 106 (by decide +kernel) rfl
  | 3, h => cases h; exact axt_in 182 (by decide +kernel) rfl
  | 4, h => cases h; exact axt_in 224 (by decide +kernel) rfl
  | 5, h => cases h; exact axt_in 231 (by decide +kernel) rfl
  | 6, h => cases h; exact axt_in 338 (by decide +kernel) rfl
  | 7, h => cases h; exact axt_in 399 (by decide +kernel) rfl
  | 8, h => cases h; exact axt_in 405 (by decide +kernel) rfl
  | 9, h => cases h; exact axt_in 433 (by decide +kernel) rfl
  | 10, h => cases h; exact axt_in 441 (by decide +kernel) rfl
  | 11, h => cases h; exact axt_in 1283 (by decide +kernel) rfl
  | n + 12, h => simp [axt_cl] at h
theorem ax_known {s : State} {b : Nat} (hts : ∀ w ∈ axt_ts, w.before #[Value.ref b] s = true) : ∃ D : va_G, ∀ (k : Nat) (q : vw_C), axt_cl[k]? = some q → u_Kn s q.1 q.2.1 q.2.2 (D.1 k) (D.2 k) := by
  have h : ∀ k : Nat, ∃ x : ClassId × (Nat → Nat), ∀ q : vw_C, axt_cl[k]? = some q → u_Kn s q.1 q.2.1 q.2.2 x.1 x.2 := by
    intro k
    cases hk : axt_cl[k]? with
    | none => exact ⟨(0, fun _ => 0), fun q e => by cases e⟩
    | some q =>
      obtain ⟨cC, iS, hK⟩ := u_known hts (axt_cl_in hk) (hts _ (axt_cl_inst hk))
      exact ⟨(cC, iS), fun q' e => by cases e; exact hK⟩
  exact ⟨(fun k => (Classical.choose (h k)).1, fun k => (Classical.choose (h k)).2), fun k q e => Classical.choose_spec (h k) q e⟩
theorem ax_prim {s : State} {b : Nat} {ty : FieldType} (h : (Cond.arrayClass ty).before #[Value.ref b] s = true) : ∃ c : ClassId, ArrOfT s c ty ∧ s.vm.findClass ("[" ++ ty.toString) = some c := by
  obtain ⟨c, k, comp, h1, h2, h3⟩ := Cond.arrayClass_spec h
  exact ⟨c, fun n z => ⟨fun k h => (by cases h), k, h2, comp, h3⟩, h1⟩
theorem ax_over {s : State} {K : String} (h : va_AO K s) : ∃ c : ClassId, ArrOfT s c (.object K) ∧ va_RA s c (.object K) := by
  obtain ⟨comp, c, k, h1, h2, h3, h4, h5⟩ := Cond.arrayOver_spec (va_AO.use (A := #[]) h)
  exact ⟨c, fun n z => ⟨fun k h => (by cases h), k, h3, comp, h4⟩, k, comp, h3, h4, h1, h5⟩
theorem ax_arrs {s : State} {b : Nat} (hts : ∀ w ∈ axt_ts, w.before #[Value.ref b] s = true) (hao : ∀ C ∈ axt_ao, va_AO C s) : ∃ dA : Nat → ClassId, ∀ (k : Nat) (q : ClassId × FieldType), (ax_tys dA)[k]? = some q → ArrOfT s q.1 q.2 ∧ va_RA s q.1 q.2 := by
  have h : ∀ t : Nat, ∃ c : ClassId, ∀ ty : FieldType, axt_tys[t]? = some ty → ArrOfT s c ty ∧ va_RA s c ty := by
    intro t
    match t with
    | 0 =>
      obtain ⟨c, h1, h2⟩ := ax_prim (hts _ axt_a0)
      exact ⟨c, fun ty e => by cases e; exact ⟨h1, h2⟩⟩
    | 1 =>
      obtain ⟨c, h1, h2⟩ := ax_prim (hts _ axt_a1)
      exact ⟨c, fun ty e => by cases e; exact ⟨h1, h2⟩⟩
    | 2 =>
      obtain ⟨c, h1, h2⟩ := ax_prim (hts _ axt_a2)
      exact ⟨c, fun ty e => by cases e; exact ⟨h1, h2⟩⟩
    | 3 =>
      obtain ⟨c, h1, h2⟩ := ax_over (hao "StripedStore$Message" (by decide))
      exact ⟨c, fun ty e => by cases e; exact ⟨h1, h2⟩⟩
    | 4 =>
      obtain ⟨c, h1, h2⟩ := ax_over (hao "StripedStore$Asked" (by decide))
      exact ⟨c, fun ty e => by cases e; exact ⟨h1, h2⟩⟩
    | 5 =>
      obtain ⟨c, h1, h2⟩ := ax_over (hao "StripedStore$Node" (by decide))
      exact ⟨c, fun ty e => by cases e; exact ⟨h1, h2⟩⟩
    | n + 6 => exact ⟨0, fun ty e => by simp [axt_tys] at e⟩
  refine ⟨fun t => Classical.choose (h t), fun k q e => ?_⟩
  have hl : k < axt_tys.length := by
    have := (List.getElem?_eq_some_iff.mp e).1
    simpa [ax_tys] using this
  have ht : axt_tys[k]? = some axt_tys[k] := List.getElem?_eq_getElem hl
  have e2 := ax_tys_at (dA := fun t => Classical.choose (h t)) ht
  cases e2.symm.trans e
  exact Classical.choose_spec (h k) _ ht
theorem ax_Wpost {p : Program} {l : Launch} {e : Env} {R : Room} {s : State} {m : MethodId} {args : Array Value} {below : List Frame} {meth : Method} {c : Code} {H : Heap} {locs : List Loc} {cells slots : Nat} {Q Q' : State → Prop} {g : JFrame} (k : W p l e R s m args below meth c H locs cells slots Q g) (h : ∀ t, Q t → Q' t) : W p l e R s m args below meth c H locs cells slots Q' g := fun T hT X => by
  obtain ⟨t, a1, b1⟩ := k T hT X
  exact ⟨t, a1, h t b1⟩
def ax_h0 : ax_H := (1, 0, fun _ => .inr (0, []))
set_option maxRecDepth 20000 in
theorem ax_law {p : Program} {e : Env} {s : State} {m : MethodId} {below : List Frame} {meth : Method} {c : Code} (l : Launch) {b L : Nat} {xs : Nat → Int32} (C0 : lw_At p s m meth c b L xs)
    (hA : ax_A (ax_step L xs) ((axt_n, 0, 11, 394), [(0, .ref 0)], [], ax_h0) (fun v h => v = some (.int 1) ∧ h.1 ≤ 600000 + 1 ∧ h.2.1 ≤ 7302250)) : W p l e room_1 s m #[Value.ref b] below meth c s.heap [] 0 0 (lw_Z below #[Value.ref b] s) (entryFrame m ([Value.ref b] : List Value).toArray 4) := by
  obtain ⟨hx, hb, hr, hml, hown, hts0, hX, hbl, hlocks, hgv⟩ := id C0
  have hts : ∀ w ∈ axt_ts, w.before #[Value.ref b] s = true := fun w hw => hts0 w (List.mem_filter.mp hw).1
  have hao : ∀ C ∈ axt_ao, va_AO C s := by
    intro C hC
    simp only [axt_ao, List.mem_cons, List.not_mem_nil, or_false] at hC
    rcases hC with rfl | rfl | rfl
    · exact va_AO.of (hts0 _ (List.mem_of_getElem? (i := 105) (by decide +kernel)))
    · exact va_AO.of (hts0 _ (List.mem_of_getElem? (i := 230) (by decide +kernel)))
    · exact va_AO.of (hts0 _ (List.mem_of_getElem? (i := 398) (by decide +kernel)))
  have hnm : ∀ q ∈ axt_nm, va_Nw (.methodLinkNest q.1 q.2.1 q.2.2.1 q.2.2.2) s := by
    intro q hq
    simp only [axt_nm, List.mem_cons, List.not_mem_nil, or_false] at hq
    rcases hq with rfl | rfl | rfl
    · exact va_Nw.of rfl (hts0 _ (List.mem_of_getElem? (i := 107) (by decide +kernel)))
    · exact va_Nw.of rfl (hts0 _ (List.mem_of_getElem? (i := 232) (by decide +kernel)))
    · exact va_Nw.of rfl (hts0 _ (List.mem_of_getElem? (i := 447) (by decide +kernel)))
  obtain ⟨D, hD⟩ := ax_known hts
  obtain ⟨dA, hdA⟩ := ax_arrs hts hao
  have hK : ax_K D dA s := ⟨⟨hD, hdA⟩, fun q hq => (by simp [axt_nf] at hq), hnm, hao⟩
  obtain ⟨n, hn⟩ := hA
  obtain ⟨v, h1, ⟨hv, hc1, hs1⟩, hle, hw⟩ := ax_wp.det n _ _ hn
  subst hv
  have hbs : s.heap.size = (s.heap.size - 1) + 1 := by omega
  generalize hB : s.heap.size - 1 = base at hbs
  have hbb : b ≤ base := by omega
  have hS := ax_sound l D dA base b L xs hbb n
  have hR : ax_R D dA base b ax_h0 s.heap := ⟨hbs, fun i hi hl => by
    have : i < 1 := hl
    omega⟩
  have hl := lv_entry ([.ref b]) (n := 4) (Nat.le_of_ble_eq_true rfl)
  rw [lg_entry_eq]
  generalize (lg_sl ([.ref b]) ++ List.replicate (4 - (lg_sl ([.ref b])).length) Slot.unset).toArray = ls at hl ⊢
  have hl : lv_has ls (axt_mx axt_n) ([(0, Value.ref 0)].map (ax_tl base b)) := hl
  have k := hS _ _ h1 hw (p := p) (e := e) (R := room_1) (s := s) (m := m) (args := #[Value.ref b]) (below := below) (meth := meth) (c := c) 1 0 (MQ below (fun _ _ o _ => o = .returned (some (.int 1))) #[Value.ref b] s (h1.1 - 1) (h1.2.1 - 0) (fun q => base < q)) (by decide)
    ⟨hx, hb, hml, hown, hts, hr, hlocks, fun h => absurd h (by show ¬ axt_n < axt_n; omega), hK, Nat.le_refl _, Nat.le_refl _, Nat.le_refl _⟩ (by show h1.1 - 1 ≤ 600000; omega) (by show h1.2.1 - 0 ≤ 7302250; omega)
    (fun v h' hv => ⟨_, by obtain ⟨rfl, rfl⟩ := hv; rfl, fun t _ _ _ => by obtain ⟨rfl, rfl⟩ := hv; rfl⟩)
    s.heap [] ls (Nat.le_refl _) (Nat.le_refl _) hR hX (fun _ _ => rfl) hl (fun q hq => by cases hq)
  refine ax_Wpost (W.cs ?_ ?_ k) ?_
  · rfl
  · rfl
  · intro t ht
    obtain ⟨o, r1, r2, r3, LL, ⟨f1, f2, f3⟩, f4⟩ := ht
    refine ⟨o, r1, r2, r3, f1, f2, ?_⟩
    exact f3.weaken (fun y hy hlt => absurd hlt (Nat.not_lt.mpr (by have := f4 y hy; omega))) (by omega) (by omega)


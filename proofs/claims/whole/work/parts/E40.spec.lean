/-! what OPERATIONS do, by IDS -/
def Sm (g : Nat → Nat) : Nat → Nat
  | 0 => 0
  | n + 1 => Sm g n + g n
theorem Sm_cg {g h : Nat → Nat} : ∀ {n : Nat}, (∀ i, i < n → g i = h i) → Sm g n = Sm h n
  | 0, _ => rfl
  | n + 1, H => by
    show Sm g n + g n = Sm h n + h n
    rw [Sm_cg (fun i hi => H i (by omega)), H n (by omega)]
theorem Sm_add (g h : Nat → Nat) : ∀ n : Nat, Sm (fun i => g i + h i) n = Sm g n + Sm h n
  | 0 => rfl
  | n + 1 => by
    show Sm _ n + (g n + h n) = Sm g n + g n + (Sm h n + h n)
    rw [Sm_add g h n]
    omega
theorem Sm_z {g : Nat → Nat} : ∀ {n : Nat}, (∀ i, i < n → g i = 0) → Sm g n = 0
  | 0, _ => rfl
  | n + 1, H => by
    show Sm g n + g n = 0
    rw [Sm_z (fun i hi => H i (by omega)), H n (by omega)]
theorem Sm_swap (G : Nat → Nat → Nat) (m : Nat) : ∀ n : Nat, Sm (fun i => Sm (G i) m) n = Sm (fun j => Sm (fun i => G i j) n) m
  | 0 => (Sm_z (fun _ _ => rfl)).symm
  | n + 1 => by
    show Sm _ n + Sm (G n) m = Sm (fun j => Sm (fun i => G i j) n + G n j) m
    rw [Sm_swap G m n, Sm_add]
theorem Sm_one {g : Nat → Nat} {a : Nat} : ∀ {n : Nat}, a < n → (∀ i, i < n → i ≠ a → g i = 0) → Sm g n = g a
  | 0, h, _ => absurd h (by omega)
  | n + 1, h, H => by
    show Sm g n + g n = g a
    by_cases e : a = n
    · subst e
      rw [Sm_z (fun i hi => H i (by omega) (by omega))]
      omega
    · rw [Sm_one (a := a) (by omega) (fun i hi => H i (by omega)), H n (by omega) (fun z => e z.symm)]
      omega
theorem Sm_upd {g h : Nat → Nat} {a : Nat} : ∀ {n : Nat}, a < n → (∀ i, i < n → i ≠ a → h i = g i) → Sm h n + g a = Sm g n + h a
  | 0, h, _ => absurd h (by omega)
  | n + 1, hl, H => by
    show Sm h n + h n + g a = Sm g n + g n + h a
    by_cases e : a = n
    · subst e
      rw [Sm_cg (g := h) (h := g) (fun i hi => H i (by omega) (by omega))]
      omega
    · have := Sm_upd (g := g) (h := h) (a := a) (n := n) (by omega) (fun i hi => H i (by omega))
      rw [H n (by omega) (fun z => e z.symm)]
      omega
theorem Sm_le {g h : Nat → Nat} : ∀ {n : Nat}, (∀ i, i < n → g i ≤ h i) → Sm g n ≤ Sm h n
  | 0, _ => Nat.le_refl _
  | n + 1, H => Nat.add_le_add (Sm_le (fun i hi => H i (by omega))) (H n (by omega))
theorem Sm_ge {g : Nat → Nat} {a : Nat} : ∀ {n : Nat}, a < n → g a ≤ Sm g n
  | 0, h => absurd h (by omega)
  | n + 1, h => by
    show g a ≤ Sm g n + g n
    by_cases e : a = n
    · subst e; omega
    · have := Sm_ge (g := g) (a := a) (n := n) (by omega)
      omega
/-- the same sum, by places and by IDS -/
theorem Sm_bij {g h : Nat → Nat} {N M : Nat} {jf : Nat → Int32} (hM : M < 2 ^ 31) (h1 : ∀ f, f < N → (g f = 0 ∧ ∀ i, i < M → ¬ jf f = nI i) ∨ ∃ i, i < M ∧ jf f = nI i ∧ g f = h i) (h2 : ∀ i, i < M → h i = 0 ∨ ∃ f, f < N ∧ jf f = nI i) (h3 : ∀ f f' i, f < N → f' < N → i < M → jf f = nI i → jf f' = nI i → f = f') : Sm g N = Sm h M := by
  have a1 : Sm g N = Sm (fun f => Sm (fun i => if jf f = nI i then h i else 0) M) N := Sm_cg (fun f hf => by
    rcases h1 f hf with ⟨e, hn⟩ | ⟨i, hi, e1, e2⟩
    · rw [e]
      exact (Sm_z (fun i hi => if_neg (hn i hi))).symm
    · rw [e2]
      refine ((Sm_one (g := fun i => if jf f = nI i then h i else 0) (a := i) hi (fun i' hi' hne => if_neg (fun z => hne ?_))).trans (if_pos e1)).symm
      rw [e1] at z
      exact (nI_inj (by omega) (by omega) z).symm)
  have a2 : Sm h M = Sm (fun i => Sm (fun f => if jf f = nI i then h i else 0) N) M := Sm_cg (fun i hi => by
    by_cases e : ∃ f, f < N ∧ jf f = nI i
    · obtain ⟨f, hf, e⟩ := e
      exact ((Sm_one (a := f) hf (fun f' hf' hne => if_neg (fun z => hne (h3 f' f i hf' hf hi z e)))).trans (if_pos e)).symm
    · rcases h2 i hi with z | z
      · rw [z]
        exact (Sm_z (fun f hf => by split <;> rfl)).symm
      · exact absurd z e)
  rw [a1, a2, Sm_swap]
/-- FILES by their IDS: which there are, how many bytes, NAMES, VERSIONS of STRIPES 0 to 18 and RECORD 19, the bytes -/
def TS : Type := (Nat → Bool) × (Nat → Nat) × (Nat → Nat) × (Nat → Nat → Int32) × (Nat → Nat → Int32) × (Nat → Nat → Int32)
abbrev TS.ex (h_ : TS) : Nat → Bool := h_.1
abbrev TS.sz (h_ : TS) : Nat → Nat := h_.2.1
abbrev TS.nl (h_ : TS) : Nat → Nat := h_.2.2.1
abbrev TS.nm (h_ : TS) : Nat → Nat → Int32 := h_.2.2.2.1
abbrev TS.vr (h_ : TS) : Nat → Nat → Int32 := h_.2.2.2.2.1
abbrev TS.dt (h_ : TS) : Nat → Nat → Int32 := h_.2.2.2.2.2
def T0 : TS := ⟨fun _ => false, fun _ => 0, fun _ => 0, fun _ _ => 0, fun _ _ => -1, fun _ _ => 0⟩
def fup {α : Type} (g : Nat → α) (k : Nat) (v : α) : Nat → α := fun j => if j = k then v else g j
theorem fup_s {α : Type} {g : Nat → α} {k : Nat} {v : α} : fup g k v k = v := if_pos rfl
theorem fup_n {α : Type} {g : Nat → α} {k j : Nat} {v : α} (h : j ≠ k) : fup g k v j = g j := if_neg h
def TS.cnt (T : TS) : Nat := Sm (fun i => if T.ex i = true then 1 else 0) 512
def TS.tot (T : TS) : Nat := Sm T.sz 512
def isNm (T : TS) (w : Nat → Int32) (p l i : Nat) : Prop := i < 512 ∧ T.ex i = true ∧ T.nl i = l ∧ ∀ x, x < 50 → T.nm i x = w (p + x)
/-- the FILE with a NAME -/
noncomputable def fdN (T : TS) (w : Nat → Int32) (p l : Nat) : Option Nat := @dite (Option Nat) (∃ i, isNm T w p l i) (Classical.propDecidable _) (fun h => some (Classical.choose h)) (fun _ => none)
def TS.mk1 (T : TS) (o : Nat) (w : Nat → Int32) (l : Nat) : TS := ⟨fup T.ex o true, T.sz, fup T.nl o l, fup T.nm o w, T.vr, T.dt⟩
def TS.rem (T : TS) (i : Nat) : TS := ⟨fup T.ex i false, fup T.sz i 0, T.nl, T.nm, fup T.vr i (fun _ => -1), fup T.dt i (fun _ => 0)⟩
def TS.nam (T : TS) (i : Nat) (w : Nat → Int32) (l : Nat) : TS := ⟨T.ex, T.sz, fup T.nl i l, fup T.nm i w, T.vr, T.dt⟩
def TS.siz (T : TS) (i z : Nat) : TS := ⟨T.ex, fup T.sz i z, T.nl, T.nm, T.vr, T.dt⟩
/-- the VERSIONS of the parts of FILE i for which P holds -/
def TS.ver (T : TS) (i : Nat) (P : Nat → Prop) [DecidablePred P] (v : Int32) : TS := ⟨T.ex, T.sz, T.nl, T.nm, fup T.vr i (fun p => if P p then v else T.vr i p), T.dt⟩
def TS.dat (T : TS) (i : Nat) (g : Nat → Int32) : TS := ⟨T.ex, T.sz, T.nl, T.nm, T.vr, fup T.dt i g⟩
def TS.rcd (T : TS) (i o : Nat) : TS := T.ver i (fun p => p = 19) (nI o)
/-- the bytes a to a + l - 1 of FILE i are written by OPERATION o -/
def TS.wrt (T : TS) (i a l o : Nat) (tp : Nat → Int32) : TS := if l = 0 then T.rcd i o else (((T.siz i (max (T.sz i) (a + l))).ver i (fun p => a / 448 ≤ p ∧ p ≤ (a + l - 1) / 448) (nI o)).rcd i o).dat i (fun y => if a ≤ y ∧ y < a + l then tp (y - a) else T.dt i y)
def TS.cut (T : TS) (i a o : Nat) : TS := ((((T.dat i (fun y => if y < a then T.dt i y else 0)).ver i (fun p => p < 19 ∧ a ≤ p * 448) (-1)).siz i a).ver i (fun p => p = a / 448 ∧ a < T.sz i ∧ ¬ a % 448 = 0 ∧ ¬ T.vr i p < 0) (nI o)).rcd i o
noncomputable def wrS (T : TS) (o : Nat) (w : Nat → Int32) (l0 l : Nat) (fi : Option Nat) (a : Nat) : Option (Nat × TS) := match fi with
  | none => if T.cnt = 48 ∨ 8192 < (if l = 0 then 0 else a + l) ∨ 32768 - T.tot < (if l = 0 then 0 else a + l) then none else some (l, (T.mk1 o (fun x => w x) l0).wrt o a l o (fun x => bytA w (400 + x)))
  | some i => if 8192 < T.sz i + (if l = 0 then 0 else a + l - T.sz i) ∨ 32768 - T.tot < (if l = 0 then 0 else a + l - T.sz i) then none else some (l, T.wrt i a l o (fun x => bytA w (400 + x)))
/-- what OPERATION o, asked for as m, answers and makes of T, if it has an effect -/
noncomputable def stp (T : TS) (o : Nat) (m : Mg) : Option (Nat × TS) :=
  if m.1 0 = 0 then (match fdN T m.2 0 (m.1 3).toNatClampNeg with
    | some _ => none
    | none => if T.cnt = 48 then none else some (0, (T.mk1 o (fun x => m.2 x) (m.1 3).toNatClampNeg).rcd o o))
  else if m.1 0 = 1 then wrS T o m.2 (m.1 3).toNatClampNeg (m.1 5).toNatClampNeg (fdN T m.2 0 (m.1 3).toNatClampNeg) (m.1 1).toNatClampNeg
  else if m.1 0 = 2 then wrS T o m.2 (m.1 3).toNatClampNeg (m.1 5).toNatClampNeg (fdN T m.2 0 (m.1 3).toNatClampNeg) (match fdN T m.2 0 (m.1 3).toNatClampNeg with | some i => T.sz i | none => 0)
  else if m.1 0 = 3 then (match fdN T m.2 0 (m.1 3).toNatClampNeg with
    | none => none
    | some i => if T.sz i + (32768 - T.tot) < (m.1 1).toNatClampNeg then none else some (T.sz i, T.cut i (m.1 1).toNatClampNeg o))
  else if m.1 0 = 5 then (match fdN T m.2 0 (m.1 3).toNatClampNeg with
    | none => none
    | some i => some (T.sz i, T.rem i))
  else if m.1 0 = 6 then (match fdN T m.2 0 (m.1 3).toNatClampNeg with
    | none => none
    | some i => (match fdN T m.2 50 (m.1 4).toNatClampNeg with
      | none => some (0, (T.nam i (fun x => m.2 (50 + x)) (m.1 4).toNatClampNeg).rcd i o)
      | some j => if j = i then some (0, T) else some (1, ((T.rem j).nam i (fun x => m.2 (50 + x)) (m.1 4).toNatClampNeg).rcd i o)))
  else if m.1 0 = 7 then (match fdN T m.2 0 (m.1 3).toNatClampNeg with
    | none => none
    | some i => (match fdN T m.2 50 (m.1 4).toNatClampNeg with
      | none => none
      | some j => if j = i then some (0, T) else some (0, (((T.nam i (fun x => m.2 (50 + x)) (m.1 4).toNatClampNeg).nam j (fun x => m.2 x) (m.1 3).toNatClampNeg).rcd i o).rcd j o)))
  else none
/-- the state before OPERATION k -/
noncomputable def tsp (ops : Nat → Mg) : Nat → TS
  | 0 => T0
  | k + 1 => match stp (tsp ops k) k (ops k) with | some x => x.2 | none => tsp ops k
/-- the latest OPERATION before k with an effect, and what it answered -/
noncomputable def efv (ops : Nat → Mg) : Nat → Int32
  | 0 => -1
  | k + 1 => match stp (tsp ops k) k (ops k) with | some _ => nI k | none => efv ops k
noncomputable def efA (ops : Nat → Mg) : Nat → Int32
  | 0 => 0
  | k + 1 => match stp (tsp ops k) k (ops k) with | some x => nI x.1 | none => efA ops k
/-- what is true of the state before OPERATION k -/
def TOK (T : TS) (k : Nat) : Prop :=
  (∀ i, T.ex i = true → i < k) ∧
  (∀ i, T.ex i = false → T.sz i = 0 ∧ ∀ p, T.vr i p = -1) ∧
  (∀ i, T.ex i = true → T.nl i ≤ 200) ∧
  (∀ i, T.sz i ≤ 8192) ∧
  (∀ i, T.ex i = true → ∃ v, v < k ∧ T.vr i 19 = nI v) ∧
  (∀ i p, T.vr i p = -1 ∨ ∃ v, v < k ∧ T.vr i p = nI v) ∧
  (∀ i p, p < 19 → ¬ T.vr i p = -1 → p * 448 < T.sz i) ∧
  (∀ i y, T.sz i ≤ y → T.dt i y = 0) ∧
  (T.tot ≤ 32768) ∧
  (T.cnt ≤ 48) ∧
  (∀ i j, T.ex i = true → T.ex j = true → T.nl i = T.nl j → (∀ x, x < 50 → T.nm i x = T.nm j x) → i = j)
theorem TOK.e1 {T : TS} {k : Nat} (h_ : TOK T k) : ∀ i, T.ex i = true → i < k := h_.1
theorem TOK.e2 {T : TS} {k : Nat} (h_ : TOK T k) : ∀ i, T.ex i = false → T.sz i = 0 ∧ ∀ p, T.vr i p = -1 := h_.2.1
theorem TOK.n1 {T : TS} {k : Nat} (h_ : TOK T k) : ∀ i, T.ex i = true → T.nl i ≤ 200 := h_.2.2.1
theorem TOK.z1 {T : TS} {k : Nat} (h_ : TOK T k) : ∀ i, T.sz i ≤ 8192 := h_.2.2.2.1
theorem TOK.r1 {T : TS} {k : Nat} (h_ : TOK T k) : ∀ i, T.ex i = true → ∃ v, v < k ∧ T.vr i 19 = nI v := h_.2.2.2.2.1
theorem TOK.v1 {T : TS} {k : Nat} (h_ : TOK T k) : ∀ i p, T.vr i p = -1 ∨ ∃ v, v < k ∧ T.vr i p = nI v := h_.2.2.2.2.2.1
theorem TOK.v2 {T : TS} {k : Nat} (h_ : TOK T k) : ∀ i p, p < 19 → ¬ T.vr i p = -1 → p * 448 < T.sz i := h_.2.2.2.2.2.2.1
theorem TOK.d1 {T : TS} {k : Nat} (h_ : TOK T k) : ∀ i y, T.sz i ≤ y → T.dt i y = 0 := h_.2.2.2.2.2.2.2.1
theorem TOK.t1 {T : TS} {k : Nat} (h_ : TOK T k) : T.tot ≤ 32768 := h_.2.2.2.2.2.2.2.2.1
theorem TOK.c1 {T : TS} {k : Nat} (h_ : TOK T k) : T.cnt ≤ 48 := h_.2.2.2.2.2.2.2.2.2.1
theorem TOK.u1 {T : TS} {k : Nat} (h_ : TOK T k) : ∀ i j, T.ex i = true → T.ex j = true → T.nl i = T.nl j → (∀ x, x < 50 → T.nm i x = T.nm j x) → i = j := h_.2.2.2.2.2.2.2.2.2.2
theorem T0_ok : TOK T0 0 := by
  refine ⟨?_, ?_, ?_, ?_, ?_, ?_, ?_, ?_, ?_, ?_, ?_⟩
  · intro i h
    cases h
  · intro i _
    exact ⟨rfl, fun _ => rfl⟩
  · intro i h
    cases h
  · intro i
    show 0 ≤ 8192; omega
  · intro i h
    cases h
  · intro i p
    exact Or.inl rfl
  · intro i p _ h
    exact absurd rfl h
  · intro i y _
    exact rfl
  · show Sm (fun _ => 0) 512 ≤ _; rw [Sm_z (fun _ _ => rfl)]; omega
  · show Sm (fun _ => _) 512 ≤ _; rw [Sm_z (fun i _ => if_neg (by show ¬ false = true; decide))]; omega
  · intro i j h
    cases h
theorem fdN_some {T : TS} {w : Nat → Int32} {p l i : Nat} (h : fdN T w p l = some i) : isNm T w p l i := by
  unfold fdN at h
  split at h
  · rename_i hx
    have := Classical.choose_spec hx
    rw [Option.some.injEq] at h
    rw [h] at this
    exact this
  · cases h
theorem fdN_none {T : TS} {w : Nat → Int32} {p l : Nat} (h : fdN T w p l = none) : ∀ i, ¬ isNm T w p l i := by
  unfold fdN at h
  split at h
  · cases h
  · rename_i hx
    exact fun i hi => hx ⟨i, hi⟩
theorem TOK.uq {T : TS} {k : Nat} (h : TOK T k) {w : Nat → Int32} {p l i j : Nat} (h1 : isNm T w p l i) (h2 : isNm T w p l j) : i = j := h.u1 i j h1.2.1 h2.2.1 (h1.2.2.1.trans h2.2.2.1.symm) (fun x hx => (h1.2.2.2 x hx).trans (h2.2.2.2 x hx).symm)
theorem fdN_eq {T : TS} {k : Nat} (h : TOK T k) {w : Nat → Int32} {p l i : Nat} (hi : isNm T w p l i) : fdN T w p l = some i := by
  cases hf : fdN T w p l with
  | none => exact absurd hi (fdN_none hf i)
  | some j => rw [h.uq hi (fdN_some hf)]

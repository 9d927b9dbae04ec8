/-! the ROOT, written and read -/
/-- how many FILES have lesser IDS -/
def pos (T : TS) (i : Nat) : Nat := Sm (fun j => if T.ex j = true then 1 else 0) i
theorem pos_s (T : TS) (i : Nat) : pos T (i + 1) = pos T i + (if T.ex i = true then 1 else 0) := rfl
theorem pos_le (T : TS) : ∀ {i j : Nat}, i ≤ j → pos T i ≤ pos T j := fun {i j} h => by
  induction j with
  | zero => rw [show i = 0 by omega]; exact Nat.le_refl _
  | succ j ih =>
    by_cases e : i = j + 1
    · rw [e]; exact Nat.le_refl _
    · rw [pos_s]
      have := ih (by omega)
      omega
theorem pos_lt (T : TS) {i j : Nat} (h : i < j) (hx : T.ex i = true) : pos T i < pos T j := by
  have := pos_le T (show i + 1 ≤ j from h)
  rw [pos_s, if_pos hx] at this
  omega
theorem pos_inj (T : TS) {i j : Nat} (hi : T.ex i = true) (hj : T.ex j = true) (h : pos T i = pos T j) : i = j := by
  rcases Nat.lt_trichotomy i j with z | z | z
  · have := pos_lt T z hi; omega
  · exact z
  · have := pos_lt T z hj; omega
theorem pos_at (T : TS) : ∀ {n m : Nat}, m < pos T n → ∃ i, i < n ∧ T.ex i = true ∧ pos T i = m
  | 0, m, h => absurd h (by show ¬ m < 0; omega)
  | n + 1, m, h => by
    rw [pos_s] at h
    by_cases e : m < pos T n
    · obtain ⟨i, a, b, c⟩ := pos_at T e
      exact ⟨i, by omega, b, c⟩
    · by_cases x : T.ex n = true
      · rw [if_pos x] at h
        exact ⟨n, by omega, x, by omega⟩
      · rw [if_neg x] at h
        omega
theorem wrR_sp {T : TS} {fo vf : Nat → Int32} {p : Nat} (hx : ∀ i, i < 512 → (fo i < 0 ↔ T.ex i = false)) (hc : T.cnt ≤ 48) : ∀ (k i : Nat) (wf : Nat → Int32), i + k = 512 →
    (∀ i', i ≤ i' → i' < 512 → T.ex i' = true → wrR fo vf p k i (pos T i) wf (p + 17 + 2 * pos T i') = nI i' ∧ wrR fo vf p k i (pos T i) wf (p + 18 + 2 * pos T i') = vf ((fo i').toNatClampNeg * 20 + 19)) ∧ (∀ y, (y < p + 17 + 2 * pos T i ∨ p + 17 + 2 * T.cnt ≤ y) → wrR fo vf p k i (pos T i) wf y = wf y)
  | 0, i, wf, hi => ⟨fun i' h1 h2 => absurd h2 (by omega), fun y _ => rfl⟩
  | k + 1, i, wf, hi => by
    have hcn : ∀ i', i' < 512 → T.ex i' = true → pos T i' < T.cnt := fun i' h1 h2 => pos_lt T h1 h2
    unfold wrR
    by_cases c : 48 ≤ pos T i
    · rw [if_pos c]
      refine ⟨fun i' h1 h2 h3 => ?_, fun y _ => rfl⟩
      have := pos_le T h1
      have := hcn i' h2 h3
      omega
    · rw [if_neg c]
      by_cases d : fo i < 0
      · rw [if_pos d]
        have hex := (hx i (by omega)).mp d
        have hp : pos T (i + 1) = pos T i := by rw [pos_s, hex]; rfl
        obtain ⟨a1, a2⟩ := wrR_sp (vf := vf) (p := p) hx hc k (i + 1) wf (by omega)
        rw [hp] at a1 a2
        refine ⟨fun i' h1 h2 h3 => ?_, a2⟩
        refine a1 i' ?_ h2 h3
        have : i' ≠ i := fun z => by rw [z, hex] at h3; cases h3
        omega
      · rw [if_neg d]
        have hex : T.ex i = true := by
          cases e : T.ex i with
          | true => rfl
          | false => exact absurd ((hx i (by omega)).mpr e) d
        have hp : pos T (i + 1) = pos T i + 1 := by rw [pos_s, if_pos hex]
        obtain ⟨a1, a2⟩ := wrR_sp (vf := vf) (p := p) hx hc k (i + 1) (upd (upd wf (p + 17 + 2 * pos T i) (nI i)) (p + 18 + 2 * pos T i) (vf ((fo i).toNatClampNeg * 20 + 19))) (by omega)
        rw [hp] at a1 a2
        have hci := hcn i (by omega) hex
        refine ⟨fun i' h1 h2 h3 => ?_, fun y hy => ?_⟩
        · by_cases e : i' = i
          · subst e
            refine ⟨?_, ?_⟩
            · rw [a2 _ (by omega), pk_un (by omega), pk_us]
            · rw [a2 _ (by omega), pk_us]
          · exact a1 i' (by omega) h2 h3
        · rw [a2 y (by omega), pk_un (by omega), pk_un (by omega)]
theorem rootW_v {T : TS} {a : Int32} (hc : T.cnt ≤ 48) : (∀ i, i < 512 → T.ex i = true → rootW T a (17 + 2 * pos T i) = nI i ∧ rootW T a (18 + 2 * pos T i) = T.vr i 19) ∧ rootW T a 15 = nI T.cnt ∧ rootW T a 16 = a ∧ (∀ y, (y < 15 ∨ 17 + 2 * T.cnt ≤ y) → rootW T a y = 0) := by
  obtain ⟨a1, a2⟩ := wrR_sp (T := T) (fo := fun i => if T.ex i = true then nI i else -1) (vf := fun y => T.vr (y / 20) (y % 20)) (p := 0) (fun i hi => by
    show (if T.ex i = true then nI i else -1) < 0 ↔ _
    cases e : T.ex i with
    | true => rw [if_pos rfl]; exact ⟨fun z => absurd z (nI_pos (by omega)), fun z => by cases z⟩
    | false => rw [if_neg (by decide)]; exact ⟨fun _ => rfl, fun _ => by decide⟩) hc 512 0 (upd (upd (fun _ => 0) 15 (nI T.cnt)) 16 a) (by omega)
  have hr : ∀ y, rootW T a y = wrR (fun i => if T.ex i = true then nI i else -1) (fun y => T.vr (y / 20) (y % 20)) 0 512 0 (pos T 0) (upd (upd (fun _ => 0) 15 (nI T.cnt)) 16 a) y := fun y => rfl
  have p0 : pos T 0 = 0 := rfl
  refine ⟨fun i hi hx => ?_, ?_, ?_, fun y hy => ?_⟩
  · obtain ⟨b1, b2⟩ := a1 i (by omega) hi hx
    rw [Nat.zero_add] at b1 b2
    refine ⟨by rw [hr]; exact b1, ?_⟩
    rw [hr, b2]
    show T.vr (((if T.ex i = true then nI i else -1).toNatClampNeg * 20 + 19) / 20) _ = _
    rw [if_pos hx, nI_clamp (by omega), show (i * 20 + 19) / 20 = i by omega, show (i * 20 + 19) % 20 = 19 by omega]
  · rw [hr, a2 15 (by omega), pk_un (by decide), pk_us]
  · rw [hr, a2 16 (by omega), pk_us]
  · rw [hr, a2 y (by omega), pk_un (by omega), pk_un (by omega)]
/-- writeRoot -/
theorem TK.root {T : TS} {fl an : Int32} {jf zf nf mf fo vf wf : Nat → Int32} {K : Int64} (h : TK T fl jf zf nf mf fo vf K) (hc : T.cnt ≤ 48) (hz : ∀ x, x < 128 → wf (1024 + x) = 0) : ∀ x, 2 ≤ x → x < 127 → wrR fo vf 1024 512 0 0 (upd (upd wf (1024 + 15) fl) (1024 + 16) an) (1024 + x) = rootW T an x := fun x h1 h2 => by
  obtain ⟨a1, a2⟩ := wrR_sp (T := T) (fo := fo) (vf := vf) (p := 1024) (fun i hi => by
    rcases h.1.b1 i hi with ⟨b1, b2⟩ | ⟨b1, f, _, b2, _⟩
    · rw [b1, b2]; exact ⟨fun _ => rfl, fun _ => by decide⟩
    · rw [b1, b2]
      have hb : f < 2 ^ 31 := by omega
      exact ⟨fun z => absurd z (nI_pos hb), fun z => by cases z⟩) hc 512 0 (upd (upd wf (1024 + 15) fl) (1024 + 16) an) (by omega)
  have p0 : pos T 0 = 0 := rfl
  rw [p0] at a1 a2
  obtain ⟨c1, c2, c3, c4⟩ := rootW_v (T := T) (a := an) hc
  by_cases d : 17 ≤ x ∧ x < 17 + 2 * T.cnt
  · obtain ⟨i, i1, i2, i3⟩ := pos_at T (n := 512) (m := (x - 17) / 2) (by show _ < T.cnt; omega)
    obtain ⟨b1, b2⟩ := a1 i (by omega) i1 i2
    obtain ⟨e1, e2⟩ := c1 i i1 i2
    rw [i3] at b1 b2 e1 e2
    obtain ⟨f, f1, f2, f3⟩ := h.1.fx i1 i2
    rw [f2, nI_clamp (by omega), h.1.r1 i f i1 f1 f3] at b2
    by_cases q : (x - 17) % 2 = 0
    · rw [show 1024 + x = 1024 + 17 + 2 * ((x - 17) / 2) by omega, b1, show x = 17 + 2 * ((x - 17) / 2) by omega, e1]
    · rw [show 1024 + x = 1024 + 18 + 2 * ((x - 17) / 2) by omega, b2]
      conv => rhs; rw [show x = 18 + 2 * ((x - 17) / 2) by omega]
      exact e2.symm
  · rw [a2 _ (by omega)]
    by_cases x15 : x = 15
    · subst x15
      rw [pk_un (by omega), pk_us, c2, h.1.c1]
    · by_cases x16 : x = 16
      · subst x16
        rw [pk_us, c3]
      · rw [pk_un (by omega), pk_un (by omega), c4 x (by omega)]
        exact hz x (by omega)

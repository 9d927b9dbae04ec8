/-! a leader's potential; ITEM, HAVE, LACK, ASK -/
/-- how many ROOTS may still come behind one of VERSION x -/
noncomputable def Nn (g : Gh) (x : Int32) : Nat := if x < 0 then 13 else if x < efv g.ops g.sn then 13 else if x.toNatClampNeg < g.sn then 12 else g.sn + 11 - x.toNatClampNeg
theorem Nn_13 (g : Gh) (x : Int32) : Nn g x ≤ 13 := by
  unfold Nn
  split
  · exact Nat.le_refl _
  · split
    · exact Nat.le_refl _
    · split <;> omega
theorem Nn_dec {g : Gh} {x : Int32} {v : Nat} (hG : GO g) (hb : g.bg ≤ g.sn + 12) (hx : x = -1 ∨ ∃ w, w < 512 ∧ x = nI w) (hv : v < g.bg) (hu : uk g (rtg v)) (hl : ¬ nI v ≤ x) : Nn g (nI v) < Nn g x := by
  have h5 := hG.1
  have d1 : rtg v / 10240 = 512 := (tgN_d (i := 512) (p := 0) (by decide) (by omega)).1
  have d3 : rtg v % 512 = v := (tgN_d (i := 512) (p := 0) (by decide) (show v < 512 by omega)).2.2
  have hE : efv g.ops g.sn = -1 ∨ ∃ z, z < g.sn ∧ efv g.ops g.sn = nI z := by
    rcases efv_or g.ops g.sn with z | ⟨z, a, b, _⟩
    · exact Or.inl z
    · exact Or.inr ⟨z, a, b⟩
  have hv0 : ¬ nI v < 0 := nI_pos (by omega)
  have hcl : (nI v).toNatClampNeg = v := nI_clamp (by omega)
  -- the new one
  have hnew : Nn g (nI v) ≤ 12 ∧ (g.sn ≤ v → Nn g (nI v) = g.sn + 11 - v) ∧ (¬ g.sn ≤ v → efv g.ops g.sn = nI v) := by
    have hu2 := hu.2
    rw [d3] at hu2
    by_cases c : g.sn ≤ v
    · have hne : ¬ nI v < efv g.ops g.sn := by
        rcases hE with z | ⟨z, a, b⟩
        · rw [z]; exact fun y => hv0 (Int32.lt_trans y (by decide))
        · rw [b]; exact fun y => by have := (nI_ltI (by omega) (by omega)).mp y; omega
      have e : Nn g (nI v) = g.sn + 11 - v := by
        unfold Nn
        rw [if_neg hv0, if_neg hne, hcl, if_neg (by omega)]
      exact ⟨by rw [e]; omega, fun _ => e, fun z => absurd c z⟩
    · have hEv : efv g.ops g.sn = nI v := by
        rcases hu2 with z | ⟨_, z⟩
        · exact absurd z c
        · rcases z with ⟨_, z⟩ | ⟨z, _⟩
          · rw [d3] at z; exact z
          · omega
      refine ⟨?_, fun z => absurd z c, fun _ => hEv⟩
      unfold Nn
      rw [if_neg hv0, hEv, if_neg Int32.lt_irrefl, hcl, if_pos (by omega)]
      exact Nat.le_refl _
  rcases hx with hx | ⟨w, hw, hx⟩
  · have : Nn g x = 13 := by unfold Nn; rw [hx, if_pos (by decide)]
    omega
  · rw [hx] at hl ⊢
    have hwv : w < v := by
      rcases Nat.lt_or_ge w v with q | q
      · exact q
      · exact absurd (nI_le q (by omega)) hl
    by_cases c0 : nI w < efv g.ops g.sn
    · have : Nn g (nI w) = 13 := by unfold Nn; rw [if_neg (nI_pos (by omega)), if_pos c0]
      omega
    · have hsv : g.sn ≤ v := by
        rcases Nat.lt_or_ge v g.sn with q | q
        · exfalso
          have := hnew.2.2 (by omega)
          rw [this] at c0
          exact c0 ((nI_ltI (by omega) (by omega)).mpr hwv)
        · exact q
      rw [hnew.2.1 hsv]
      unfold Nn
      rw [if_neg (nI_pos (by omega)), if_neg c0, nI_clamp (by omega)]
      split <;> omega
def TN : Nat → Nat
  | 0 => 0
  | n + 1 => TN n + (24 * n + 361)
theorem TN_le : ∀ {m n : Nat}, m ≤ n → TN m ≤ TN n
  | m, 0, h => by have : m = 0 := by omega
                  rw [this]; exact Nat.le_refl _
  | m, n + 1, h => by
    show TN m ≤ TN n + (24 * n + 361)
    rcases Nat.lt_or_ge m (n + 1) with q | q
    · have := TN_le (m := m) (n := n) (by omega); omega
    · have : m = n + 1 := by omega
      rw [this]; exact Nat.le_refl _
theorem TN_lt {m n : Nat} (h : m < n) : TN m + (24 * m + 361) ≤ TN n := TN_le (m := m + 1) (n := n) h
def wSt (s : Int32) : Nat := if s = 1 then 121 else if s = 2 then 109 else if s = 3 then 13 else if s = 4 then 1 else 0
theorem wSt_le (s : Int32) : wSt s ≤ 121 := by
  unfold wSt
  split
  · omega
  · split
    · omega
    · split
      · omega
      · split <;> omega
noncomputable def Ph (g : Gh) (D : Nat → Nat → Int32) (K A : Int64) : Nat := TN (Nn g (D 16 960)) + (if knA K (D 10 9) = 0 then 6 * (12 + 2 * Nn g (D 16 960)) else 0) + 2 * zA A + wSt (D 18 3)
/-- an ITEM that belongs there and is known to be there -/
def KPb (gg : Nat) (D : Nat → Nat → Int32) (n : Nat) (t : Int32) : Prop := ∃ a, a < 961 ∧ fndI (D 15) (D 16) t = nI a ∧ bt (D 8 (grp (D 11) gg a)) n = true ∧ bt (D 17 a) n = true
theorem KPb.d {gg : Nat} {D : Nat → Nat → Int32} {n : Nat} {t : Int32} (h : KPb gg D n t) : KPd gg D n t := by
  obtain ⟨a, a1, a2, a3, _⟩ := h
  exact ⟨a, a1, a2, a3⟩
theorem KPb.cg {gg : Nat} {D D' : Nat → Nat → Int32} {n : Nat} {t : Int32} (h : KPb gg D n t) (e8 : D' 8 = D 8) (e11 : D' 11 = D 11) (e15 : D' 15 = D 15) (e16 : D' 16 = D 16) (e17 : ∀ a, a < 961 → bt (D 17 a) n = true → bt (D' 17 a) n = true) : KPb gg D' n t := by
  obtain ⟨a, a1, a2, a3, a4⟩ := h
  exact ⟨a, a1, by rw [e15, e16]; exact a2, by rw [e8, e11]; exact a3, e17 a a1 a4⟩
theorem KPb.c {gg : Nat} {D D' : Nat → Nat → Int32} {n : Nat} {t : Int32} (h : KPb gg D n t) (e8 : D' 8 = D 8) (e11 : D' 11 = D 11) (e15 : D' 15 = D 15) (e16 : D' 16 = D 16) (e17 : D' 17 = D 17) : KPb gg D' n t := h.cg e8 e11 e15 e16 (fun a _ z => by rw [e17]; exact z)
/-- which NODES are clean, and what that means, behind a MESSAGE -/
def CLh (gg : Nat) (u b : Nat → Int32) (D D' : Nat → Nat → Int32) : Prop := ∀ n, n < 32 → D' 18 3 ≤ 2 → bt (D' 7 10) n = true →
  (D 18 3 ≤ 2 ∧ bt (D 7 10) n = true ∧ (∀ k, k < 5243392 → KPb gg D n (nI k) → KPb gg D' n (nI k)) ∧ (u 0 = 11 → u 1 = nI n → ∀ j, j < (u 7).toNatClampNeg → ∃ a, a < 961 ∧ fndI (D' 15) (D' 16) (b j) = nI a ∧ bt (D' 17 a) n = true)) ∨
  (u 0 = 5 ∧ u 1 = nI n ∧ u 6 = 0 ∧ ∀ j, j < (u 7).toNatClampNeg → KPb gg D' n (b j))
/-- what the leader may post when it hears -/
def zHr (nn : Nat) (me : Int32) (D : Nat → Nat → Int32) (z : Mg) : Prop := (∃ j, j < nn ∧ z = mLI me D j) ∨ (∃ t k, z = mGT me D t k) ∨ ∃ (to : Int32) (c : Nat) (bf : Nat → Int32), c ≤ 280 ∧ z = (va_up (mg 12 me to (D 7 7) (D 7 8)) 7 (nI c), bf)
/-- LISTS come in the order of the NODES; one that is left out is clean -/
def LOr (nn : Nat) (me : Int32) (D : Nat → Nat → Int32) (Z : List Mg) : Prop := ∀ p j : Nat, j < nn → Z[p]? = some (mLI me D j) → ∀ j' : Nat, j' < j → (bt (D 7 10) j' = true ∧ D 18 3 ≤ 2) ∨ ∃ p' : Nat, p' < p ∧ Z[p']? = some (mLI me D j')
def HRl (nn gg : Nat) (me : Int32) (g : Gh) (u b : Nat → Int32) (D : Nat → Nat → Int32) (K A : Int64) (D' : Nat → Nat → Int32) (K' A' : Int64) (Z : List Mg) : Prop :=
  Nn g (D' 16 960) ≤ Nn g (D 16 960) ∧ Wt (Nn g (D' 16 960)) Z + Ph g D' K' A' + 1 ≤ Ph g D K A + wk (Nn g (D 16 960)) (u 0) ∧
  CLh gg u b D D' ∧ (∀ z ∈ Z, zHr nn me D z) ∧ LOr nn me D Z
/-- nothing that counts is changed -/
theorem CLh.same {gg : Nat} {u b : Nat → Int32} {D D' : Nat → Nat → Int32} (h11 : ¬ u 0 = 11) (e3 : D' 18 3 ≤ 2 → D 18 3 ≤ 2) (e7 : ∀ n, n < 32 → bt (D' 7 10) n = true → bt (D 7 10) n = true) (e8 : D' 8 = D 8) (e11 : D' 11 = D 11) (e15 : D' 15 = D 15) (e16 : D' 16 = D 16) (e17 : D' 17 = D 17) : CLh gg u b D D' := fun n hn h1 h2 => Or.inl ⟨e3 h1, e7 n hn h2, fun k _ h => h.c e8 e11 e15 e16 e17, fun z => absurd z h11⟩
theorem CLh.none {gg : Nat} {u b : Nat → Int32} {D D' : Nat → Nat → Int32} (h : D' 7 10 = 0) : CLh gg u b D D' := fun n hn _ h2 => by rw [h, b_0] at h2; cases h2
/-- where an ITEM is found doesn't hang on its VERSION -/
theorem fnd_eq {fo v v' : Nat → Int32} {t : Int32} (h : ¬ fndI fo v t = -1) (h' : ¬ fndI fo v' t = -1) : fndI fo v' t = fndI fo v t := by
  unfold fndI at h h' ⊢
  by_cases c : t < 0
  · rw [if_pos c] at h; exact absurd rfl h
  · rw [if_neg c] at h h'
    rw [if_neg c, if_neg c]
    unfold tfind at h h' ⊢
    by_cases c1 : t.toNatClampNeg / 10240 = 512
    · rw [if_pos c1] at h h'
      rw [if_pos c1, if_pos c1]
      by_cases d : v 960 = nI (t.toNatClampNeg % 512)
      · by_cases d' : v' 960 = nI (t.toNatClampNeg % 512)
        · rw [if_pos d, if_pos d']
        · rw [if_neg d'] at h'; exact absurd rfl h'
      · rw [if_neg d] at h; exact absurd rfl h
    · rw [if_neg c1] at h h'
      rw [if_neg c1, if_neg c1]
      by_cases c2 : t.toNatClampNeg / 10240 < 512 ∧ ¬ fo (t.toNatClampNeg / 10240) < 0
      · rw [if_pos c2] at h h'
        rw [if_pos c2, if_pos c2]
        by_cases d : v ((fo (t.toNatClampNeg / 10240)).toNatClampNeg * 20 + t.toNatClampNeg / 512 % 20) = nI (t.toNatClampNeg % 512)
        · by_cases d' : v' ((fo (t.toNatClampNeg / 10240)).toNatClampNeg * 20 + t.toNatClampNeg / 512 % 20) = nI (t.toNatClampNeg % 512)
          · rw [if_pos d, if_pos d']
          · rw [if_neg d'] at h'; exact absurd rfl h'
        · rw [if_neg d] at h; exact absurd rfl h
      · rw [if_neg c2] at h; exact absurd rfl h
/-- the table grows -/
theorem KP_mono {P : Pm} {g : Gh} {e : Nat} {D D' : Nat → Nat → Int32} {K K' : Int64} (hgg : 0 < P.gg) (h : LO P g e D K) (h' : LO P g e D' K') (e11 : D' 11 = D 11) (e15 : D' 15 = D 15) (e17 : D' 17 = D 17) (hv : ∀ a, a < 961 → ¬ D 16 a < 0 → D' 16 a = D 16 a) {n k : Nat} (hk : k < 5243392) (hp : KPb P.gg D n (nI k)) : KPb P.gg D' n (nI k) := by
  obtain ⟨a, a1, a2, a3, a4⟩ := hp
  rcases h.find hgg hk with ⟨z, _⟩ | ⟨a', b1, b2, b3, b4, b5, b6⟩
  · rw [z] at a2; exact absurd a2.symm (nIneg (by omega))
  · have : a' = a := nI_inj (by omega) (by omega) (b2.symm.trans a2)
    subst this
    rw [b6] at a3
    have h16 : D' 16 a' = nI (k % 512) := by rw [hv a' b1 (by rw [b4]; exact nI_pos (by omega))]; exact b4
    rcases h'.find hgg hk with ⟨_, z⟩ | ⟨a2', c1, c2, c3, c4, c5, c6⟩
    · exact absurd h16 (z a' (by rw [e11]; exact b3))
    · have hsm : a2' = a' := by
        refine nI_inj (by omega) (by omega) (c2.symm.trans ?_)
        rw [← b2, e15]
        refine fnd_eq (by rw [b2]; exact nIneg (by omega)) (by rw [← e15, c2]; exact nIneg (by omega))
      exact ⟨a2', c1, c2, by rw [c6]; exact a3, by rw [e17, hsm]; exact a4⟩
theorem fill_z {nn gg : Nat} {C me : Int32} {f u b : Nat → Int32} {K A : Int64} {x : Int32} : ∀ (k i : Nat) (D : Nat → Nat → Int32), ∃ D', (∀ Y, G_87 nn gg C me f u b x k i D K A Y = (D', K, A, Y)) ∧ (∀ q, q ≠ 18 → q ≠ 21 → D' q = D q) ∧ ∀ y, y ≠ 12 → D' 18 y = D 18 y
  | 0, i, D => ⟨D, fun _ => rfl, fun _ _ _ => rfl, fun _ _ => rfl⟩
  | k + 1, i, D => by
    by_cases c1 : D 18 3 = 2
    · by_cases c2 : ndB (D 18) i = x
      · obtain ⟨D', r1, r2, r3⟩ := fill_z (nn := nn) (gg := gg) (C := C) (me := me) (f := f) (u := u) (b := b) (K := K) (A := A) (x := x) k (i + 1) (va_up (va_up D 18 (upd (D 18) 12 ((D 18 12) &&& ((1 <<< ((nI i) &&& 31)) ^^^ (-1))))) 21 (va_cpy b (D 21) 0 (i * 128) 128))
        refine ⟨D', fun Y => ?_, fun q h1 h2 => by rw [r2 q h1 h2, va_up_n _ _ h2, va_up_n _ _ h1], fun y hy => by rw [r3 y hy, va_up_n _ _ (by decide), va_up_s, pk_un hy]⟩
        rw [G_87.eq_2, if_neg (fun z => z c1), if_neg (fun z => z c2)]
        exact r1 Y
      · obtain ⟨D', r1, r2, r3⟩ := fill_z (nn := nn) (gg := gg) (C := C) (me := me) (f := f) (u := u) (b := b) (K := K) (A := A) (x := x) k (i + 1) D
        refine ⟨D', fun Y => ?_, r2, r3⟩
        rw [G_87.eq_2, if_neg (fun z => z c1), if_pos c2]
        exact r1 Y
    · obtain ⟨D', r1, r2, r3⟩ := fill_z (nn := nn) (gg := gg) (C := C) (me := me) (f := f) (u := u) (b := b) (K := K) (A := A) (x := x) k (i + 1) D
      refine ⟨D', fun Y => ?_, r2, r3⟩
      rw [G_87.eq_2, if_pos c1]
      exact r1 Y
/-- poll, with what it costs -/
theorem poll_w {nn gg : Nat} {C me : Int32} {f u b : Nat → Int32} {D : Nat → Nat → Int32} {K A : Int64} (hnn : nn ≤ 6) : ∃ Z, (∀ Y, F_35 nn gg C me f u b D K A Y = (D, K, A, psl Y Z)) ∧ (∀ N, Wt N Z ≤ 6 * (12 + 2 * N)) ∧ (∀ z ∈ Z, ∃ j, j < nn ∧ bt (D 7 10) j = false ∧ z = mLI me D j) ∧ (∀ j, j < nn → bt (D 7 10) j = false → mLI me D j ∈ Z) ∧ lOr me D nn 0 Z := by
  obtain ⟨Z, z1, z2, z3, z4, z5⟩ := poll_z (nn := nn) (gg := gg) (C := C) (me := me) (f := f) (u := u) (b := b) (D := D) (K := K) (A := A) nn 0 (by omega)
  refine ⟨Z, z1, fun N => ?_, fun z hz => ?_, fun j h1 h2 => z4 j (Nat.zero_le _) (by omega) h2, by rw [Nat.zero_add] at z5; exact z5⟩
  · have := Wt_le (N := N) (w := 12 + 2 * N) (Z := Z) (fun z hz => by
      obtain ⟨j, _, _, _, e⟩ := z3 z hz
      rw [e]; exact Nat.le_refl _)
    have h2 : (12 + 2 * N) * Z.length ≤ (12 + 2 * N) * 6 := Nat.mul_le_mul_left _ (by omega)
    omega
  · obtain ⟨j, _, a2, a3, a4⟩ := z3 z hz
    exact ⟨j, by omega, a3, a4⟩

theorem LOr.nil {nn : Nat} {me : Int32} {D : Nat → Nat → Int32} : LOr nn me D [] := fun p j _ h => (by cases h)
/-- no LIST at all -/
theorem LOr.no {nn : Nat} {me : Int32} {D : Nat → Nat → Int32} {Z : List Mg} (h : ∀ z ∈ Z, ¬ z.1 0 = 4) : LOr nn me D Z := fun p j _ hz => absurd rfl (h _ (List.mem_of_getElem? hz))
theorem lOr.up {nn : Nat} {me : Int32} {D : Nat → Nat → Int32} {Z : List Mg} (h : lOr me D nn 0 Z) (hs : D 18 3 ≤ 2) : LOr nn me D Z := fun p j hj hz j' hj' => by
  cases c : bt (D 7 10) j' with
  | true => exact Or.inl ⟨rfl, hs⟩
  | false => exact Or.inr (h p j hj hz j' (Nat.zero_le _) hj' c)
theorem lOr.all {nn : Nat} {me : Int32} {D D1 : Nat → Nat → Int32} {Z : List Mg} (h : lOr me D1 nn 0 Z) (h0 : D1 7 10 = 0) (e : ∀ j, mLI me D1 j = mLI me D j) : LOr nn me D Z := fun p j hj hz j' hj' => by
  obtain ⟨p', a, b⟩ := h p j hj (by rw [e]; exact hz) j' (Nat.zero_le _) hj' (by rw [h0]; exact b_0 j')
  exact Or.inr ⟨p', a, by rw [e] at b; exact b⟩
theorem LOr.app {nn : Nat} {me : Int32} {D : Nat → Nat → Int32} {Z W : List Mg} (h : LOr nn me D Z) (hw : ∀ z ∈ W, ¬ z.1 0 = 4) : LOr nn me D (Z ++ W) := fun p j hj hz j' hj' => by
  rcases Nat.lt_or_ge p Z.length with q | q
  · rw [List.getElem?_append_left q] at hz
    rcases h p j hj hz j' hj' with y | ⟨p', a, b⟩
    · exact Or.inl y
    · exact Or.inr ⟨p', a, by rw [List.getElem?_append_left (by omega)]; exact b⟩
  · rw [List.getElem?_append_right q] at hz
    exact absurd rfl (hw _ (List.mem_of_getElem? hz))

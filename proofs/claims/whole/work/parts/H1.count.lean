/-! how many ITEMS there are: of a state at most 170, of an OPERATION at most 8, on a DISK at most 266 -/
theorem Sm_spl (f : Nat → Nat) (a : Nat) : ∀ b, Sm f (a + b) = Sm f a + Sm (fun v => f (a + v)) b
  | 0 => rfl
  | b + 1 => by
    show Sm f (a + b) + f (a + b) = Sm f a + (Sm (fun v => f (a + v)) b + f (a + b))
    rw [Sm_spl f a b]; omega
theorem Sm_blk (f : Nat → Nat) (m : Nat) : ∀ n, Sm f (n * m) = Sm (fun j => Sm (fun v => f (j * m + v)) m) n
  | 0 => by rw [Nat.zero_mul]; rfl
  | n + 1 => by
    rw [Nat.succ_mul, Sm_spl, Sm_blk f m n]
    rfl
theorem Sm_c1 : ∀ n, Sm (fun _ => 1) n = n
  | 0 => rfl
  | n + 1 => by show Sm (fun _ => 1) n + 1 = n + 1; rw [Sm_c1 n]
theorem Sm_at {i c : Nat} : ∀ n, Sm (fun j => if j = i then c else 0) n ≤ c := fun n => by
  rcases Nat.lt_or_ge i n with h | h
  · rw [Sm_one (a := i) h (fun j _ hj => if_neg hj), if_pos rfl]
    exact Nat.le_refl _
  · rw [Sm_z (fun j hj => if_neg (by omega))]; exact Nat.zero_le _
theorem Sm_cm (c : Nat) (f : Nat → Nat) : ∀ n, Sm (fun j => c * f j) n = c * Sm f n
  | 0 => rfl
  | n + 1 => by
    show Sm (fun j => c * f j) n + c * f n = c * (Sm f n + f n)
    rw [Sm_cm c f n, Nat.mul_add]
theorem ind_le {p q : Prop} (h : p → q) : ind p ≤ ind q := by
  by_cases z : p
  · rw [ind_t z, ind_t (h z)]; exact Nat.le_refl _
  · rw [ind_f z]; exact Nat.zero_le _
/-- each of some has its own place -/
theorem pig {A : Nat → Prop} {R : Nat → Nat → Prop} {h : Nat → Nat} {n M : Nat} (h1 : ∀ s, s < n → A s → ∃ q, q < M ∧ R s q ∧ 1 ≤ h q) (h2 : ∀ s s' q, s < n → s' < n → q < M → A s → A s' → R s q → R s' q → s = s') : Sm (fun s => ind (A s)) n ≤ Sm h M := by
  have a1 : Sm (fun s => ind (A s)) n ≤ Sm (fun s => Sm (fun q => ind (A s ∧ R s q ∧ 1 ≤ h q)) M) n := Sm_le (fun s hs => by
    by_cases z : A s
    · obtain ⟨q, q1, q2, q3⟩ := h1 s hs z
      have this : ind (A s ∧ R s q ∧ 1 ≤ h q) ≤ Sm (fun q => ind (A s ∧ R s q ∧ 1 ≤ h q)) M := Sm_ge (g := fun q => ind (A s ∧ R s q ∧ 1 ≤ h q)) q1
      rw [ind_t ⟨z, q2, q3⟩] at this
      rw [ind_t z]
      exact this
    · rw [ind_f z]; exact Nat.zero_le _)
  rw [Sm_swap] at a1
  refine Nat.le_trans a1 (Sm_le (fun q hq => ?_))
  by_cases z : ∃ s, s < n ∧ A s ∧ R s q ∧ 1 ≤ h q
  · obtain ⟨s, s1, s2, s3, s4⟩ := z
    refine Nat.le_trans (Sm_uq (c := s) (fun _ _ => ind_1 _) (fun i hi hne => ?_)).1 s4
    by_cases y : A i ∧ R i q ∧ 1 ≤ h q
    · exact h2 i s q hi s1 hq y.1 s2 y.2.1 s3
    · exact absurd (ind_f y) hne
  · rw [Sm_z (fun s hs => ind_f (fun y => z ⟨s, hs, y⟩))]
    exact Nat.zero_le _
/-- the ITEMS of FILE i -/
noncomputable def cI (T : TS) (i : Nat) : Nat := Sm (fun p => ind (¬ T.vr i p = -1)) 20
theorem cI_1 {T : TS} {k i : Nat} (h : TOK T k) : 448 * cI T i ≤ T.sz i + 895 * (if T.ex i = true then 1 else 0) := by
  unfold cI
  cases he : T.ex i with
  | false =>
    rw [Sm_z (fun p _ => ind_f (fun z => z ((h.e2 i he).2 p)))]
    omega
  | true =>
    rw [if_pos rfl]
    have e : Sm (fun p => ind (¬ T.vr i p = -1)) 20 = Sm (fun p => ind (¬ T.vr i p = -1)) 19 + ind (¬ T.vr i 19 = -1) := rfl
    have a1 : Sm (fun p => ind (¬ T.vr i p = -1)) 19 ≤ Sm (fun p => ind (p * 448 < T.sz i)) 19 := Sm_le (fun p hp => ind_le (fun z => h.v2 i p hp z))
    have a2 := Sm_rng (f := fun p => ind (p * 448 < T.sz i)) (lo := 0) (hi := (T.sz i + 447) / 448) (fun _ => ind_1 _) (fun c hc => ind_f (fun z => by omega)) 19
    have a3 := ind_1 (¬ T.vr i 19 = -1)
    rw [e]
    omega
theorem cI_all {T : TS} {k : Nat} (h : TOK T k) : Sm (cI T) 512 ≤ 169 := by
  have a1 : Sm (fun i => 448 * cI T i) 512 ≤ Sm (fun i => T.sz i + 895 * (if T.ex i = true then 1 else 0)) 512 := Sm_le (fun i _ => cI_1 h)
  rw [Sm_cm, Sm_add, Sm_cm] at a1
  have t1 := h.t1
  have c1 := h.c1
  unfold TS.tot at t1
  unfold TS.cnt at c1
  omega
/-- the leader's table -/
theorem tb_le {P : Pm} {g : Gh} {e : Nat} {D : Nat → Nat → Int32} {K : Int64} (hG : GO g) (h : LO P g e D K) : tbN D ≤ 170 := by
  obtain ⟨c, hc, hR, _⟩ := h.tab
  have hT := hG.tok hc
  have h5 := hG.1
  have hg : Sm (fun f => if D 11 f = -1 then 0 else cI (tsp g.ops c) (D 11 f).toNatClampNeg) 48 = Sm (cI (tsp g.ops c)) 512 := by
    refine Sm_bij (jf := D 11) (by decide) (fun f hf => ?_) (fun i hi => ?_) (fun f f' i h1 h2 h3 h4 h5 => hR.inj h1 h2 h3 h4 h5)
    · rcases hR.b2 f hf with ⟨z, _⟩ | ⟨i, i1, i2, i3⟩
      · refine Or.inl ⟨if_pos z, fun i hi e => ?_⟩
        rw [z] at e; exact nIneg (by omega) e.symm
      · refine Or.inr ⟨i, i1, i2, ?_⟩
        rw [i2, nI_clamp (by omega)]
        exact if_neg (nIneg (by omega))
    · cases he : (tsp g.ops c).ex i with
      | false => exact Or.inl (Sm_z (fun p _ => ind_f (fun z => z ((hT.e2 i he).2 p))))
      | true =>
        obtain ⟨f, f1, _, f3⟩ := hR.fx hi he
        exact Or.inr ⟨f, f1, f3⟩
  have hle : Sm (fun a => ind (¬ D 16 a < 0)) (48 * 20) ≤ Sm (fun f => if D 11 f = -1 then 0 else cI (tsp g.ops c) (D 11 f).toNatClampNeg) 48 := by
    rw [Sm_blk]
    refine Sm_le (fun f hf => ?_)
    rcases hR.b2 f hf with ⟨z, _, _, z4⟩ | ⟨i, i1, i2, i3⟩
    · rw [if_pos z]
      rw [Sm_z (fun p hp => ind_f (fun y => y (by rw [z4 p hp]; decide)))]
      exact Nat.le_refl _
    · rw [i2, nI_clamp (by omega), if_neg (nIneg (by omega))]
      refine Sm_le (fun p hp => ind_le (fun z y => z ?_))
      by_cases h19 : p = 19
      · subst h19
        rw [hR.r1 i f i1 hf i2, y]; decide
      · cases hk : bq K f with
        | true => rw [(hR.k1 i f i1 hf i2 hk).2.2.2 p (by omega), y]; decide
        | false => rw [(hR.u1 i f i1 hf i2 hk).2 p (by omega)]; decide
  have hs : tbN D = Sm (fun a => ind (¬ D 16 a < 0)) (48 * 20) + ind (¬ D 16 960 < 0) := rfl
  have h3 := ind_1 (¬ D 16 960 < 0)
  have h4 := cI_all hT
  omega
/-- the ITEMS that OPERATION v made -/
noncomputable def nV (T : TS) (v : Nat) : Nat := Sm (fun i => Sm (fun p => ind (T.vr i p = nI v)) 20) 512
theorem nV_le {T T' : TS} {v i c : Nat} (h1 : ∀ j p, ¬ j = i → T'.vr j p = nI v → T.vr j p = nI v) (h2 : Sm (fun p => ind (T'.vr i p = nI v)) 20 ≤ Sm (fun p => ind (T.vr i p = nI v)) 20 + c) : nV T' v ≤ nV T v + c := by
  have a1 : nV T' v ≤ Sm (fun j => Sm (fun p => ind (T.vr j p = nI v)) 20 + (if j = i then c else 0)) 512 := Sm_le (fun j _ => by
    by_cases e : j = i
    · rw [if_pos e, e]; exact h2
    · rw [if_neg e, Nat.add_zero]; exact Sm_le (fun p _ => ind_le (h1 j p e)))
  rw [Sm_add] at a1
  have a2 := Sm_at (i := i) (c := c) 512
  unfold nV at a1 ⊢
  omega
theorem nV_sub {T T' : TS} {v : Nat} (h : ∀ j p, T'.vr j p = nI v → T.vr j p = nI v) : nV T' v ≤ nV T v := Sm_le (fun j _ => Sm_le (fun p _ => ind_le (h j p)))
theorem nV_ver {T : TS} {v i c : Nat} {Q : Nat → Prop} [DecidablePred Q] {x : Int32} (hc : Sm (fun p => ind (Q p)) 20 ≤ c) : nV (T.ver i Q x) v ≤ nV T v + c := by
  refine nV_le (i := i) (fun j p hj e => ?_) ?_
  · have e : fup T.vr i _ j p = nI v := e
    rw [fup_n hj] at e; exact e
  · have a1 : Sm (fun p => ind ((T.ver i Q x).vr i p = nI v)) 20 ≤ Sm (fun p => ind (T.vr i p = nI v) + ind (Q p)) 20 := Sm_le (fun p _ => by
      have e : (T.ver i Q x).vr i p = if Q p then x else T.vr i p := by
        show fup T.vr i _ i p = _
        rw [fup_s]
      rw [e]
      by_cases q : Q p
      · rw [if_pos q, ind_t q]
        have := ind_1 (x = nI v)
        omega
      · rw [if_neg q]; omega)
    rw [Sm_add] at a1
    omega
theorem nV_rcd {T : TS} {v i o : Nat} : nV (T.rcd i o) v ≤ nV T v + 1 := nV_ver (Sm_uq (c := 19) (fun _ _ => ind_1 _) (fun i _ hne => Classical.byContradiction (fun z => hne (ind_f z)))).1
theorem nV_m1 {T : TS} {v i : Nat} {Q : Nat → Prop} [DecidablePred Q] (hv : v < 512) : nV (T.ver i Q (-1)) v ≤ nV T v := nV_sub (fun j p e => by
  have e : fup T.vr i _ j p = nI v := e
  by_cases hj : j = i
  · subst hj
    rw [fup_s] at e
    by_cases q : Q p
    · rw [if_pos q] at e; exact absurd e.symm (nIneg (by omega))
    · rw [if_neg q] at e; exact e
  · rw [fup_n hj] at e; exact e)
theorem nV_rem {T : TS} {v i : Nat} (hv : v < 512) : nV (T.rem i) v ≤ nV T v := nV_sub (fun j p e => by
  have e : fup T.vr i (fun _ => -1) j p = nI v := e
  by_cases hj : j = i
  · subst hj
    rw [fup_s] at e
    exact absurd e.symm (nIneg (by omega))
  · rw [fup_n hj] at e; exact e)
theorem nV_wrt {T : TS} {v i a l : Nat} {tp : Nat → Int32} (hl : l ≤ 2048) : nV (T.wrt i a l v tp) v ≤ nV T v + 7 := by
  unfold TS.wrt
  by_cases z : l = 0
  · rw [if_pos z]
    have := nV_rcd (T := T) (v := v) (i := i) (o := v)
    omega
  · rw [if_neg z]
    have a1 : Sm (fun p => ind (a / 448 ≤ p ∧ p ≤ (a + l - 1) / 448)) 20 ≤ 6 := by
      have := Sm_rng (f := fun p => ind (a / 448 ≤ p ∧ p ≤ (a + l - 1) / 448)) (lo := a / 448) (hi := (a + l - 1) / 448 + 1) (fun _ => ind_1 _) (fun c hc => ind_f (fun z => by omega)) 20
      omega
    have a2 := nV_ver (T := T.siz i (max (T.sz i) (a + l))) (v := v) (i := i) (x := nI v) a1
    have a3 := nV_rcd (T := (T.siz i (max (T.sz i) (a + l))).ver i (fun p => a / 448 ≤ p ∧ p ≤ (a + l - 1) / 448) (nI v)) (v := v) (i := i) (o := v)
    exact Nat.le_trans a3 (by have : nV (T.siz i (max (T.sz i) (a + l))) v = nV T v := rfl; omega)
theorem nV_cut {T : TS} {v i a : Nat} (hv : v < 512) : nV (T.cut i a v) v ≤ nV T v + 2 := by
  unfold TS.cut
  refine Nat.le_trans nV_rcd ?_
  refine Nat.le_trans (Nat.add_le_add_right (nV_ver (c := 1) ?_) 1) ?_
  · exact (Sm_uq (c := a / 448) (fun _ _ => ind_1 _) (fun p _ hne => Classical.byContradiction (fun z => hne (ind_f (fun y => z y.1))))).1
  · have := nV_m1 (T := T.dat i (fun y => if y < a then T.dt i y else 0)) (v := v) (i := i) (Q := fun p => p < 19 ∧ a ≤ p * 448) hv
    exact Nat.add_le_add_right (Nat.add_le_add_right this 1) 1
theorem nV_0 {T : TS} {v : Nat} (h : TOK T v) (hv : v < 512) : nV T v = 0 := Sm_z (fun i _ => Sm_z (fun p _ => ind_f (fun e => by
  rcases h.v1 i p with z | ⟨w, w1, w2⟩
  · rw [z] at e; exact absurd e.symm (nIneg (by omega))
  · rw [w2] at e; have := nI_inj (by omega) (by omega) e; omega)))
theorem nV_stp {T T' : TS} {k a : Nat} {m : Mg} (h : TOK T k) (hk : k < 512) (hm : AQ (m.1 0) (m.1 1) (m.1 2) (m.1 3) (m.1 4) (m.1 5)) (e : stp T k m = some (a, T')) : nV T' k ≤ 7 := by
  have h0 := nV_0 h hk
  have hl : (m.1 5).toNatClampNeg ≤ 2048 := by
    obtain ⟨_, _, _, _, _, x, x1, x2⟩ := hm
    rw [x2, nI_clamp (by omega)]; omega
  have hwr : ∀ a', wrS T k m.2 (m.1 3).toNatClampNeg (m.1 5).toNatClampNeg (fdN T m.2 0 (m.1 3).toNatClampNeg) a' = some (a, T') → nV T' k ≤ 7 := fun a' e => by
    cases hf : fdN T m.2 0 (m.1 3).toNatClampNeg with
    | none =>
      rw [hf] at e
      unfold wrS at e
      simp only at e
      obtain ⟨hn, e⟩ := ite_ns e
      rw [Prod.mk.injEq] at e
      rw [← e.2]
      refine Nat.le_trans (nV_wrt hl) ?_
      have : nV (T.mk1 k (fun x => m.2 x) (m.1 3).toNatClampNeg) k = nV T k := rfl
      omega
    | some j =>
      rw [hf] at e
      unfold wrS at e
      simp only at e
      obtain ⟨hn, e⟩ := ite_ns e
      rw [Prod.mk.injEq] at e
      rw [← e.2]
      refine Nat.le_trans (nV_wrt hl) ?_
      omega
  unfold stp at e
  split at e
  · cases hf : fdN T m.2 0 (m.1 3).toNatClampNeg with
    | some j => rw [hf] at e; cases e
    | none =>
      rw [hf] at e
      simp only at e
      obtain ⟨hn, e⟩ := ite_ns e
      rw [Prod.mk.injEq] at e
      rw [← e.2]
      refine Nat.le_trans nV_rcd ?_
      have : nV (T.mk1 k (fun x => m.2 x) (m.1 3).toNatClampNeg) k = nV T k := rfl
      omega
  split at e
  · exact hwr _ e
  split at e
  · exact hwr _ e
  split at e
  · cases hf : fdN T m.2 0 (m.1 3).toNatClampNeg with
    | none => rw [hf] at e; cases e
    | some j =>
      rw [hf] at e
      simp only at e
      obtain ⟨hn, e⟩ := ite_ns e
      rw [Prod.mk.injEq] at e
      rw [← e.2]
      exact Nat.le_trans (nV_cut hk) (by omega)
  split at e
  · cases hf : fdN T m.2 0 (m.1 3).toNatClampNeg with
    | none => rw [hf] at e; cases e
    | some j =>
      rw [hf] at e
      simp only at e
      rw [Option.some.injEq, Prod.mk.injEq] at e
      rw [← e.2]
      exact Nat.le_trans (nV_rem hk) (by omega)
  split at e
  · cases hf : fdN T m.2 0 (m.1 3).toNatClampNeg with
    | none => rw [hf] at e; cases e
    | some x =>
      rw [hf] at e
      simp only at e
      cases hg : fdN T m.2 50 (m.1 4).toNatClampNeg with
      | none =>
        rw [hg] at e
        simp only at e
        rw [Option.some.injEq, Prod.mk.injEq] at e
        rw [← e.2]
        refine Nat.le_trans nV_rcd ?_
        have : nV (T.nam x (fun z => m.2 (50 + z)) (m.1 4).toNatClampNeg) k = nV T k := rfl
        omega
      | some y =>
        rw [hg] at e
        simp only at e
        by_cases c : y = x
        · rw [if_pos c, Option.some.injEq, Prod.mk.injEq] at e
          rw [← e.2]
          omega
        · rw [if_neg c, Option.some.injEq, Prod.mk.injEq] at e
          rw [← e.2]
          refine Nat.le_trans nV_rcd ?_
          have h1 : nV ((T.rem y).nam x (fun z => m.2 (50 + z)) (m.1 4).toNatClampNeg) k = nV (T.rem y) k := rfl
          have h2 := nV_rem (T := T) (i := y) hk
          omega
  split at e
  · cases hf : fdN T m.2 0 (m.1 3).toNatClampNeg with
    | none => rw [hf] at e; cases e
    | some x =>
      rw [hf] at e
      simp only at e
      cases hg : fdN T m.2 50 (m.1 4).toNatClampNeg with
      | none => rw [hg] at e; cases e
      | some y =>
        rw [hg] at e
        simp only at e
        by_cases c : y = x
        · rw [if_pos c, Option.some.injEq, Prod.mk.injEq] at e
          rw [← e.2]
          omega
        · rw [if_neg c, Option.some.injEq, Prod.mk.injEq] at e
          rw [← e.2]
          refine Nat.le_trans nV_rcd ?_
          refine Nat.le_trans (Nat.add_le_add_right nV_rcd 1) ?_
          have : nV ((T.nam x (fun z => m.2 (50 + z)) (m.1 4).toNatClampNeg).nam y (fun z => m.2 z) (m.1 3).toNatClampNeg) k = nV T k := rfl
          omega
  · cases e
/-- a place for each tag -/
theorem tag_pl {k : Nat} (hk : k < 5243392) : k / 512 < 10241 ∧ k = k / 512 * 512 + k % 512 ∧ (k / 10240 = 512 ↔ k / 512 = 10240) ∧ (k / 10240 < 512 → k / 10240 = k / 512 / 20 ∧ k / 512 % 20 = k / 512 % 20) := by omega
theorem Sm_tags (h : Nat → Nat) : Sm h 10241 = Sm (fun i => Sm (fun p => h (i * 20 + p)) 20) 512 + h 10240 := by
  rw [← Sm_blk h 20 512]
  rfl
theorem NU.few {P : Pm} {g : Gh} {n e : Nat} {D : Nat → Nat → Int32} {K : Int64} (hG : GO g) (hb : g.bg ≤ g.sn + 12) (h : NU P g n e D K) : Sm (fun s => ind (¬ D 6 s = -1)) 280 ≤ 266 := by
  have h5 := hG.1
  have hdis : ∀ s t, s < 280 → t < 280 → D 6 s = D 6 t → ¬ D 6 s = -1 → s = t := by
    obtain ⟨_, _, _, _, _, _, _, _, h6⟩ := h.du
    exact h6
  -- those of the latest settle
  let A0 : Nat → Prop := fun s => ¬ D 6 s = -1 ∧ g.sn ≤ g.bg ∧ ∃ k, k < 5243392 ∧ D 6 s = nI k ∧ isIt (tsp g.ops g.sn) (efv g.ops g.sn) k
  let A1 : Nat → Nat → Prop := fun j s => ¬ D 6 s = -1 ∧ ∃ k, k < 5243392 ∧ D 6 s = nI k ∧ k % 512 = g.sn + j ∧ eff g (g.sn + j) ∧ isIt (tsp g.ops (g.sn + j + 1)) (nI (g.sn + j)) k
  have b0 : Sm (fun s => ind (A0 s)) 280 ≤ 170 := by
    by_cases hsb : g.sn ≤ g.bg
    · have hT := hG.tok hsb
      refine Nat.le_trans (pig (R := fun s q => ∃ k, k < 5243392 ∧ D 6 s = nI k ∧ isIt (tsp g.ops g.sn) (efv g.ops g.sn) k ∧ q = k / 512) (h := fun q => if q = 10240 then 1 else ind (¬ (tsp g.ops g.sn).vr (q / 20) (q % 20) = -1)) (M := 10241) (fun s hs ha => ?_) (fun s s' q hs hs' hq ha ha' hr hr' => ?_)) ?_
      · obtain ⟨_, _, k, k1, k2, k3⟩ := ha
        refine ⟨k / 512, (tag_pl k1).1, ⟨k, k1, k2, k3, rfl⟩, ?_⟩
        show 1 ≤ if k / 512 = 10240 then 1 else _
        by_cases z : k / 512 = 10240
        · rw [if_pos z]; exact Nat.le_refl _
        · rw [if_neg z]
          rcases k3 with ⟨y, _⟩ | ⟨y1, y2, y3⟩
          · omega
          · rw [ind_t]
            · exact Nat.le_refl _
            · rw [show k / 512 / 20 = k / 10240 by omega, y3]; exact nIneg (by omega)
      · obtain ⟨k, k1, k2, k3, k4⟩ := hr
        obtain ⟨k', k1', k2', k3', k4'⟩ := hr'
        have : k = k' := by
          rcases k3 with ⟨y, y'⟩ | ⟨y1, y2, y3⟩ <;> rcases k3' with ⟨z, z'⟩ | ⟨z1, z2, z3⟩
          · rw [y'] at z'
            have := nI_inj (by omega) (by omega) z'
            omega
          · omega
          · omega
          · have e1 : k / 10240 = k' / 10240 := by omega
            have e2 : k / 512 % 20 = k' / 512 % 20 := by omega
            rw [e1, e2, z3] at y3
            have := nI_inj (by omega) (by omega) y3
            omega
        exact hdis s s' hs hs' (by rw [k2, k2', this]) ha.1
      · rw [Sm_tags]
        have c1 := cI_all hT
        have c2 : Sm (fun i => Sm (fun p => (fun q => if q = 10240 then 1 else ind (¬ (tsp g.ops g.sn).vr (q / 20) (q % 20) = -1)) (i * 20 + p)) 20) 512 ≤ Sm (cI (tsp g.ops g.sn)) 512 := Sm_le (fun i hi => Sm_le (fun p hp => by
          show (if i * 20 + p = 10240 then 1 else ind (¬ (tsp g.ops g.sn).vr ((i * 20 + p) / 20) ((i * 20 + p) % 20) = -1)) ≤ _
          rw [if_neg (by omega), show (i * 20 + p) / 20 = i by omega, show (i * 20 + p) % 20 = p by omega]
          exact Nat.le_refl _))
        refine Nat.le_trans (Nat.add_le_add c2 (Nat.le_of_eq (if_pos rfl))) (by omega)
    · rw [Sm_z (fun s _ => ind_f (fun z => hsb z.2.1))]
      exact Nat.zero_le _
  have b1 : ∀ j, Sm (fun s => ind (A1 j s)) 280 ≤ 8 := fun j => by
    by_cases he : eff g (g.sn + j)
    · obtain ⟨v1, x, hx⟩ := he
      have hv := nV_stp (hG.tok (k := g.sn + j) (by omega)) (by omega) (hG.2 _ v1) hx
      rw [← tsp_some hx] at hv
      refine Nat.le_trans (pig (R := fun s q => ∃ k, k < 5243392 ∧ D 6 s = nI k ∧ k % 512 = g.sn + j ∧ q = k / 512) (h := fun q => if q = 10240 then 1 else ind ((tsp g.ops (g.sn + j + 1)).vr (q / 20) (q % 20) = nI (g.sn + j))) (M := 10241) (fun s hs ha => ?_) (fun s s' q hs hs' hq ha ha' hr hr' => ?_)) ?_
      · obtain ⟨_, k, k1, k2, k3, _, k4⟩ := ha
        refine ⟨k / 512, (tag_pl k1).1, ⟨k, k1, k2, k3, rfl⟩, ?_⟩
        show 1 ≤ if k / 512 = 10240 then 1 else _
        by_cases z : k / 512 = 10240
        · rw [if_pos z]; exact Nat.le_refl _
        · rw [if_neg z]
          rcases k4 with ⟨y, _⟩ | ⟨y1, y2, y3⟩
          · omega
          · rw [ind_t]
            · exact Nat.le_refl _
            · rw [show k / 512 / 20 = k / 10240 by omega, y3, k3]
      · obtain ⟨k, k1, k2, k3, k4⟩ := hr
        obtain ⟨k', k1', k2', k3', k4'⟩ := hr'
        have : k = k' := by omega
        exact hdis s s' hs hs' (by rw [k2, k2', this]) ha.1
      · rw [Sm_tags]
        have c2 : Sm (fun i => Sm (fun p => (fun q => if q = 10240 then 1 else ind ((tsp g.ops (g.sn + j + 1)).vr (q / 20) (q % 20) = nI (g.sn + j))) (i * 20 + p)) 20) 512 ≤ nV (tsp g.ops (g.sn + j + 1)) (g.sn + j) := Sm_le (fun i hi => Sm_le (fun p hp => by
          show (if i * 20 + p = 10240 then 1 else ind ((tsp g.ops (g.sn + j + 1)).vr ((i * 20 + p) / 20) ((i * 20 + p) % 20) = nI (g.sn + j))) ≤ _
          rw [if_neg (by omega), show (i * 20 + p) / 20 = i by omega, show (i * 20 + p) % 20 = p by omega]
          exact Nat.le_refl _))
        refine Nat.le_trans (Nat.add_le_add c2 (Nat.le_of_eq (if_pos rfl))) (by omega)
    · rw [Sm_z (fun s _ => ind_f (fun ⟨_, _, _, _, _, z, _⟩ => he z))]
      exact Nat.zero_le _
  have b2 : Sm (fun s => ind (¬ D 6 s = -1)) 280 ≤ Sm (fun s => ind (A0 s) + Sm (fun j => ind (A1 j s)) 12) 280 := Sm_le (fun s hs => by
    by_cases z : D 6 s = -1
    · rw [ind_f (fun y => y z)]; exact Nat.zero_le _
    · obtain ⟨k, k1, k2, k3, k4, k5⟩ := h.tk hs z
      rw [ind_t z]
      rcases k4.2 with y | ⟨y1, y2⟩
      · have hj : k % 512 - g.sn < 12 := by have := k3.1; omega
        have e : g.sn + (k % 512 - g.sn) = k % 512 := by omega
        have := Sm_ge (g := fun j => ind (A1 j s)) hj
        have e1 : ind (A1 (k % 512 - g.sn) s) = 1 := ind_t ⟨z, k, k1, k2, e.symm, by rw [e]; exact k3, by rw [e]; exact k5⟩
        have : 1 ≤ Sm (fun j => ind (A1 j s)) 12 := by rw [← e1]; exact this
        omega
      · have e1 : ind (A0 s) = 1 := ind_t ⟨z, y1, k, k1, k2, y2⟩
        omega)
  rw [Sm_add, Sm_swap] at b2
  have b3 : Sm (fun j => Sm (fun s => ind (A1 j s)) 280) 12 ≤ 12 * 8 := Sm_ub (fun j _ => b1 j)
  omega
theorem sl_ok (P : Pm) : SL P := fun g n e D K hG hb h => by
  have a1 := h.few hG hb
  have a2 : Sm (fun s => ind (¬ D 6 s = -1) + (if D 6 s = -1 then 1 else 0)) 280 = 280 := by
    refine (Sm_cg (h := fun _ => 1) (fun s _ => ?_)).trans (Sm_c1 280)
    show ind (¬ D 6 s = -1) + (if D 6 s = -1 then 1 else 0) = 1
    by_cases z : D 6 s = -1
    · rw [if_pos z, ind_f (fun y => y z)]
    · rw [if_neg z, ind_t z]
  rw [Sm_add] at a2
  omega
theorem rst_tb {P : Pm} {l : Nat} (hl : l < P.nn) (g : Gh) (S : SS) (h : RST P l g S) : tbN (dN S l) ≤ 170 := tb_le h.1.1.1.go (h.1.lo hl)

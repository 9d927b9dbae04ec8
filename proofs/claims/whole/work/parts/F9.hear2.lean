/-! all that the leader hears -/
noncomputable def ind (p : Prop) : Nat := @ite Nat p (Classical.propDecidable p) 1 0
theorem ind_t {p : Prop} (h : p) : ind p = 1 := if_pos h
theorem ind_f {p : Prop} (h : ¬ p) : ind p = 0 := if_neg h
theorem ind_1 (p : Prop) : ind p ≤ 1 := by
  by_cases h : p
  · rw [ind_t h]; exact Nat.le_refl _
  · rw [ind_f h]; omega
theorem Sm_rng {f : Nat → Nat} {lo hi : Nat} (h1 : ∀ c, f c ≤ 1) (h2 : ∀ c, c < lo ∨ hi ≤ c → f c = 0) : ∀ n, Sm f n ≤ min n hi - lo
  | 0 => Nat.zero_le _
  | n + 1 => by
    have ih := Sm_rng h1 h2 n
    show Sm f n + f n ≤ _
    have a := h1 n
    by_cases c : n < lo ∨ hi ≤ n
    · rw [h2 n c]; omega
    · omega
theorem Sm_one_up {f g : Nat → Nat} {a : Nat} : ∀ {n : Nat}, a < n → (∀ i, i < n → f i ≤ g i) → f a + 1 ≤ g a → Sm f n + 1 ≤ Sm g n
  | 0, h, _, _ => absurd h (by omega)
  | n + 1, h, h1, h2 => by
    show Sm f n + f n + 1 ≤ Sm g n + g n
    have hmono : ∀ m, (∀ i, i < m → f i ≤ g i) → Sm f m ≤ Sm g m := by
      intro m
      induction m with
      | zero => intro _; exact Nat.le_refl _
      | succ m ih =>
        intro hh
        have x1 := ih (fun i hi => hh i (by omega))
        have x2 := hh m (by omega)
        show Sm f m + f m ≤ Sm g m + g m
        omega
    by_cases e : a = n
    · subst e
      have := hmono a (fun i hi => h1 i (by omega))
      omega
    · have := Sm_one_up (f := f) (g := g) (a := a) (n := n) (by omega) (fun i hi => h1 i (by omega)) h2
      have := h1 n (by omega)
      omega
theorem Sm_mono {f g : Nat → Nat} : ∀ {n : Nat}, (∀ i, i < n → f i ≤ g i) → Sm f n ≤ Sm g n
  | 0, _ => Nat.le_refl _
  | n + 1, h => by
    have x1 := Sm_mono (f := f) (g := g) (n := n) (fun i hi => h i (by omega))
    have x2 := h n (by omega)
    show Sm f n + f n ≤ Sm g n + g n
    omega
/-- a newer ROOT's place among those that there may be -/
def cdV (sn v : Nat) : Nat := if v < sn then 12 else v - sn
/-- tags that may be told of -/
def tgO (g : Gh) (t : Int32) : Prop := ∃ k, k < 5243392 ∧ t = nI k ∧ uk g k ∧ k % 512 < g.bg
theorem tgO.root {g : Gh} {t x : Int32} (h : tgO g t) (hn : nwO x t) : ∃ v, t = nI (rtg v) ∧ v < g.bg ∧ uk g (rtg v) ∧ ¬ nI v ≤ x ∧ (v < g.sn → efv g.ops g.sn = nI v) := by
  obtain ⟨k, k1, k2, k3, k4⟩ := h
  rcases rtB_or t with ⟨r0, _⟩ | ⟨_, t', r1, r2, r3⟩
  · exact absurd r0 hn.1
  · have : t' = k := nI_inj (by omega) (by omega) (r2.symm.trans k2)
    subst this
    have hkr := k_root r3 k1
    refine ⟨t' % 512, by rw [k2, ← hkr], k4, by rw [← hkr]; exact k3, fun z => hn.2 (by rw [k2, ver_t (by omega)]; exact z), fun hlt => ?_⟩
    rcases k3.2 with z | ⟨_, z⟩
    · omega
    · rcases z with ⟨_, z⟩ | ⟨z, _⟩
      · exact z
      · omega
theorem nr_le {g : Gh} {x : Int32} {b : Nat → Int32} {cnt : Nat} (hG : GO g) (hb : g.bg ≤ g.sn + 12) (hx : x = -1 ∨ ∃ w, w < 512 ∧ x = nI w) (hd : ∀ i j, i < cnt → j < cnt → b i = b j → i = j) (ht : ∀ i, i < cnt → tgO g (b i)) : nrT x b cnt 0 ≤ Nn g x := by
  have h5 := hG.1
  have key : ∀ (k i : Nat), i + k ≤ cnt → nrT x b k i ≤ Sm (fun c => ind (∃ j v, i ≤ j ∧ j < i + k ∧ nwO x (b j) ∧ b j = nI (rtg v) ∧ v < g.bg ∧ cdV g.sn v = c)) 13 := by
    intro k
    induction k with
    | zero => intro i _; exact Nat.zero_le _
    | succ k ih =>
      intro i hi
      have ih := ih (i + 1) (by omega)
      show (if ¬ rtB (b i) = 0 ∧ ¬ (b i - b i / 512 * 512) ≤ x then 1 else 0) + nrT x b k (i + 1) ≤ _
      have mono : ∀ c, ind (∃ j v, i + 1 ≤ j ∧ j < i + 1 + k ∧ nwO x (b j) ∧ b j = nI (rtg v) ∧ v < g.bg ∧ cdV g.sn v = c) ≤ ind (∃ j v, i ≤ j ∧ j < i + (k + 1) ∧ nwO x (b j) ∧ b j = nI (rtg v) ∧ v < g.bg ∧ cdV g.sn v = c) := fun c => by
        by_cases z : ∃ j v, i + 1 ≤ j ∧ j < i + 1 + k ∧ nwO x (b j) ∧ b j = nI (rtg v) ∧ v < g.bg ∧ cdV g.sn v = c
        · obtain ⟨j, v, z1, z2, z3⟩ := z
          rw [ind_t ⟨j, v, z1, z2, z3⟩, ind_t ⟨j, v, by omega, by omega, z3⟩]
          exact Nat.le_refl _
        · rw [ind_f z]; exact Nat.zero_le _
      by_cases c : ¬ rtB (b i) = 0 ∧ ¬ (b i - b i / 512 * 512) ≤ x
      · rw [if_pos c]
        have hnw : nwO x (b i) := c
        obtain ⟨v, v1, v2, v3, v4, v5⟩ := (ht i (by omega)).root hnw
        have hc13 : cdV g.sn v < 13 := by unfold cdV; split <;> omega
        have := Sm_one_up (f := fun c => ind (∃ j v, i + 1 ≤ j ∧ j < i + 1 + k ∧ nwO x (b j) ∧ b j = nI (rtg v) ∧ v < g.bg ∧ cdV g.sn v = c)) (g := fun c => ind (∃ j v, i ≤ j ∧ j < i + (k + 1) ∧ nwO x (b j) ∧ b j = nI (rtg v) ∧ v < g.bg ∧ cdV g.sn v = c)) (a := cdV g.sn v) (n := 13) hc13 (fun c _ => mono c) (by
          have a2 := ind_t (p := ∃ j v', i ≤ j ∧ j < i + (k + 1) ∧ nwO x (b j) ∧ b j = nI (rtg v') ∧ v' < g.bg ∧ cdV g.sn v' = cdV g.sn v) ⟨i, v, Nat.le_refl _, by omega, hnw, v1, v2, rfl⟩
          have a1 := ind_f (p := ∃ j v', i + 1 ≤ j ∧ j < i + 1 + k ∧ nwO x (b j) ∧ b j = nI (rtg v') ∧ v' < g.bg ∧ cdV g.sn v' = cdV g.sn v) (fun z => by
            obtain ⟨j, v', z1, z2, z3, z4, z5, z6⟩ := z
            obtain ⟨v'', y1, y2, y3, y4, y5⟩ := (ht j (by omega)).root z3
            have e1 : v'' = v' := rtg_inj (nI_inj (by unfold rtg tgN; omega) (by unfold rtg tgN; omega) (y1.symm.trans z4))
            subst e1
            have e2 : v'' = v := by
              unfold cdV at z6
              by_cases c1 : v'' < g.sn
              · by_cases c2 : v < g.sn
                · exact nI_inj (by omega) (by omega) ((y5 c1).symm.trans (v5 c2))
                · rw [if_pos c1, if_neg c2] at z6; omega
              · by_cases c2 : v < g.sn
                · rw [if_neg c1, if_pos c2] at z6; omega
                · rw [if_neg c1, if_neg c2] at z6; omega
            have := hd j i (by omega) (by omega) (by rw [z4, v1, e2])
            omega)
          omega)
        omega
      · rw [if_neg c]
        have := Sm_mono (f := fun c => ind (∃ j v, i + 1 ≤ j ∧ j < i + 1 + k ∧ nwO x (b j) ∧ b j = nI (rtg v) ∧ v < g.bg ∧ cdV g.sn v = c)) (g := fun c => ind (∃ j v, i ≤ j ∧ j < i + (k + 1) ∧ nwO x (b j) ∧ b j = nI (rtg v) ∧ v < g.bg ∧ cdV g.sn v = c)) (n := 13) (fun c _ => mono c)
        omega
  have h1 := key cnt 0 (by omega)
  -- those that there may be
  have zero : ∀ (lo hi : Nat), (∀ j v, j < cnt → nwO x (b j) → b j = nI (rtg v) → v < g.bg → lo ≤ cdV g.sn v ∧ cdV g.sn v < hi) → nrT x b cnt 0 ≤ min 13 hi - lo := fun lo hi hh => Nat.le_trans h1 (Sm_rng (fun c => ind_1 _) (fun c hc => ind_f (fun ⟨j, v, _, z2, z3, z4, z5, z6⟩ => by
    have := hh j v (by omega) z3 z4 z5
    omega)) 13)
  have all : nrT x b cnt 0 ≤ 13 := by
    have := zero 0 13 (fun j v _ _ _ hv => by unfold cdV; split <;> omega)
    omega
  rcases hx with hx | ⟨w, hw, hx⟩
  · have : Nn g x = 13 := by unfold Nn; rw [hx, if_pos (by decide)]
    omega
  · by_cases c0 : x < efv g.ops g.sn
    · have : Nn g x = 13 := by unfold Nn; rw [hx] at c0 ⊢; rw [if_neg (nI_pos (by omega)), if_pos c0]
      omega
    · have hlow : ∀ j v, j < cnt → nwO x (b j) → b j = nI (rtg v) → v < g.bg → g.sn ≤ v ∧ w < v := fun j v hj z3 z4 hv => by
        obtain ⟨v'', y1, y2, y3, y4, y5⟩ := (ht j hj).root z3
        have e1 : v'' = v := rtg_inj (nI_inj (by unfold rtg tgN; omega) (by unfold rtg tgN; omega) (y1.symm.trans z4))
        subst e1
        have hwv : w < v'' := by
          rcases Nat.lt_or_ge w v'' with q | q
          · exact q
          · exact absurd (by rw [hx]; exact nI_le q (by omega)) y4
        refine ⟨?_, hwv⟩
        rcases Nat.lt_or_ge v'' g.sn with q | q
        · exfalso
          rw [y5 q, hx] at c0
          exact c0 ((nI_ltI (by omega) (by omega)).mpr hwv)
        · exact q
      have hN : Nn g x = if w < g.sn then 12 else g.sn + 11 - w := by
        unfold Nn
        rw [if_neg (by rw [hx]; exact nI_pos (by omega)), if_neg c0, hx, nI_clamp (by omega)]
      rw [hN]
      by_cases cs : w < g.sn
      · rw [if_pos cs]
        have := zero 0 12 (fun j v hj z3 z4 hv => by
          obtain ⟨a1, a2⟩ := hlow j v hj z3 z4 hv
          unfold cdV; rw [if_neg (by omega)]; omega)
        omega
      · rw [if_neg cs]
        have := zero (w + 1 - g.sn) 12 (fun j v hj z3 z4 hv => by
          obtain ⟨a1, a2⟩ := hlow j v hj z3 z4 hv
          unfold cdV; rw [if_neg (by omega)]; omega)
        omega

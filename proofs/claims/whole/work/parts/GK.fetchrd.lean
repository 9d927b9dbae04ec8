/-! a round of FETCH -/
theorem oneO_bt {x : Int32} {N : Nat} (h0 : 0 < N) (hN : N ≤ 32) : ∀ (k t d : Nat), t < N → d < k → bt x ((t + d) % N) = true → bt x (oneO x N k t) = true
  | 0, t, d, _, hd, _ => by omega
  | k + 1, t, d, ht, hd, hb => by
    unfold oneO
    by_cases c : (x >>> (nI t &&& 31)) &&& 1 = 0
    · rw [if_pos c]
      have ct := (bitz x (show t < 32 by omega)).mp c
      cases d with
      | zero =>
        rw [Nat.add_zero, Nat.mod_eq_of_lt ht, ct] at hb; cases hb
      | succ d =>
        refine oneO_bt h0 hN k ((t + 1) % N) d (Nat.mod_lt _ h0) (by omega) ?_
        rw [Nat.mod_add_mod]
        rw [show t + 1 + d = t + (d + 1) by omega]
        exact hb
    · rw [if_neg c]
      cases q : bt x t with
      | true => rfl
      | false => exact absurd ((bitz x (show t < 32 by omega)).mpr q) c
theorem oneO_ok {x : Int32} {N t n : Nat} (hN : N ≤ 32) (ht : t < N) (hn : n < N) (hb : bt x n = true) : oneO x N N t < N ∧ bt x (oneO x N N t) = true := by
  refine ⟨oneO_lt x (by omega) N t ht, oneO_bt (by omega) hN N t ((n + N - t) % N) ht (Nat.mod_lt _ (by omega)) ?_⟩
  rw [Nat.add_mod_mod, show t + (n + N - t) = n + N by omega, Nat.add_mod_right, Nat.mod_eq_of_lt hn]
  exact hb
/-- no newer ROOT anywhere -/
def QNs (P : Pm) (l : Nat) (S : SS) : Prop := ∀ n k, n < P.nn → k < 5243392 → mem (dN S n) (nI k) → ¬ nwO (dN S l 16 960) (nI k)
/-- an ITEM of the leader's table -/
theorem LO.it2 {P : Pm} {g : Gh} {D : Nat → Nat → Int32} {K : Int64} {a : Nat} (hG : GO g) (hgg : 0 < P.gg) (h : LO P g g.ep D K) (hs : D 18 3 ≤ 2) (hkn : ¬ knA K (D 10 9) = 0) (ha : a < 961) (hv : ¬ D 16 a < 0) : ∃ k v, k < 5243392 ∧ v < 512 ∧ tgA (D 11) (D 16) a = nI k ∧ fndI (D 15) (D 16) (nI k) = nI a ∧ plc (D 11) k a ∧ D 8 (grp (D 11) P.gg a) = msk P g g.ep k ∧ eff g v ∧ D 16 960 = nI v ∧ isIt (tsp g.ops (v + 1)) (nI v) k ∧ (k < 5242880 → kept P g k) := by
  have h5 := hG.1
  obtain ⟨k, k1, k2, k3, k4, k5, k6⟩ := h.tgf hG hgg ha hv
  obtain ⟨r, r1, r2, r3, r4⟩ : ∃ r, r ≤ g.bg ∧ TKD (tsp g.ops r) D K ∧ D 16 960 = efv g.ops r ∧ ∀ v, v < 512 → efv g.ops r = nI v → made P g v := by
    rcases h.st with ⟨_, r, zr⟩ | ⟨_, ⟨r, zr⟩, _⟩ | ⟨_, o, ⟨o1, _⟩, zo, _, _, z4⟩ | ⟨z, _⟩ | ⟨z, _⟩
    · exact ⟨r, zr.r1, zr.tk hkn, zr.rt, zr.md⟩
    · exact ⟨r, zr.r1, zr.tk hkn, zr.rt, zr.md⟩
    · exact ⟨o, Nat.le_of_lt o1, zo.tk, zo.rt, z4⟩
    · rw [z] at hs; exact absurd hs (by decide)
    · rw [z] at hs; exact absurd hs (by decide)
  have hi := TKD.it r2 k4 k5
  rcases efv_or g.ops r with z | ⟨v, v1, v2, v3, v4⟩
  · exfalso
    rw [r3, z] at hi
    rw [(same_root (r := r) (o := 0) (by omega) (by omega) (by rw [z]; rfl)).1] at hi
    rcases hi with ⟨_, q⟩ | ⟨_, q, _⟩
    · exact absurd q.symm (nIneg (by omega))
    · cases q
  · rw [r3, v2, ← v4] at hi
    exact ⟨k, v, k1, by omega, k2, k3, k4, k6, ⟨by omega, v3⟩, by rw [r3, v2], hi, fun hk => r4 v (by omega) v2 k hk hi⟩
theorem QNs.le {P : Pm} {g : Gh} {l n r v : Nat} {S : SS} (hq : QNs P l S) (hn : n < P.nn) (hr : r < 512) (hv : dN S l 16 960 = nI v) (hv5 : v < 512) (hs : stb (dN S n) (nI (rtg r))) : r ≤ v := by
  rcases Nat.lt_or_ge v r with q | q
  · obtain ⟨s, s1, s2, _⟩ := hs
    exact absurd (nwO_rt hr (Or.inr ⟨v, q, hv⟩)) (hq n (rtg r) hn (rtg_v hr).1 ⟨s, s1, s2⟩)
  · exact q
/-- what is wanted is not dead -/
theorem quiet_nd {P : Pm} {g : Gh} {l k v : Nat} {S : SS} (hP : PmO P) (hA : AV P g) (h : RG P g l S) (hq : QNs P l S) (hk : k < 5243392) (hv : eff g v) (hrt : dN S l 16 960 = nI v) (hi : isIt (tsp g.ops (v + 1)) (nI v) k) : ¬ dead P g k := fun ⟨r, e, q1, q2, q3, q4⟩ => by
  have h5 := h.1.1.go.1
  have := hv.1
  obtain ⟨n, r', n1, n2, n3, n4⟩ := newest hP hA h.1 _ r e rfl q1 q2
  have := hq.le (g := g) n1 (by omega) hrt (by omega) n4
  exact isIt_no h.1.1.go q1 hk q3 q4 v (by omega) hv hi
/-- what is wanted stands -/
theorem want_av {P : Pm} {g : Gh} {l k v : Nat} {S : SS} (hP : PmO P) (hA : AV P g) (h : RG P g l S) (hq : QNs P l S) (hk : k < 5243392) (hv : eff g v) (hrt : dN S l 16 960 = nI v) (hi : isIt (tsp g.ops (v + 1)) (nI v) k) (hkp : kept P g k) : ∃ n, n < P.nn ∧ stb (dN S n) (nI k) := by
  have h5 := h.1.1.go.1
  have := hv.1
  rcases kept_or hP hA h.1 hv hk hi hkp with q | ⟨n, r, n1, n2, n3, n4⟩
  · exact q
  · have := hq.le (g := g) n1 (by omega) hrt (by omega) n4
    omega
/-- all FLUSHED ITEMS of the table are known to be where they are -/
def FBs (P : Pm) (l : Nat) (S : SS) : Prop := ∀ n k a, n < P.nn → k < 5243392 → a < 961 → fndI (dN S l 15) (dN S l 16) (nI k) = nI a → stb (dN S n) (nI k) → bt (dN S l 17 a) n = true
noncomputable def wN (P : Pm) (l : Nat) (S : SS) (a k : Nat) : Nat := Sm (fun n => ind (bt (dN S l 17 a) n = true ∧ ¬ stb (dN S n) (nI k))) P.nn
def phiL (P : Pm) (l : Nat) (S : SS) (c : Nat) : Prop := ∀ i a k, i < 6 → a < 960 → ¬ a % 20 = 19 → k < 5243392 → ndB (dN S l 18) i = nI a → fndI (dN S l 15) (dN S l 16) (nI k) = nI a → wN P l S a k ≤ c
theorem Sm_nn {f : Nat → Nat} (h : ∀ i, f i ≤ 1) : ∀ n, Sm f n ≤ n
  | 0 => Nat.le_refl _
  | n + 1 => by
    show Sm f n + f n ≤ _
    have := Sm_nn h n
    have := h n
    omega
theorem phiL.top (P : Pm) (l : Nat) (S : SS) : phiL P l S P.nn := fun _ _ _ _ _ _ _ _ _ => Sm_nn (fun _ => ind_1 _) _
theorem FE.lk {ops : Nat → Mg} {G : (Nat → Int32) → Prop} {o : Nat} {D : Nat → Nat → Int32} {K : Int64} (h : FE ops G o D K) (hl : ¬ D 18 12 = 0) : ∃ i a, i < 6 ∧ a < 960 ∧ ¬ a % 20 = 19 ∧ ndB (D 18) i = nI a ∧ ¬ D 16 a < 0 := by
  obtain ⟨i, i1, i2⟩ : ∃ i, i < 32 ∧ bt (D 18 12) i = true := by
    by_cases c : ∃ i, i < 32 ∧ bt (D 18 12) i = true
    · exact c
    · exfalso
      apply hl
      apply bt_ext
      intro i hi
      rw [b_0]
      cases q : bt (D 18 12) i with
      | false => rfl
      | true => exact absurd ⟨i, hi, q⟩ c
  obtain ⟨c, c6, hc⟩ := h.c6
  obtain ⟨sp, c', a, s1, s2, s3, s4, s5, s6, _⟩ := h.sp
  have : c' = c := by
    have : c' < 512 := by
      rcases Nat.eq_zero_or_pos sp with z | z
      · have := s4 z; omega
      · obtain ⟨_, _, _, q⟩ := s5 z; omega
    exact nI_inj (by omega) (by omega) (s3.symm.trans hc)
  subst this
  obtain ⟨hic, fx, f1, f2, f3⟩ := s6 i i1 i2
  have hcond : nI i < D 18 11 ∧ ¬ (D 18 12 >>> (nI i &&& 31)) &&& 1 = 0 := ⟨by rw [hc]; exact (nI_ltI (by omega) (by omega)).mpr hic, fun z => by rw [(bitz _ i1).mp z] at i2; cases i2⟩
  have hpos : ¬ ndB (D 18) i < 0 := by
    unfold ndB
    rw [if_pos hcond]
    have h0 : 0 < sp := by
      rcases Nat.eq_zero_or_pos sp with z | z
      · have := s4 z; omega
      · exact z
    obtain ⟨_, b2, b3, b4⟩ := s5 h0
    rw [f2, b3, show (20 : Int32) = nI 20 from rfl, nI_mul, nI_add, nI_add]
    exact nI_pos (by omega)
  obtain ⟨a', a1, a2, a3, a4, a5, _⟩ := h.nd i1 hpos
  exact ⟨i, a', by omega, a4, a5, a2, a3⟩
/-- HAVES behind a TICK -/
theorem T1.hvs {P : Pm} {g : Gh} {l n k : Nat} {S T : SS} {Zs : Nat → List Mg} {y : Mg} (hl : l < P.nn) (hnn : P.nn ≤ 6) (ht : T1 P g l S T Zs) (hy : y ∈ T.2.2.1) (h11 : y.1 0 = 11) (hn : n < P.nn) (h1 : y.1 1 = nI n) (hv : hvT y (nI k)) : stb (dN T n) (nI k) := by
  have ht' := ht
  obtain ⟨Zm, Za, h1', h2, h3, h4, _⟩ := ht'
  rcases h1'.2.2.2.2.1 y hy with ⟨y', y1, y2⟩ | ⟨m, _, m2, z, z1, z2⟩
  · have y1 : y' ∈ Zm ++ Za := y1
    rcases List.mem_append.mp y1 with w | w
    · rw [y2.1, (h2 y' w).1] at h11; exact absurd h11 (by decide)
    · rw [y2.1, (h4 y' w).1] at h11; exact absurd h11 (by decide)
  · obtain ⟨D3, Zf3, g1, g2⟩ := h1'.1 m (Nat.zero_le _) m2
    have hz : z ∈ Zf3 := by
      rcases g2 with ⟨_, _, _, e⟩ | ⟨_, D4, Zw4, _, _, w4, e, _⟩
      · rw [e] at z1; exact z1
      · rw [e] at z1
        rcases List.mem_append.mp z1 with w | w
        · exact w
        · exfalso
          rw [z2.1] at h11
          rcases w4.kd w with ⟨j, _, _, _, q⟩ | ⟨q, _⟩ | ⟨o, j, _, _, _, q⟩ | ⟨a, m, _, _, _, _, _, q, _⟩
          · rw [q] at h11; exact absurd h11 (show ¬ (4 : Int32) = 11 by decide)
          · rw [q] at h11; exact absurd h11 (by decide)
          · rw [q, mPU_0] at h11; exact absurd h11 (by decide)
          · rw [q] at h11; exact absurd h11 (by decide)
    have g4 : (dN S m 1 4 = 0 ∧ D3 = dN S m ∧ Zf3 = []) ∨ (¬ dN S m 1 4 = 0 ∧ ∃ z, Zf3 = [z] ∧ isHV P.nn (nI m) P.f (dN S m) z ∧ (∀ i, i < (z.1 7).toNatClampNeg → ∃ s, s < 280 ∧ z.2 i = dN S m 6 s ∧ ¬ dN S m 6 s < 0 ∧ ¬ dN S m 5 s = -1) ∧ ∀ s, s < 280 → ¬ dN S m 6 s < 0 → ¬ dN S m 5 s = -1 → hvT z (dN S m 6 s)) := g1.2.2.2
    rcases g4 with ⟨_, _, e⟩ | ⟨_, z', e, e2, e3, _⟩
    · rw [e] at hz; cases hz
    · rw [e] at hz
      have hz := List.mem_singleton.mp hz
      subst hz
      have : m = n := nI_inj (by omega) (by omega) (by rw [← e2.v.2.1, ← z2.1]; exact h1)
      subst this
      obtain ⟨i, i1, i2⟩ := hvT_sy z2.sy (by rw [e2.k11]; exact Or.inr (Or.inl rfl)) hv
      obtain ⟨s, s1, s2, _⟩ := e3 i i1
      exact (ht.st hn).1.mp ⟨s, s1, by rw [← s2]; exact i2⟩

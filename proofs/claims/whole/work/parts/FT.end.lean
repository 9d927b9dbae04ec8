/-! what is true where settle is done -/
theorem TKD.it {T : TS} {D : Nat → Nat → Int32} {K : Int64} (h : TKD T D K) {k a : Nat} (hp : plc (D 11) k a) (hv : D 16 a = nI (k % 512)) : isIt T (D 16 960) k := by
  obtain ⟨htr, hkn⟩ := h
  rcases hp with ⟨p1, p2⟩ | ⟨p1, f, f1, f2, f3⟩
  · rw [p2] at hv; exact Or.inl ⟨p1, hv⟩
  · have hp : k / 512 % 20 < 20 := Nat.mod_lt _ (by decide)
    have hk := hkn f f1 (by rw [f2]; exact nIneg (by omega))
    refine Or.inr ⟨p1, (htr.jx f1 p1 f2).1, ?_⟩
    rw [f3] at hv
    by_cases p9 : k / 512 % 20 = 19
    · rw [p9] at hv ⊢
      rw [← htr.r1 _ f p1 f1 f2]; exact hv
    · rw [← (htr.k1 _ f p1 f1 f2 hk).2.2.2 (k / 512 % 20) (by omega)]; exact hv
theorem TKD.ti {T : TS} {D : Nat → Nat → Int32} {K : Int64} (h : TKD T D K) {k : Nat} (hi : isIt T (D 16 960) k) : ∃ a, a < 961 ∧ plc (D 11) k a ∧ D 16 a = nI (k % 512) := by
  obtain ⟨htr, hkn⟩ := h
  rcases hi with ⟨p1, p2⟩ | ⟨p1, p2, p3⟩
  · exact ⟨960, by decide, Or.inl ⟨p1, rfl⟩, p2⟩
  · have hp : k / 512 % 20 < 20 := Nat.mod_lt _ (by decide)
    rcases htr.b1 _ p1 with ⟨q, _⟩ | ⟨_, f, f1, f2, f3⟩
    · rw [p2] at q; cases q
    · have hk := hkn f f1 (by rw [f3]; exact nIneg (by omega))
      refine ⟨f * 20 + k / 512 % 20, by omega, Or.inr ⟨p1, f, f1, f3, rfl⟩, ?_⟩
      by_cases p9 : k / 512 % 20 = 19
      · rw [p9] at p3 ⊢
        rw [htr.r1 _ f p1 f1 f3]; exact p3
      · rw [(htr.k1 _ f p1 f1 f3 hk).2.2.2 (k / 512 % 20) (by omega)]; exact p3
theorem efv_up {ops : Nat → Mg} {w r : Nat} (hw : efv ops r = nI w) (hwr : w < r) : ∀ b, r ≤ b → b ≤ 512 → ∃ v, w ≤ v ∧ v < b ∧ efv ops b = nI v
  | 0, h, _ => absurd hwr (by omega)
  | b + 1, h, h5 => by
    rcases Nat.lt_or_ge b r with q | q
    · have : r = b + 1 := by omega
      rw [← this]
      exact ⟨w, Nat.le_refl _, hwr, hw⟩
    · cases e : stp (tsp ops b) b (ops b) with
      | some x => exact ⟨b, by omega, by omega, efv_s ⟨x, e⟩⟩
      | none =>
        obtain ⟨v, a1, a2, a3⟩ := efv_up hw hwr b q (by omega)
        refine ⟨v, a1, by omega, ?_⟩
        show (match stp (tsp ops b) b (ops b) with | some _ => nI b | none => efv ops b) = _
        rw [e]; exact a3
theorem allN_bt : ∀ nn, nn < 7 → ∀ n, n < nn → bt (allN nn) n = true := by decide +kernel
/-- where settle is done -/
def DNe (P : Pm) (g : Gh) (l : Nat) (S : SS) : Prop :=
  g.hd = g.bg ∧ (∀ n, n < P.nn → eN S n = g.ep) ∧ S.2.2.1 = [] ∧ (∀ n, n < P.nn → S.2.2.2.1 n 1 4 = 0) ∧ S.2.2.2.1 l 18 3 ≤ 1 ∧ ¬ knA (S.2.2.2.2.1 l) (S.2.2.2.1 l 10 9) = 0 ∧ (∀ n, n < P.nn → bt (S.2.2.2.1 l 7 10) n = true) ∧ ∀ a, a < 961 → S.2.2.2.1 l 16 a < 0 ∨ ¬ sfB (S.2.2.2.1 l 8) (S.2.2.2.1 l 11) (S.2.2.2.1 l 16) (S.2.2.2.1 l 17) P.gg a = 0
theorem dn_e {P : Pm} {g : Gh} {l : Nat} {S : SS} (hP : PmO P) (hl : l < P.nn) (h : SU P g S) (hld : lds P g l g.ep) (hset : g.mp g.ep = allN P.nn) (hd : dnP P.nn P.gg P.f S) : DNe P g l S := by
  have hnn := hP.nn
  obtain ⟨d1, d2, d3, d4, j, j1, j2, j3⟩ := hd
  obtain ⟨he, ha⟩ := h.1.as
  have h5 := h.1.go.1
  have hheb : he = g.bg := by
    have := ha.h1.1
    rw [ha.h2, ha.bg] at d1
    have : ¬ he < g.bg := fun z => d1 ((nI_ltI (by omega) (by omega)).mpr z)
    omega
  have hjl : j = l := by
    rw [ha.ep.2] at j2
    unfold lds ldB at hld
    by_cases c : nof P.f 0 (g.mp g.ep) P.nn 0 0 = nI l
    · exact nI_inj (by omega) (by omega) (j2.symm.trans c)
    · rw [if_neg c] at hld; exact absurd rfl hld
  subst hjl
  unfold icB at j3
  by_cases c1 : acB (S.2.2.2.1 j 18 3) = 0
  · rw [if_neg (fun z => z c1)] at j3
    by_cases c2 : knA (S.2.2.2.2.1 j) (S.2.2.2.1 j 10 9) = 0
    · rw [if_pos c2] at j3; exact absurd rfl j3
    · rw [if_neg c2] at j3
      by_cases c3 : S.2.2.2.1 j 7 10 = ((1 <<< ((nI P.nn) &&& 31)) - 1)
      · rw [if_pos c3] at j3
        refine ⟨by rw [ha.hh, hheb], fun n hn => ?_, d3, fun n hn => ?_, acB_le.mp c1, c2, fun n hn => ?_, fun a h => clA_ok 961 0 j3 a (Nat.zero_le _) (by omega)⟩
        · have hb : bt (S.1 4 15) n = true := by rw [d2, ha.ep.2, hset]; exact allN_bt P.nn (by omega) n hn
          have hN := h.nu hn
          have q := (hN.rk g.ep 5243392 (ha.mh n (by omega) hb).2).2.1
          have := hN.ep.2.1
          omega
        · obtain ⟨c, q1, q2⟩ := DUD.cnt (h.nu hn).du
          have := d4 n hn
          rw [q2] at this ⊢
          cases c with
          | zero => rfl
          | succ c => exact absurd this (nI_nle (by omega) (by omega))
        · rw [c3]
          exact allN_bt P.nn (by omega) n hn
      · rw [if_neg c3] at j3; exact absurd rfl j3
  · rw [if_pos c1] at j3; exact absurd rfl j3
/-- the leader has the newest ROOT, and all FLUSHED ITEMS are of its table -/
theorem dn_r {P : Pm} {g : Gh} {l R rc : Nat} {S : SS} (hP : PmO P) (hK : RK P) (hC : P.C = nI R) (hR : R < 2 ^ 31) (hl : l < P.nn) (h : SU P g S) (hld : lds P g l g.ep) (h2 : CL2 P g l S) (hE : ER P g rc) (hrc : rc < R) (hd : DNe P g l S) :
    S.2.2.2.1 l 16 960 = efv g.ops g.bg ∧ TKD (tsp g.ops g.bg) (S.2.2.2.1 l) (S.2.2.2.2.1 l) ∧ (∀ k, k < 5243392 → isIt (tsp g.ops g.bg) (efv g.ops g.bg) k → sec P g g.ep k) ∧ ∀ n, n < P.nn → ∀ k, k < 5243392 → stb (S.2.2.2.1 n) (nI k) → isIt (tsp g.ops g.bg) (efv g.ops g.bg) k ∧ bt (msk P g g.ep k) n = true := by
  obtain ⟨d1, d2, d3, d4, d5, d6, d7, d8⟩ := hd
  have h5 := h.1.go.1
  obtain ⟨he, ha⟩ := h.1.as
  have hheb : he = g.bg := by rw [← ha.hh]; exact d1
  subst hheb
  have hNl := h.nu hl
  rw [d2 l hl] at hNl
  have hLO := hNl.ld (by rw [hNl.ep.2.2.1]; exact hld)
  obtain ⟨r, zr⟩ := hLO.idle d5
  have hst2 : S.2.2.2.1 l 18 3 ≤ 2 := Int32.le_trans d5 (by decide)
  -- a FLUSHED ITEM is in the table
  have hkp : ∀ n, n < P.nn → ∀ k, k < 5243392 → stb (S.2.2.2.1 n) (nI k) → ∃ a, a < 961 ∧ plc (S.2.2.2.1 l 11) k a ∧ S.2.2.2.1 l 16 a = nI (k % 512) ∧ bt (msk P g g.ep k) n = true := fun n hn k hk hs => by
    obtain ⟨_, p2, _⟩ := h2 (d2 l hl) hst2 n hn (d7 n hn)
    rcases p2 k hk hs with ⟨a, a1, a2, a3, _⟩ | ⟨_, x, q, _⟩
    · rcases hLO.find hP.gg hk with ⟨z, _⟩ | ⟨a', b1, b2, b3, b4, _, b6⟩
      · rw [z] at a2; exact absurd a2.symm (nIneg (by omega))
      · have : a' = a := nI_inj (by omega) (by omega) (b2.symm.trans a2)
        subst this
        exact ⟨a', a1, b3, b4, by rw [← b6]; exact a3⟩
    · rw [d3] at q; cases q
  -- the newest ROOT
  have hroot : S.2.2.2.1 l 16 960 = efv g.ops g.bg := by
    rcases efv_or g.ops g.bg with z | ⟨v, v1, v2, v3, v4⟩
    · rw [zr.rt, z]
      rcases efv_or g.ops r with y | ⟨w, w1, w2, _⟩
      · exact y
      · obtain ⟨v, _, _, q⟩ := efv_up w2 w1 g.bg zr.r1 h5
        rw [z] at q; exact absurd q.symm (nIneg (by omega))
    · have hrv : rtg v < 5243392 := by unfold rtg tgN; omega
      obtain ⟨t1, t2, t3⟩ := tgN_d (i := 512) (p := 0) (v := v) (by decide) (by omega)
      have t1 : rtg v / 10240 = 512 := t1
      have t3 : rtg v % 512 = v := t3
      rcases h.1.kept hP hK hC hR hE hrc hrv (ha.kp v (by omega) v2) with ⟨r', e', q1, q2, q3, q4⟩ | ⟨n, n1, n2⟩
      · exfalso
        rw [t3] at q3
        obtain ⟨v', w1, w2, w3⟩ := efv_up (efv_s q1.2) (Nat.lt_succ_self r') g.bg q1.1 h5
        rw [v2] at w3
        have : v = v' := nI_inj (by omega) (by omega) w3
        have hrv' : r' = v := by omega
        rw [hrv'] at q4
        exact q4 (Or.inl ⟨t1, by rw [t3]⟩)
      · have hst : stb (S.2.2.2.1 n) (nI (rtg v)) := by
          rcases n2 with ⟨y, _⟩ | ⟨_, y⟩
          · exact absurd y (h.2.1 n n1)
          · exact y
        obtain ⟨a, a1, a2, a3, _⟩ := hkp n n1 (rtg v) hrv hst
        rcases a2 with ⟨_, q⟩ | ⟨q, _⟩
        · rw [q, t3] at a3; rw [a3, v2]
        · omega
  have hsame := (same_root (ops := g.ops) (r := r) (o := g.bg) (by have := zr.r1; omega) h5 (by rw [← zr.rt, hroot])).1
  have htk : TKD (tsp g.ops g.bg) (S.2.2.2.1 l) (S.2.2.2.2.1 l) := by
    rw [← hsame]; exact zr.tk d6
  refine ⟨hroot, htk, fun k hk hi => ?_, fun n hn k hk hs => ?_⟩
  · rw [← hroot] at hi
    obtain ⟨a, a1, a2, a3⟩ := htk.ti hi
    rcases d8 a a1 with q | q
    · rw [a3] at q; exact absurd q (nI_pos (by omega))
    · exact hLO.safe hP.gg hP.nn a1 hk a2 a3 q
  · obtain ⟨a, a1, a2, a3, a4⟩ := hkp n hn k hk hs
    refine ⟨?_, a4⟩
    rw [← hroot]
    exact htk.it a2 a3

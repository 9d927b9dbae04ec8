/-! a round of mending -/
theorem T1.na {P : Pm} {g : Gh} {l : Nat} {S T : SS} {Zs : Nat → List Mg} (hl : l < P.nn) (h : RG P g l S) (ht : T1 P g l S T Zs) (hh : heN S = g.bg) : ∀ y ∈ T.2.2.1, ¬ y.1 0 = 2 := by
  obtain ⟨e1, e2, e3, e4, e5, _⟩ := h.he
  obtain ⟨Zm, Za, h1, h2, h3, h4, h5, h6⟩ := ht
  have hZa : Za = [] := h5 (by rw [e1, e5, hh])
  intro y hy hk
  rcases h1.2.2.2.2.1 y hy with ⟨y', y1, y2⟩ | ⟨n, _, n2, z, z1, z2⟩
  · have y1 : y' ∈ Zm ++ Za := y1
    rw [hZa, List.append_nil] at y1
    rw [y2.1, (h2 y' y1).1] at hk; exact absurd hk (by decide)
  · rw [z2.1] at hk
    obtain ⟨D3, Zf3, g1, g2⟩ := h1.1 n (Nat.zero_le _) n2
    have hzf : ∀ z ∈ Zf3, z.1 0 = 11 := fun z hz => by
      rcases g1.2.2.2 with ⟨_, _, e⟩ | ⟨_, z', e, e2, _⟩
      · rw [e] at hz; cases hz
      · rw [e] at hz; rw [List.mem_singleton.mp hz]; exact e2.k11
    rcases g2 with ⟨_, _, _, e⟩ | ⟨_, D4, Zw4, _, _, w4, e, _⟩
    · rw [e] at z1
      rw [hzf z z1] at hk; exact absurd hk (by decide)
    · rw [e] at z1
      rcases List.mem_append.mp z1 with w | w
      · rw [hzf z w] at hk; exact absurd hk (by decide)
      · rcases w4.kd w with ⟨j, _, _, _, q⟩ | ⟨q, _⟩ | ⟨o, j, _, _, _, q⟩ | ⟨a, m, _, _, _, _, _, q, _⟩
        · rw [q] at hk; exact absurd hk (show ¬ (4 : Int32) = 2 by decide)
        · rw [q] at hk; exact absurd hk (by decide)
        · rw [q, mPU_0] at hk; exact absurd hk (by decide)
        · rw [q] at hk; exact absurd hk (by decide)
/-- a bit says that the NODE has it, or else all NODES of the mask have -/
theorem bit_or {P : Pm} {g : Gh} {l a k n : Nat} {S : SS} (hP : PmO P) (hl : l < P.nn) (hA : AV P g) (h : RG P g l S) (hq : QNs P l S) (hkn : ¬ knA (kN S l) (dN S l 10 9) = 0) (hs : dN S l 18 3 ≤ 2) (ha : a < 961) (hk : k < 5243392) (hf : fndI (dN S l 15) (dN S l 16) (nI k) = nI a) (hn : n < P.nn) (hb : bt (dN S l 17 a) n = true) : stb (dN S n) (nI k) ∨ ∀ m, m < P.nn → bt (mkA P.gg (dN S l) a) m = true → stb (dN S m) (nI k) := by
  have hL := h.lo hl
  have hG := h.1.1.go
  have hv : ¬ dN S l 16 a < 0 := by
    rcases hL.find hP.gg hk with ⟨z, _⟩ | ⟨a', b1, b2, _, b4, _⟩
    · rw [z] at hf; exact absurd hf.symm (nIneg (by omega))
    · have : a' = a := nI_inj (by omega) (by omega) (b2.symm.trans hf)
      rw [← this, b4]; exact nI_pos (by omega)
  obtain ⟨k', v, k1, v5, k2, k3, k4, k5, hev, hrt, hit, _⟩ := hL.it2 hG hP.gg hs hkn ha hv
  have : k' = k := hL.tgu hP.gg k1 hk ha k3 hf
  subst this
  have hrep := hL.hd a k' ha hv k2 hk n hn hb
  have hA0 := hA
  obtain ⟨R, rc, _, _, _, _, _, _, her⟩ := hA
  have hnd := quiet_nd hP hA0 h hq hk hev hrt hit
  have one : ∀ m, m < P.nn → g.rep g.ep m k' → stb (dN S m) (nI k') ∨ (bt (msk P g g.ep k') m = false ∧ sec P g g.ep k') := fun m hm hr => by
    rcases (h.nu hm).rp g.ep k' hr ⟨hk, her m⟩ with q | q | ⟨e', q1, q2, q3⟩
    · exact absurd q hnd
    · exact Or.inl q
    · have : e' = g.ep := by have := q3.1; omega
      subst this
      exact Or.inr ⟨q2, q3⟩
  rcases one n hn hrep with q | ⟨_, q⟩
  · exact Or.inl q
  · right
    intro m hm hmk
    unfold mkA at hmk
    rw [k5] at hmk
    rcases one m hm (q.2.2 m hm hmk) with r | ⟨r, _⟩
    · exact r
    · rw [hmk] at r; cases r
/-- what the leader's table has stands somewhere -/
theorem tab_av {P : Pm} {g : Gh} {l a k : Nat} {S : SS} (hP : PmO P) (hl : l < P.nn) (hA : AV P g) (h : RG P g l S) (hc : CSt P l g S) (ha : a < 961) (hk : k < 5243392) (hf : fndI (dN S l 15) (dN S l 16) (nI k) = nI a) : ∃ n, n < P.nn ∧ stb (dN S n) (nI k) := by
  obtain ⟨hkn, hq, hfu, hs, hbg⟩ := hc
  have hL := h.lo hl
  have hG := h.1.1.go
  have h5 := hG.1
  have hv : ¬ dN S l 16 a < 0 := by
    rcases hL.find hP.gg hk with ⟨z, _⟩ | ⟨a', b1, b2, _, b4, _⟩
    · rw [z] at hf; exact absurd hf.symm (nIneg (by omega))
    · have : a' = a := nI_inj (by omega) (by omega) (b2.symm.trans hf)
      rw [← this, b4]; exact nI_pos (by omega)
  obtain ⟨k', v, k1, v5, k2, k3, k4, k5, hev, hrt, hit, hkp⟩ := hL.it2 hG hP.gg (by rw [hs]; decide) hkn ha hv
  have : k' = k := hL.tgu hP.gg k1 hk ha k3 hf
  subst this
  refine want_av hP hA h hq hk hev hrt hit ?_
  rcases Nat.lt_or_ge k' 5242880 with q | q
  · exact hkp q
  · -- the ROOT
    obtain ⟨_, e2, e3, e4, _, _, _, _, _, e10⟩ := h.he
    obtain ⟨r, zr⟩ := hL.idle (by rw [hs]; decide)
    have hr1 := zr.r1
    have hit' : k' / 10240 = 512 ∧ nI v = nI (k' % 512) := by
      rcases hit with w | ⟨w, _⟩
      · exact w
      · omega
    have hvk : v = k' % 512 := nI_inj (by omega) (by omega) hit'.2
    have hkr : k' = rtg v := by
      unfold rtg tgN
      omega
    rw [hkr]
    apply e10 v v5
    have hw : efv g.ops r = nI v := by rw [← zr.rt]; exact hrt
    obtain ⟨v1, _⟩ := efv_lt hw v5 (by omega)
    obtain ⟨v', w1, w2, w3⟩ := efv_up hw v1 (heN S) (by omega) (by omega)
    have := quiet_rt hP hA h hq v' (by omega) w3
    rw [hrt] at this
    have := (nI_leI (by omega) (by omega)).mp this
    have : v' = v := by omega
    rw [w3, this]
theorem unS_ex {P : Pm} {g : Gh} {a k : Nat} {D : Nat → Nat → Int32} {K : Int64} (hP : PmO P) (hA : AV P g) (hL : LO P g g.ep D K) (ha : a < 961) (hk : k < 5243392) (hf : fndI (D 15) (D 16) (nI k) = nI a) (hu : unS P.gg D a) : ∃ n, n < P.nn ∧ bt (mkA P.gg D a) n = true ∧ bt (D 17 a) n = false := by
  have hm := mkA_ms hP.gg hL ha hk hf
  have hnn := hP.nn
  apply Classical.byContradiction
  intro hno
  obtain ⟨u1, u2⟩ := hu
  unfold sfB at u2
  have c : 0 ≤ D 16 a ∧ ¬ D 8 (grp (D 11) P.gg a) = 0 ∧ D 17 a &&& D 8 (grp (D 11) P.gg a) = D 8 (grp (D 11) P.gg a) := by
    refine ⟨Int32.not_lt.mp u1, ?_, (bt_sub _ _).mpr (fun i hi hb => ?_)⟩
    · rw [hL.l2 _ (grp_lt _ hP.gg a)]; exact gm_ne hP hA
    · have hin : i < P.nn := by
        rcases Nat.lt_or_ge i P.nn with q | q
        · exact q
        · have : bt (mkA P.gg D a) i = false := by rw [hm]; exact msk_out hP q
          unfold mkA at this
          rw [this] at hb; cases hb
      cases e : bt (D 17 a) i with
      | true => rfl
      | false => exact absurd ⟨i, hin, hb, e⟩ hno
  rw [if_pos c] at u2
  exact absurd u2 (by decide)
theorem safe_b {gg a : Nat} {D : Nat → Nat → Int32} (hv : ¬ D 16 a < 0) (hu : ¬ unS gg D a) : ∀ m, m < 32 → bt (mkA gg D a) m = true → bt (D 17 a) m = true := fun m hm hb => by
  have u2 : ¬ sfB (D 8) (D 11) (D 16) (D 17) gg a = 0 := fun z => hu ⟨hv, z⟩
  unfold sfB at u2
  by_cases c : 0 ≤ D 16 a ∧ ¬ D 8 (grp (D 11) gg a) = 0 ∧ D 17 a &&& D 8 (grp (D 11) gg a) = D 8 (grp (D 11) gg a)
  · exact (bt_sub _ _).mp c.2.2 m hm hb
  · rw [if_neg c] at u2; exact absurd rfl u2
theorem mxA_b {gg a n : Nat} {D : Nat → Nat → Int32} : bt (mxA gg D a) n = (bt (mkA gg D a) n && (bt (D 17 a) n ^^ bt (-1) n) && bt (D 7 9) n) := by
  unfold mxA mkA
  rw [b_and, b_and, b_xor]

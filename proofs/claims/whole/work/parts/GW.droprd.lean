/-! all is safe: a round in which what is not wanted goes -/
theorem NU.tk {P : Pm} {g : Gh} {n e s : Nat} {D : Nat → Nat → Int32} {K : Int64} (h : NU P g n e D K) (hs : s < 280) (ht : ¬ D 6 s = -1) : ∃ k, k < 5243392 ∧ D 6 s = nI k ∧ eff g (k % 512) ∧ uk g k ∧ isIt (tsp g.ops (k % 512 + 1)) (nI (k % 512)) k := by
  obtain ⟨w, ⟨⟨k, k1, k2, k3, k4, k5, _⟩, _, k', b1, b2, b3⟩, w2⟩ := DU.tag h.du hs ht
  have : k' = k := nI_inj (by omega) (by omega) (b2.symm.trans k2)
  subst this
  exact ⟨k', k1, by rw [← w2]; exact k2, ⟨k3, k4⟩, b3, k5⟩
/-- the leader's ROOT is the newest -/
def NWt (l : Nat) (g : Gh) (T : SS) : Prop := ∀ v, eff g v → ∃ w, w < 512 ∧ dN T l 16 960 = nI w ∧ v ≤ w
theorem CSt.rt {P : Pm} {g : Gh} {l : Nat} {S : SS} (hP : PmO P) (hl : l < P.nn) (hA : AV P g) (h : RG P g l S) (hc : CSt P l g S) : NWt l g S := fun v hv => by
  obtain ⟨_, hq, _, _, hbg⟩ := hc
  have h5 := h.1.1.go.1
  have hv1 := hv.1
  obtain ⟨v', w1, w2, w3⟩ := efv_up (efv_s hv.2) (Nat.lt_succ_self v) g.bg (by omega) (by omega)
  rw [← hbg] at w3
  have := quiet_rt hP hA h hq v' (by omega) w3
  rcases (h.lo hl).rt5 h.1.1.go with z | ⟨w, z1, z2⟩
  · rw [z] at this
    exact absurd (Int32.lt_of_le_of_lt this (by decide)) (nI_pos (by omega))
  · rw [z2] at this
    have := (nI_leI (by omega) (by omega)).mp this
    exact ⟨w, z1, z2, by omega⟩
/-- what is not wanted is on its way out -/
def JO (P : Pm) (l : Nat) (T S : SS) : Prop := ∀ n t, n < P.nn → Jk P.gg (dN T l) n t → mem (dN S n) t → (∃ y ∈ S.2.2.1, y.1 0 = 4 ∧ y.1 1 = nI l ∧ y.1 2 = nI n) ∨ (∃ y ∈ S.2.2.1, y.1 0 = 5 ∧ y.1 1 = nI n ∧ y.1 2 = nI l ∧ hvT y t) ∨ ∃ y ∈ S.2.2.1, y.1 0 = 12 ∧ y.1 2 = nI n ∧ hvT y t
def allSf (P : Pm) (l : Nat) (T : SS) : Prop := ∀ a, a < 961 → ¬ dN T l 16 a < 0 → ∀ m, m < 32 → bt (mkA P.gg (dN T l) a) m = true → bt (dN T l 17 a) m = true
theorem JO.st {P : Pm} {g g' : Gh} {l : Nat} {x : Mg} {Z : List Mg} {T S S' : SS} (hP : PmO P) (hl : l < P.nn) (hA : AV P g) (hsT : dN T l 18 3 = 0) (h : RG P g l S) (hst : St1 P g l x Z S S') (h' : RG P g' l S') (hq : GQ P l S) (hv : CDv P l g.ep T S) (hsafe : allSf P l T) (hroot : NWt l g T) (hj : JO P l T S) : JO P l T S' := fun n t hn hJ hm' => by
  have hnn := hP.nn
  obtain ⟨⟨d1, d1k⟩, d2, d3, d4, d5, d6, d7, d8, d9, d10, d11⟩ := hv
  have hL := h.lo hl
  have hG := h.1.1.go
  have e15 : dN S l 15 = dN T l 15 := d1 15 (by decide)
  have e16 : dN S l 16 = dN T l 16 := d1 16 (by decide)
  have emk : ∀ a, mkA P.gg (dN S l) a = mkA P.gg (dN T l) a := fun a => by unfold mkA; rw [d1 8 (by decide), d1 11 (by decide)]
  have hlt128 := hst.lt h.2.1
  have hm'0 := hm'
  obtain ⟨s', s1', s2'⟩ := hm'
  obtain ⟨k', k1', k2', _⟩ := NU.tk (h'.nu hn) s1' (by show ¬ dN S' n 6 s' = -1; rw [s2']; exact hJ.1)
  have htk : t = nI k' := by rw [← s2']; exact k2'
  have hm : mem (dN S n) t := by
    rcases hst.mm hP hl (by rw [htk]; exact nI_pos (by omega)) hm'0 with w | ⟨w1, w2, w3⟩
    · exact w
    · exfalso
      obtain ⟨k2, a, b1, a1, b2, a2⟩ := d3 x hst.head (Or.inr w1)
      obtain ⟨e, n', k'', m1, m2, m3, m4, m5, m6, m7⟩ := hst.2.2.2.1.2.1 w1
      have hne : n' = n := nI_inj (by omega) (by omega) (m3.symm.trans w2)
      have hke : k'' = k2 := nI_inj (by omega) (by omega) (m5.symm.trans b2)
      have hee : e = g.ep := by
        have := h.1.1.ep.1
        exact nI_inj (by omega) (by omega) (m1.symm.trans hst.2.2.1.ep.1)
      subst hne hke hee
      have w := hJ.2 a a1 (by rw [← w3, b2]; exact a2)
      rw [← emk, mkA_ms hP.gg hL a1 b1 (by rw [e15, e16]; exact a2)] at w
      rw [w] at m7; cases m7
  have hm0 := hm
  obtain ⟨s, s1, s2⟩ := hm
  obtain ⟨k, k1, k2, k3, _, _⟩ := NU.tk (h.nu hn) s1 (by show ¬ dN S n 6 s = -1; rw [s2]; exact hJ.1)
  have htk : t = nI k := by rw [← s2]; exact k2
  have hsb : stb (dN S n) t := by
    by_cases c5 : dN S n 5 s = -1
    · exact ⟨s, s1, s2, c5⟩
    · exfalso
      obtain ⟨a, a1, a2, a3⟩ := d4 n k hn k1 ⟨s, s1, by rw [s2, htk], c5⟩
      rw [hJ.2 a a1 (by rw [htk]; exact a2)] at a3; cases a3
  rcases hj n t hn hJ hm0 with ⟨y, y1, y2, y3, y4⟩ | ⟨y, y1, y2, y3, y4, y5⟩ | ⟨y, y1, y2, y3, y4⟩
  · rcases hst.old y1 with e | ⟨y', c1, c2⟩
    · subst e
      right; left
      rcases hst.cs hnn hl with ⟨c, _⟩ | ⟨j, j1, j2, _, _, _, _, _, _, _, hr, _⟩ | ⟨_, c, _⟩ | ⟨_, _, c, _⟩
      · have := nI_inj (by omega) (by omega) (c.symm.trans y4)
        omega
      · have : j = n := nI_inj (by omega) (by omega) (j2.symm.trans y4)
        subst this
        rcases hr with ⟨c, _⟩ | ⟨_, _, e⟩ | ⟨c, _⟩ | ⟨c, _⟩ | ⟨c, _⟩ | ⟨c, _⟩
        · rw [y2] at c; exact absurd c (by decide)
        · obtain ⟨w, w1, w2⟩ := hst.new (z := mLS j (dN S j) (y.1 1)) (by rw [e]; exact psl_new hlt128)
          obtain ⟨u0, u1, u2, u3, u6, c', u7, u8, u9, u10, u11⟩ := mLS_v (to := y.1 1) (h.nu hn)
          obtain ⟨i, i1', i2'⟩ := u11 t (by rw [htk]; exact nI_pos (by omega)) hsb
          have hw5 : w.1 0 = 5 := by rw [w2.1]; exact u0
          exact ⟨w, w1, hw5, by rw [w2.1]; exact u1, by rw [w2.1, u2]; exact y3, hvT_sy w2 (Or.inl hw5) ⟨i, by rw [u8, nI_clamp (by omega)]; exact i1', i2'⟩⟩
        · rw [y2] at c; exact absurd c (by decide)
        · rw [y2] at c; exact absurd c (by decide)
        · rw [y2] at c; exact absurd c (by decide)
        · rw [y2] at c; exact absurd c (by decide)
      · exact absurd (Or.inr (Or.inl y2)) c
      · exact absurd (Or.inr (Or.inl y2)) (c n hn y4)
    · exact Or.inl ⟨y', c1, by rw [c2.1]; exact y2, by rw [c2.1]; exact y3, by rw [c2.1]; exact y4⟩
  · right
    rcases hst.old y1 with e | ⟨y', c1, c2⟩
    · subst e
      right
      rcases hst.cs hnn hl with ⟨c, _⟩ | ⟨j, _, _, j3, _⟩ | ⟨_, _, _, _, _, e⟩ | ⟨_, c, _⟩
      · have := nI_inj (by omega) (by omega) (c.symm.trans y4)
        omega
      · rw [y2] at j3
        rcases j3 with z | z | z | z | z | z <;> exact absurd z (by decide)
      · have hs0 : dN S l 18 3 = 0 := by rw [d1 18 (by decide)]; exact hsT
        obtain ⟨_, _, Z6, r1, _, r3, _⟩ := e.d0 hG (SU.b12 h.1.1) hP.gg hnn hL hst.2.2.1 hst.2.2.2.1 hq.1 (fun z k hk e => hq.2.2.2.1 y k hst.head z hk e) hs0 (by rw [y2]; decide) (by rw [y2]; decide)
        obtain ⟨w, w5, w6, w7⟩ := hroot (k % 512) k3
        have hkv : ¬ dN S l 16 960 < (t - t / 512 * 512) := by
          rw [htk, ver_t (by omega), e16, w6]
          exact fun z => absurd ((nI_ltI (by omega) (by omega)).mp z) (by omega)
        have h960 : ¬ dN T l 16 960 < 0 := by rw [w6]; exact nI_pos (by omega)
        have hbits : ∀ a m, a < 961 → ¬ dN T l 16 a < 0 → m < 32 → bt (mkA P.gg (dN S l) a) m = true → bt (dN S l 17 a) m = true := fun a m ha hva hm hb => by
          rw [emk] at hb
          exact d8 a m ha hm hb (hsafe a ha hva m hm hb)
        have hsf : ¬ sfB (dN S l 8) (dN S l 11) (dN S l 16) (dN S l 17) P.gg 960 = 0 := by
          unfold sfB
          rw [if_pos ⟨by rw [e16]; exact Int32.not_lt.mp h960, by rw [hL.l2 _ (grp_lt _ hP.gg 960)]; exact gm_ne hP hA, (bt_sub _ _).mpr (fun i hi hb => hbits 960 i (by omega) h960 hi hb)⟩]
          decide
        have hjs : jS P.gg (dN S l) (kN S l) n t := by
          rcases (hL.fdO hP.gg k1).1 with q | ⟨a, a1, a2⟩
          · exact Or.inl ⟨by rw [htk]; exact q, hq.1, hkv⟩
          · right
            have hva : ¬ dN T l 16 a < 0 := by
              rw [← e16]
              rcases hL.find hP.gg k1 with ⟨z, _⟩ | ⟨a', b1, b2, _, b4, _⟩
              · rw [z] at a2; exact absurd a2.symm (nIneg (by omega))
              · have : a' = a := nI_inj (by omega) (by omega) (b2.symm.trans a2)
                rw [← this, b4]; exact nI_pos (by omega)
            refine ⟨a, a1, by rw [htk]; exact a2, ?_, by rw [hL.l2 _ (grp_lt _ hP.gg a)]; exact gm_ne hP hA, fun m hm hb => hbits a m a1 hva hm hb⟩
            have := hJ.2 a a1 (by rw [htk, ← e15, ← e16]; exact a2)
            rw [← emk] at this
            exact this
        obtain ⟨z, z1, z2, z3, z4⟩ := r3 y2 hsf n t hn y3 y5 hjs
        obtain ⟨w', w1', w2'⟩ := hst.new (z := z) (by rw [r1, z1]; exact psl_new hlt128)
        have h12 : w'.1 0 = 12 := by rw [w2'.1]; exact z2
        exact ⟨w', w1', h12, by rw [w2'.1, z3]; exact y3, hvT_sy w2' (Or.inr (Or.inr h12)) z4⟩
      · exact absurd y4 c
    · exact Or.inl ⟨y', c1, by rw [c2.1]; exact y2, by rw [c2.1]; exact y3, by rw [c2.1]; exact y4, hvT_sy c2 (by rw [c2.1]; exact Or.inl y2) y5⟩
  · right; right
    rcases hst.old y1 with e | ⟨y', c1, c2⟩
    · subst e
      exfalso
      rcases hst.cs hnn hl with ⟨c, _⟩ | ⟨j, j1, j2, _, _, _, _, _, _, _, hr, _⟩ | ⟨_, c, _⟩ | ⟨_, _, c, _⟩
      · have := nI_inj (by omega) (by omega) (c.symm.trans y3)
        omega
      · have : j = n := nI_inj (by omega) (by omega) (j2.symm.trans y3)
        subst this
        rcases hr with ⟨c, _⟩ | ⟨c, _⟩ | ⟨c, _⟩ | ⟨c, _⟩ | ⟨c, _⟩ | ⟨_, _, _, _, c⟩
        · rw [y2] at c; exact absurd c (by decide)
        · rw [y2] at c; exact absurd c (by decide)
        · rw [y2] at c; exact absurd c (by decide)
        · rw [y2] at c; exact absurd c (by decide)
        · rw [y2] at c; exact absurd c (by decide)
        · obtain ⟨i, i1, i2⟩ := y4
          exact c i i1 (by rw [i2]; exact hm'0)
      · exact absurd (Or.inr (Or.inr (Or.inr (Or.inr (Or.inr y2))))) c
      · exact absurd (Or.inr (Or.inr (Or.inr (Or.inr (Or.inr y2))))) (c n hn y3)
    · exact ⟨y', c1, by rw [c2.1]; exact y2, by rw [c2.1]; exact y3, hvT_sy c2 (by rw [c2.1]; exact Or.inr (Or.inr y2)) y4⟩

/-! an OPERATION is taken -/
/-- all NODES were heard of -/
def HFu (P : Pm) (D : Nat → Nat → Int32) : Prop := ∀ n, n < P.nn → bt (D 7 9) n = true
theorem St1.hf {P : Pm} {g : Gh} {l n : Nat} {x : Mg} {Z : List Mg} {S S' : SS} (hP : PmO P) (hl : l < P.nn) (h : RG P g l S) (hst : St1 P g l x Z S S') (hb : bt (dN S l 7 9) n = true) : bt (dN S' l 7 9) n = true := by
  rcases hst.cs hP.nn hl with ⟨_, e, _⟩ | ⟨j, _, _, _, _, _, _, _, _, e3, _⟩ | ⟨_, _, _, _, _, e⟩ | ⟨_, _, _, _, _, e, _⟩
  · show bt (S'.2.2.2.1 l 7 9) n = true
    rw [e]; exact hb
  · rw [e3 l 7 (by omega)]; exact hb
  · obtain ⟨D1, K1, Z1, Z2, _, _, _, _, e5, _, _, _, e9, _⟩ := e
    rw [e9.1 9 (by decide) (by decide), e5.2.2]
    split
    · exact hb
    · rw [b_or, hb]; rfl
  · show bt (S'.2.2.2.1 l 7 9) n = true
    rw [e]; exact hb
theorem msk_out {P : Pm} {g : Gh} {e k j : Nat} (hP : PmO P) (hj : P.nn ≤ j) : bt (msk P g e k) j = false := by
  have := mof_bits hP.f hP.nn P.C (g.mp e) P.nn (gr P.gg k * P.nn) 0 0 (fun x _ => b_0 x) j hj
  unfold msk gm mof2
  split
  · exact this
  · exact b_0 j
theorem gm_out {P : Pm} {set : Int32} {i j : Nat} (hP : PmO P) (hj : P.nn ≤ j) : bt (gm P.nn P.C P.f set i) j = false := by
  have := mof_bits hP.f hP.nn P.C set P.nn (i * P.nn) 0 0 (fun x _ => b_0 x) j hj
  unfold gm mof2
  split
  · exact this
  · exact b_0 j
theorem gm_ne {P : Pm} {g : Gh} {i : Nat} (hP : PmO P) (hA : AV P g) : ¬ gm P.nn P.C P.f (g.mp g.ep) i = 0 := by
  obtain ⟨R, rc, hK, hC, hR, hE, hrc, hmp, _⟩ := hA
  rw [hmp, hC]
  exact gm_all hP.f hP.nn hR (by omega) i
theorem rd_full {P : Pm} {g : Gh} {D : Nat → Nat → Int32} {K : Int64} {i : Nat} (hP : PmO P) (hA : AV P g) (hL : LO P g g.ep D K) (hf : HFu P D) (hi : i < P.gg) : ¬ rdB (D 8) (D 7 9) i = 0 := by
  have h8 := hL.l2 i hi
  have hnn := hP.nn
  intro z
  unfold rdB at z
  by_cases c : ¬ D 8 i = 0 ∧ (D 7 9) &&& (D 8 i) = D 8 i
  · rw [if_pos c] at z; exact absurd z (by decide)
  · apply c
    refine ⟨by rw [h8]; exact gm_ne hP hA, (bt_sub _ _).mpr (fun j hj hb => ?_)⟩
    rcases Nat.lt_or_ge j P.nn with q | q
    · exact hf j q
    · rw [h8, gm_out hP q] at hb; cases hb
/-- the leader's ROOT is no older than the newest that was heard of -/
def RTn (g : Gh) (h0 : Nat) (D : Nat → Nat → Int32) : Prop := ∀ v, v < 512 → efv g.ops h0 = nI v → nI v ≤ D 16 960
theorem quiet_rt {P : Pm} {g : Gh} {l : Nat} {S : SS} (hP : PmO P) (hA : AV P g) (h : RG P g l S) (hq : ∀ n k, n < P.nn → k < 5243392 → mem (dN S n) (nI k) → ¬ nwO (dN S l 16 960) (nI k)) : RTn g (heN S) (dN S l) := fun v hv he => by
  obtain ⟨_, e2, e3, e4, _, _, _, _, _, e10⟩ := h.he
  obtain ⟨t1, t2, t3⟩ := rtg_v hv
  obtain ⟨v1, v2⟩ := efv_lt he hv (by omega)
  have hev : eff g v := ⟨by omega, v2⟩
  have key : ∀ n r, n < P.nn → v ≤ r → r < 512 → stb (dN S n) (nI (rtg r)) → nI v ≤ dN S l 16 960 := fun n r hn hr hr5 ⟨s, s1, s2, _⟩ => by
    obtain ⟨u1, u2, u3⟩ := rtg_v hr5
    have := hq n (rtg r) hn u1 ⟨s, s1, s2⟩
    have hver : (nI (rtg r) - nI (rtg r) / 512 * 512 : Int32) = nI r := by rw [ver_t (by omega), u3]
    by_cases c : nI r ≤ dN S l 16 960
    · exact Int32.le_trans (nI_le hr (by omega)) c
    · exfalso
      refine this ⟨fun z => ?_, by rw [hver]; exact c⟩
      rcases rtB_or (nI (rtg r)) with ⟨_, r1⟩ | ⟨r0, _⟩
      · exact r1 (rtg r) (by omega) rfl u2
      · rw [r0] at z; exact absurd z (by decide)
  rcases kept_or hP hA h.1 hev t1 (Or.inl ⟨t2, by rw [t3]⟩) (e10 v hv he) with ⟨n, n1, n2⟩ | ⟨n, r, n1, n2, n3, n4⟩
  · exact key n v n1 (Nat.le_refl _) hv n2
  · exact key n r n1 (by omega) (by omega) n4
/-- a leader that waits and may go on goes on -/
theorem goon_pl {P : Pm} {g : Gh} {me : Int32} {u b : Nat → Int32} {D D' : Nat → Nat → Int32} {K A K' A' : Int64} {Y Y' : List Mg} {h0 : Nat} (hP : PmO P) (hG : GO g) (hL : LO P g g.ep D K) (hs : D 18 3 = 1) (hop : D 18 4 = nI h0) (h05 : h0 < 512) (hkn : ¬ knA K (D 10 9) = 0) (hrd : ¬ rdB (D 8) (D 7 9) 0 = 0) (hrt : RTn g h0 D) (hw : D 16 960 = -1 ∨ ∃ w, w ≤ h0 ∧ D 16 960 = nI w)
    (hF : F_91 P.nn P.gg P.C me P.f u b D K A Y = (D', K', A', Y')) : (2 ≤ D' 18 3 ∧ D' 18 4 = nI h0) ∨ ∃ z Zp, Y' = psl (psl Y [z]) Zp ∧ z.1 0 = 3 ∧ z.1 2 = nI P.nn ∧ z.1 5 = nI h0 := by
  have hnn := hP.nn
  have h5 := hG.1
  obtain ⟨o, zo⟩ := hL.wa (by rw [hs]; decide)
  have ho : o = h0 := by
    have := zo.o1
    exact nI_inj (by omega) (by omega) (zo.ak.op.symm.trans hop)
  subst ho
  obtain ⟨D1, r1, r2, r3⟩ := plan_all (me := me) (u := u) (b := b) (A := A) (Y := Y) hG hL hs hkn
  obtain ⟨p1, p2, p3⟩ := plan_x hG hL hs hkn r1
  have hstp : D1 18 3 = 2 ∨ D1 18 3 = 3 ∨ D1 18 3 = 5 := by
    rcases p3 with ⟨q, _⟩ | ⟨_, _, q⟩ | ⟨_, _, _, q | q⟩ | ⟨q1, q2, q3, _⟩
    · exfalso
      apply q
      rw [hop]
      rcases hw with z | ⟨w, w1, w2⟩
      · rw [z]
        exact Int32.le_of_lt (Int32.lt_of_lt_of_le (show (-1 : Int32) < 0 by decide) (Int32.not_lt.mp (nI_pos (by omega))))
      · rw [w2]; exact nI_le w1 (by omega)
    · exact Or.inr (Or.inl q)
    · exact Or.inr (Or.inr q)
    · exact Or.inl q
    · exfalso
      apply q3
      rw [zo.bf]
      obtain ⟨r, zr⟩ := hL.idle (by rw [hs]; decide)
      have hr1 := zr.r1
      rw [zr.rt]
      rcases efv_or g.ops r with z | ⟨w, w1, w2, w3, _⟩
      · rw [z]
        rcases efv_or g.ops o with y | ⟨v, v1, v2, _⟩
        · exact y.symm
        · have := hrt v (by omega) v2
          rw [zr.rt, z] at this
          exact absurd (Int32.lt_of_le_of_lt this (by decide)) (nI_pos (by omega))
      · rw [zr.rt, w2, hop] at q1 q2
        have q1 := (nI_leI (by omega) (by omega)).mp q1
        have hne : ¬ w = o := fun z => q2 (by rw [z])
        obtain ⟨v, v1, v2, v3⟩ := efv_up (efv_s w3) (Nat.lt_succ_self w) o (by omega) (by omega)
        have := hrt v (by omega) v3
        rw [zr.rt, w2] at this
        have := (nI_leI (by omega) (by omega)).mp this
        rw [w2, v3]
        congr 1
        omega
  have hH : GIh P g g.ep me u b A Y (fun D2 _ Zt => D2 18 4 = nI o ∧ ((Zt = [] ∧ 2 ≤ D2 18 3) ∨ ∃ z, Zt = [z] ∧ z.1 0 = 3 ∧ z.1 2 = nI P.nn ∧ z.1 5 = nI o)) := by
    refine ⟨fun D1 D2 K1 hL hs hk _ hF _ hL2 hI => ?_, fun D1 D2 K1 K2 hL hs h12 hq _ hL2 hI => ?_, fun D1 D2 K1 hL hs ha hq _ hL2 hI => ?_, fun D1 K1 hL hs _ _ hI => ?_, fun D1 K1 tl hT _ hI => ?_⟩
    · obtain ⟨_, i2⟩ := hI
      exfalso
      rcases i2 with ⟨_, z⟩ | ⟨z, z1, _⟩
      · rw [hs] at z; exact absurd z (by decide)
      · cases z1
    · refine ⟨(change_op hG hL hs h12 hq).1.trans hI.1, Or.inl ⟨rfl, ?_⟩⟩
      rcases (change_x hG hL hs h12 hq).2 with q | ⟨q, _⟩ <;> rw [q] <;> decide
    · exact ⟨(root_op hq 4 (by decide)).trans hI.1, Or.inl ⟨rfl, by rw [(root_x hq).1]; decide⟩⟩
    · refine ⟨?_, Or.inl ⟨rfl, ?_⟩⟩
      · show va_up (va_up D1 7 (upd (upd (D1 7) 10 0) 14 0)) 18 (upd (D1 18) 3 5) 18 4 = _
        rw [va_up_s, pk_un (by decide)]; exact hI.1
      · show 2 ≤ va_up (va_up D1 7 (upd (upd (D1 7) 10 0) 14 0)) 18 (upd (D1 18) 3 5) 18 3
        rw [va_up_s, pk_us]; decide
    · have w : ∀ x, x ≠ 5 → x ≠ 6 → x ≠ 7 → (mTL P.nn me D1 tl).1 x = mg 3 me (nI P.nn) (D1 7 7) (D1 7 8) x := fun x a1 a2 a3 => by
        show va_up (va_up (va_up (mg 3 me (nI P.nn) (D1 7 7) (D1 7 8)) 5 (D1 18 4)) 6 (D1 18 5)) 7 (nI tl) x = _
        rw [va_up_n _ _ a3, va_up_n _ _ a2, va_up_n _ _ a1]
      refine ⟨?_, Or.inr ⟨_, rfl, w 0 (by decide) (by decide) (by decide), w 2 (by decide) (by decide) (by decide), ?_⟩⟩
      · show va_up D1 18 (upd (D1 18) 3 0) 18 4 = _
        rw [va_up_s, pk_un (by decide)]; exact hI.1
      · show va_up (va_up (va_up (mg 3 me (nI P.nn) (D1 7 7) (D1 7 8)) 5 (D1 18 4)) 6 (D1 18 5)) 7 (nI tl) 5 = _
        rw [va_up_n _ _ (by decide), va_up_n _ _ (by decide), va_up_s]; exact hI.1
  have hk2 : F_91 P.nn P.gg P.C me P.f u b D K A Y = F_91_k2 P.nn P.gg P.C me P.f u b D1 K A Y (D 18 3) := by
    unfold F_91
    rw [bnI_e, if_neg (fun z => z hs), if_neg hkn, if_neg hrd, r1, bnS_e]
  obtain ⟨D2, K2, Zt, Zp, w1, w2, _, _⟩ := gi2 (w1 := D 18 3) hG hP.gg hH hnn r3 ⟨p1.trans hop, Or.inl ⟨rfl, by rcases hstp with q | q | q <;> rw [q] <;> decide⟩⟩
  rw [hk2, w1, Prod.mk.injEq, Prod.mk.injEq, Prod.mk.injEq] at hF
  obtain ⟨e1, _, _, e4⟩ := hF
  subst e1
  rcases w2.2 with ⟨_, q⟩ | ⟨z, z1, z2, z3, z4⟩
  · exact Or.inl ⟨q, w2.1⟩
  · exact Or.inr ⟨z, Zp, by rw [← e4, z1], z2, z3, z4⟩

/-! a round of mending from its TICK on; a round that drops what is not wanted -/
theorem cdv_T {P : Pm} {g : Gh} {l : Nat} {S T : SS} (hP : PmO P) (hl : l < P.nn) (h : RST P l g S) (hc : CSt P l g S) (htk : tkR P.nn P.gg P.C P.f S T) : ∃ g1 Zs, Gs g g1 ∧ RG P g1 l T ∧ T1 P g l S T Zs ∧ GQ P l T ∧ AV P g1 ∧ QNs P l T ∧ CDv P l g1.ep T T ∧ (∀ q, 7 < q → dN T l q = dN S l q) ∧ kN T l = kN S l ∧ (∀ x, x ≠ 12 → x ≠ 13 → x ≠ 14 → dN T l 7 x = dN S l 7 x) := by
  have hnn := hP.nn
  obtain ⟨hR, hms, hPD, hA⟩ := h
  have hc0 := hc
  obtain ⟨hkn, hq, hfu, hs, hbg⟩ := hc
  obtain ⟨g1, Zs, hg1, hT, ht⟩ := hR.tk hP hl hms htk
  obtain ⟨e1, e2, e3, e4, e5, e6, eK, _, _⟩ := ht.ld hl
  have e6 := e6 (by rw [hs]; decide)
  have hL := hR.lo hl
  have hG := hR.1.1.go
  have hsT : dN T l 18 3 = 0 := by rw [e6 18 (by decide)]; exact hs
  have hs2 : dN S l 18 3 ≤ 2 := by rw [hs]; decide
  have hGQ := ht.gq hP hl hR hkn (Or.inr hq)
  have hna := ht.na hl hR hbg
  obtain ⟨D1, D2, Zw, f2, wz, _, w4, wk⟩ := ht.wz hl
  have f18 : D1 18 = dN S l 18 := f2 18 (by decide) (by decide) (by decide)
  have emk : ∀ a, mkA P.gg (dN T l) a = mkA P.gg (dN S l) a := fun a => by unfold mkA; rw [e6 8 (by decide), e6 11 (by decide)]
  -- an ITEM of the table
  have hitem : ∀ a, a < 961 → ¬ dN S l 16 a < 0 → ∃ k, k < 5243392 ∧ tgA (dN S l 11) (dN S l 16) a = nI k ∧ fndI (dN S l 15) (dN S l 16) (nI k) = nI a := fun a ha hv => by
    obtain ⟨k, k1, k2, k3, _⟩ := hL.tgf hG hP.gg ha hv
    exact ⟨k, k1, k2, k3⟩
  have hunS : ∀ a, unS P.gg D1 a ↔ unS P.gg (dN S l) a := fun a => by
    unfold unS
    rw [f2 16 (by decide) (by decide) (by decide), f2 8 (by decide) (by decide) (by decide), f2 11 (by decide) (by decide) (by decide), f2 17 (by decide) (by decide) (by decide)]
  obtain ⟨Dq, Zp, Zq, Zm, x1, x2, x3, ⟨tu, tu1, tu2⟩, ⟨_, x4⟩, x5, x6, x7⟩ := wz
  have hDq : ∀ q, q ≠ 7 → q ≠ 1 → q ≠ 2 → q ≠ 5 → Dq q = dN S l q := fun q a b c d => by rw [x2 q a, f2 q b c d]
  have hq18 : Dq 18 = dN S l 18 := hDq 18 (by decide) (by decide) (by decide) (by decide)
  have hq17 : Dq 17 = dN S l 17 := hDq 17 (by decide) (by decide) (by decide) (by decide)
  have hq11 : Dq 11 = dN S l 11 := hDq 11 (by decide) (by decide) (by decide) (by decide)
  have hq16 : Dq 16 = dN S l 16 := hDq 16 (by decide) (by decide) (by decide) (by decide)
  have htu : (Dq 7 13).toNatClampNeg = tu := by rw [tu2, nI_clamp (by omega)]
  have hZq : Zq = [] := by
    rcases x6 with ⟨q, _⟩ | ⟨q, _⟩ | ⟨q, _⟩ | ⟨_, _, _, q⟩
    · rw [hq18, hs] at q; exact absurd q (by decide)
    · rw [hq18, hs] at q; exact absurd q (by decide)
    · rw [hq18, hs] at q; exact absurd q (by decide)
    · exact q
  have hZm : ∀ z ∈ Zm, ∃ a n, a < 961 ∧ n < P.nn ∧ unS P.gg (dN S l) a ∧ ¬ dN S l 17 a = 0 ∧ z = mSE P.nn (nI l) Dq a n := fun z hz => by
    rcases x7 with ⟨q, _⟩ | ⟨_, _, _, ⟨_, q⟩, _⟩
    · rw [q] at hz; cases hz
    · obtain ⟨a, n, a1, n1, a2, a3, _, a5⟩ := q z hz
      exact ⟨a, n, a1, n1, (hunS a).mp a2, by rw [← f2 17 (by decide) (by decide) (by decide)]; exact a3, a5⟩
  have hkd : ∀ y ∈ T.2.2.1, y.1 0 = 0 ∨ y.1 0 = 11 ∨ y.1 0 = 4 ∨ (y.1 0 = 9 ∧ ∃ a n, a < 961 ∧ n < P.nn ∧ unS P.gg (dN S l) a ∧ ¬ dN S l 17 a = 0 ∧ y.1 = (mSE P.nn (nI l) Dq a n).1) := fun y hy => by
    rcases wk y hy with q | q | q | ⟨z, z1, z2⟩
    · exact Or.inl q
    · exact absurd q (hna y hy)
    · exact Or.inr (Or.inl q)
    · rw [x1, hZq, List.nil_append] at z1
      rcases List.mem_append.mp z1 with w | w
      · obtain ⟨j, _, _, _, q⟩ := x4 z w
        rw [z2.1, q]; exact Or.inr (Or.inr (Or.inl rfl))
      · obtain ⟨a, n, a1, n1, a2, a3, a5⟩ := hZm z w
        refine Or.inr (Or.inr (Or.inr ⟨by rw [z2.1, a5, mSE_0], a, n, a1, n1, a2, a3, by rw [z2.1, a5]⟩))
  -- SENDS
  have hse9 : ∀ y ∈ T.2.2.1, y.1 0 = 9 → ∃ a k, a < 961 ∧ k < 5243392 ∧ unS P.gg (dN S l) a ∧ y.1 5 = nI k ∧ fndI (dN S l 15) (dN S l 16) (nI k) = nI a ∧ y.1 2 = nI (oneO (dN S l 17 a) P.nn P.nn tu) := fun y hy h9 => by
    rcases hkd y hy with q | q | q | ⟨_, a, n, a1, n1, a2, a3, a5⟩
    · rw [h9] at q; exact absurd q (by decide)
    · rw [h9] at q; exact absurd q (by decide)
    · rw [h9] at q; exact absurd q (by decide)
    · obtain ⟨k, k1, k2, k3⟩ := hitem a a1 a2.1
      obtain ⟨_, _, v2, _, v5, _⟩ := mSE_v P.nn (nI l) Dq a n
      refine ⟨a, k, a1, k1, a2, ?_, k3, ?_⟩
      · rw [a5, v5, hq11, hq16]; exact k2
      · rw [a5, v2, hq17, htu]
  have hone : ∀ a, oneO (dN S l 17 a) P.nn P.nn tu < P.nn := fun a => oneO_lt _ (by omega) _ _ tu1
  have hstT : ∀ n, n < P.nn → ∀ t, stb (dN S n) t → stb (dN T n) t := fun n hn t ⟨s, s1, s2, _⟩ => (ht.st hn).1.mp ⟨s, s1, s2⟩
  have hbo : ∀ a k n, a < 961 → k < 5243392 → fndI (dN S l 15) (dN S l 16) (nI k) = nI a → n < P.nn → bt (dN S l 17 a) n = true → SEo P l a k n T T := fun a k n ha hk hf hn hb => by
    rcases bit_or hP hl hA hR hq hkn hs2 ha hk hf hn hb with q | q
    · exact Or.inl (hstT n hn _ q)
    · exact Or.inr (fun m hm hmk => hstT m hm _ (q m hm (by rw [← emk]; exact hmk)))
  have hvT0 : CDv P l g1.ep T T := by
    rw [hg1.ep]
    refine ⟨⟨fun _ _ => rfl, rfl⟩, fun y hy => ?_, fun y hy hk => ?_, fun n k hn hk hp => absurd hp (ht.st hn).2.2, fun y hy h12 => ?_, fun y hy h9 => ?_, fun y hy h8 => ?_, fun _ _ _ _ _ z => z, fun n k a hn hk ha hf hsb => ?_, fun _ _ _ _ _ _ _ _ => ⟨id, id⟩, fun n hn => ⟨?_, Nat.le_refl _⟩⟩
    · rcases hkd y hy with q | q | q | ⟨q, _⟩
      · exact Or.inl q
      · exact Or.inr (Or.inr (Or.inr (Or.inr (Or.inr (Or.inr (Or.inr (Or.inl q)))))))
      · exact Or.inr (Or.inr (Or.inl q))
      · exact Or.inr (Or.inr (Or.inr (Or.inr (Or.inr (Or.inl q)))))
    · rcases hk with hk | hk
      · obtain ⟨a, k, a1, k1, _, k3, k4, _⟩ := hse9 y hy hk
        exact ⟨k, a, k1, a1, k3, by rw [e6 15 (by decide), e6 16 (by decide)]; exact k4⟩
      · rcases hkd y hy with q | q | q | ⟨q, _⟩ <;> rw [hk] at q <;> exact absurd q (by decide)
    · rcases hkd y hy with q | q | q | ⟨q, _⟩ <;> rw [h12] at q <;> exact absurd q (by decide)
    · obtain ⟨a, k, a1, k1, a2, k3, k4, k5⟩ := hse9 y hy h9
      refine ⟨_, hone a, k5, fun k' a' hk' ha' h5 hf' => ?_⟩
      have hkk : k' = k := nI_inj (by omega) (by omega) (h5.symm.trans k3)
      subst hkk
      rw [e6 15 (by decide), e6 16 (by decide)] at hf'
      have haa : a' = a := nI_inj (by omega) (by omega) (hf'.symm.trans k4)
      subst haa
      by_cases cb : ∃ m, m < P.nn ∧ bt (dN S l 17 a') m = true
      · obtain ⟨m, m1, m2⟩ := cb
        obtain ⟨o1, o2⟩ := oneO_ok (x := dN S l 17 a') (N := P.nn) (t := tu) (by omega) tu1 m1 m2
        exact Or.inl (hbo a' k' _ a1 k1 k4 o1 o2)
      · by_cases cs : stb (dN T (oneO (dN S l 17 a') P.nn P.nn tu)) (nI k')
        · exact Or.inl (Or.inl cs)
        · right
          refine ⟨fun y2 hy2 h10 => ?_, fun y2 hy2 h92 h52 n hn h22 hm => ?_⟩
          · rcases hkd y2 hy2 with q | q | q | ⟨q, _⟩ <;> rw [h10] at q <;> exact absurd q (by decide)
          · obtain ⟨a2', k2', b1, b2, _, b4, b5, b6⟩ := hse9 y2 hy2 h92
            have hkk : k2' = k' := nI_inj (by omega) (by omega) (b4.symm.trans h52)
            subst hkk
            have haa : a2' = a' := nI_inj (by omega) (by omega) (b5.symm.trans k4)
            subst haa
            have hnn' : n = oneO (dN S l 17 a2') P.nn P.nn tu := nI_inj (by omega) (by have := hone a2'; omega) (h22.symm.trans b6)
            rw [← hnn'] at cs
            exact cs ((ht.st hn).1.mp ((ht.st hn).2.1.mp hm))
    · rcases hkd y hy with q | q | q | ⟨q, _⟩ <;> rw [h8] at q <;> exact absurd q (by decide)
    · exact ht.fb hP hl hR hms hs2 hn hk ha (by rw [← e6 15 (by decide), ← e6 16 (by decide)]; exact hf) hsb
    · refine Sm_mono (fun s hs' => ?_)
      by_cases c : Jk P.gg (dN T l) n (dN T n 6 s) ∨ (dN T n 6 s = -1 ∧ ¬ dN T n 5 s = -1)
      · rcases c with c | ⟨_, c⟩
        · rw [ind_t (Or.inl c), ind_t c]; exact Nat.le_refl _
        · exact absurd ((ht.disk hn).2.1 s hs') c
      · rw [ind_f c]; exact Nat.zero_le _
  have hqT : QNs P l T := fun n k hn hk hm => by
    rw [e6 16 (by decide)]
    exact hq n k hn hk ((ht.st hn).2.1.mp hm)
  exact ⟨g1, Zs, hg1, hT, ht, hGQ, hA.gs hg1, hqT, hvT0, e6, eK, e2⟩
/-- behind a TICK: NODES that are not clean are asked what they have -/
theorem T1.li {P : Pm} {g : Gh} {l n : Nat} {S T : SS} {Zs : Nat → List Mg} (hl : l < P.nn) (ht : T1 P g l S T Zs) (hs : dN S l 18 3 ≤ 2) (hn : n < P.nn) (hcl : bt (dN S l 7 10) n = false) : ∃ y ∈ T.2.2.1, y.1 0 = 4 ∧ y.1 1 = nI l ∧ y.1 2 = nI n := by
  obtain ⟨D1, D2, Zw, f2, wz, _, w4, _⟩ := ht.wz hl
  obtain ⟨Dq, Zp, Zq, Zm, x1, _, _, _, _, x5, _⟩ := wz
  rw [f2 18 (by decide) (by decide) (by decide), f2 7 (by decide) (by decide) (by decide)] at x5
  rcases x5 with x5 | x5
  · exfalso
    rcases x5 with x5 | x5 <;> rw [x5] at hs <;> exact absurd hs (by decide)
  · obtain ⟨y, y1, y2⟩ := w4 _ (by rw [x1]; exact List.mem_append_left _ (x5 n hn hcl))
    exact ⟨y, y1, by rw [y2.1]; rfl, by rw [y2.1]; rfl, by rw [y2.1]; rfl⟩
/-- all stays safe -/
theorem QDn.st {P : Pm} {g : Gh} {l : Nat} {S T S' : SS} (hP : PmO P) (hSL : SL P) (hl : l < P.nn) (h : QDn P l g S) (htk : tkR P.nn P.gg P.C P.f S T) (hdr : drR P.nn P.gg P.C P.f T S') : ∃ g', Gs g g' ∧ QDn P l g' S' := by
  obtain ⟨hR, hc, hF, hp, hs⟩ := h
  obtain ⟨⟨g', hg', hR', hc'⟩, ⟨hF', hp'⟩, hfz, _, hmb, _⟩ := rdC hP hSL hl hR hc htk hdr
  refine ⟨g', hg', hR', hc', hF', hp', fun a ha hu => ?_⟩
  have hL := hR.1.lo hl
  have hL' := hR'.1.lo hl
  have hva : ¬ dN S l 16 a < 0 := by rw [← hfz.1 16 (by decide)]; exact hu.1
  obtain ⟨k, k1, k2, k3, _⟩ := hL.tgf hR.1.1.1.go hP.gg ha hva
  have k3' : fndI (dN S' l 15) (dN S' l 16) (nI k) = nI a := by rw [hfz.1 15 (by decide), hfz.1 16 (by decide)]; exact k3
  obtain ⟨n, n1, n2, n3⟩ := unS_ex hP hR'.2.2.2 hL' ha k1 k3' hu
  have hm : bt (mkA P.gg (dN S l) a) n = true := by
    unfold mkA at n2 ⊢
    rw [← hfz.1 8 (by decide), ← hfz.1 11 (by decide)]; exact n2
  have hnn := hP.nn
  obtain ⟨s, s1, s2, _⟩ := bit_st hP hl hR.2.2.2 hR.1 hc.2.1 hc.1 (by rw [hc.2.2.2.1]; decide) ha k1 k3 n1 hm (safe_b hva (hs a ha) n (by omega) hm)
  have := hF' n k a n1 k1 ha k3' (hmb n k a n1 k1 ha k3 hm ⟨s, s1, s2⟩)
  rw [n3] at this; cases this
def noJ (P : Pm) (l : Nat) (S : SS) : Prop := ∀ n t, n < P.nn → Jk P.gg (dN S l) n t → ¬ mem (dN S n) t
theorem Jk.cg {gg n : Nat} {D D' : Nat → Nat → Int32} {t : Int32} (h : Jk gg D n t) (e8 : D' 8 = D 8) (e11 : D' 11 = D 11) (e15 : D' 15 = D 15) (e16 : D' 16 = D 16) : Jk gg D' n t := by
  unfold Jk mkA at h ⊢
  rw [e8, e11, e15, e16]; exact h
theorem rdD1 {P : Pm} {g : Gh} {l : Nat} {S T S' : SS} (hP : PmO P) (hSL : SL P) (hl : l < P.nn) (h : QDn P l g S) (htk : tkR P.nn P.gg P.C P.f S T) (hdr : drR P.nn P.gg P.C P.f T S') : (∃ g', Gs g g' ∧ QDn P l g' S') ∧ noJ P l S' := by
  refine ⟨h.st hP hSL hl htk hdr, ?_⟩
  obtain ⟨hR, hc, hF, hp, hs⟩ := h
  obtain ⟨g1, Zs, hg1, hT, ht, hGQ, hA1, hqT, hvT0, e6, eK, e7⟩ := cdv_T hP hl hR hc htk
  have hnn := hP.nn
  have hs0 := hc.2.2.2.1
  have hsT : dN T l 18 3 = 0 := by rw [e6 18 (by decide)]; exact hs0
  have hsafe : allSf P l T := fun a ha hva m hm hb => by
    rw [e6 17 (by decide)]
    rw [e6 16 (by decide)] at hva
    refine safe_b hva (hs a ha) m hm ?_
    unfold mkA at hb ⊢
    rw [← e6 8 (by decide), ← e6 11 (by decide)]; exact hb
  have hrt : NWt l g1 T := fun v hv => by
    obtain ⟨w, w1, w2, w3⟩ := hc.rt hP hl hR.2.2.2 hR.1 v (by
      unfold eff at hv ⊢
      rw [hg1.ops, hg1.bg] at hv; exact hv)
    exact ⟨w, w1, by rw [e6 16 (by decide)]; exact w2, w3⟩
  have hJT : JO P l T T := fun n t hn hJ hm => by
    left
    refine ht.li hl (by rw [hs0]; decide) hn ?_
    cases hcl : bt (dN S l 7 10) n with
    | false => rfl
    | true =>
      exfalso
      have hJS : Jk P.gg (dN S l) n t := hJ.cg (e6 8 (by decide)).symm (e6 11 (by decide)).symm (e6 15 (by decide)).symm (e6 16 (by decide)).symm
      obtain ⟨s, s1, s2⟩ := (ht.st hn).2.1.mp hm
      obtain ⟨k, k1, k2, _⟩ := NU.tk (hR.1.nu hn) s1 (by show ¬ dN S n 6 s = -1; rw [s2]; exact hJ.1)
      have htk : t = nI k := by rw [← s2]; exact k2
      by_cases c5 : dN S n 5 s = -1
      · obtain ⟨_, c2, _⟩ := hR.1.2.2.2.2.2.2.1 (hR.1.2.2.2.1 l hl) (by show dN S l 18 3 ≤ 2; rw [hs0]; decide) n hn hcl
        rcases c2 k k1 ⟨s, s1, by rw [← htk]; exact s2, c5⟩ with ⟨a, a1, a2, a3, _⟩ | ⟨_, x, q, _⟩
        · have w : bt (mkA P.gg (dN S l) a) n = false := hJS.2 a a1 (by rw [htk]; exact a2)
          have a3 : bt (mkA P.gg (dN S l) a) n = true := a3
          rw [w] at a3; cases a3
        · rw [hR.2.1] at q; cases q
      · obtain ⟨a, a1, a2, a3⟩ := hp n k hn k1 ⟨s, s1, by rw [← htk]; exact s2, c5⟩
        rw [hJS.2 a a1 (by rw [htk]; exact a2)] at a3; cases a3
  obtain ⟨h0, g2, hg2, h2, hI2⟩ := RG.dr (I := fun g S1 => GQ P l S1 ∧ AV P g ∧ QNs P l S1 ∧ CDv P l g.ep T S1 ∧ NWt l g T ∧ JO P l T S1) hP hl (fun g g' S1 S1' x Z h hi hst hgs h' => by
    obtain ⟨i1, i2, i3, i4, i5, i6⟩ := hi
    refine ⟨i1.st hP hl h hst h', i2.gs hgs, i3.st hP hl h hst h' i1.2.1, i4.st hP hl i2 hsT h hst hgs h' i1 i3, fun v hv => i5 v (by
      unfold eff at hv ⊢
      rw [hgs.ops, hgs.bg] at hv; exact hv), i6.st hP hl i2 hsT h hst h' i1 i4 hsafe i5⟩) hT ⟨hGQ, hA1, hqT, hvT0, hrt, hJT⟩ hdr
  obtain ⟨i1, i2, i3, i4, i5, i6⟩ := hI2
  obtain ⟨⟨d1, d1k⟩, _⟩ := i4
  intro n t hn hJ hm
  rcases i6 n t hn (hJ.cg (d1 8 (by decide)).symm (d1 11 (by decide)).symm (d1 15 (by decide)).symm (d1 16 (by decide)).symm) hm with ⟨y, q, _⟩ | ⟨y, q, _⟩ | ⟨y, q, _⟩
  · rw [h0] at q; cases q
  · rw [h0] at q; cases q
  · rw [h0] at q; cases q

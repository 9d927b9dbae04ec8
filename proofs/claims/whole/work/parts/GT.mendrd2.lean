/-! a round of mending, as a whole -/
def frzT (l : Nat) (S S' : SS) : Prop := (∀ q, q = 8 ∨ q = 10 ∨ q = 11 ∨ q = 15 ∨ q = 16 ∨ q = 18 → dN S' l q = dN S l q) ∧ kN S' l = kN S l
/-- all NODES of the mask have it: FLUSHED, or at all -/
def alS (P : Pm) (l a : Nat) (t : Int32) (S : SS) : Prop := ∀ n, n < P.nn → bt (mkA P.gg (dN S l) a) n = true → stb (dN S n) t
def alM (P : Pm) (l a : Nat) (t : Int32) (S : SS) : Prop := ∀ n, n < P.nn → bt (mkA P.gg (dN S l) a) n = true → mem (dN S n) t
/-- what is not FLUSHED yet is wanted where it is -/
def PDt (P : Pm) (l : Nat) (S : SS) : Prop := ∀ n k, n < P.nn → k < 5243392 → pnd (dN S n) (nI k) → ∃ a, a < 961 ∧ fndI (dN S l 15) (dN S l 16) (nI k) = nI a ∧ bt (mkA P.gg (dN S l) a) n = true
theorem rdC {P : Pm} {g : Gh} {l : Nat} {S T S' : SS} (hP : PmO P) (hSL : SL P) (hl : l < P.nn) (h : RST P l g S) (hc : CSt P l g S) (htk : tkR P.nn P.gg P.C P.f S T) (hdr : drR P.nn P.gg P.C P.f T S') :
    (∃ g', Gs g g' ∧ RST P l g' S' ∧ CSt P l g' S') ∧ (FBs P l S' ∧ PDt P l S') ∧ frzT l S S' ∧ (∀ n, n < P.nn → Xn P.gg (dN S' l) S' n ≤ Xn P.gg (dN S l) S n) ∧
    (∀ n k a, n < P.nn → k < 5243392 → a < 961 → fndI (dN S l 15) (dN S l 16) (nI k) = nI a → bt (mkA P.gg (dN S l) a) n = true → mem (dN S n) (nI k) → stb (dN S' n) (nI k)) ∧
    (FBs P l S → (∃ a, a < 961 ∧ unS P.gg (dN S l) a) → ∃ a k, a < 961 ∧ k < 5243392 ∧ fndI (dN S l 15) (dN S l 16) (nI k) = nI a ∧ ¬ alS P l a (nI k) S ∧ (alM P l a (nI k) S' ∨ ∃ j, j < P.nn ∧ Xn P.gg (dN S' l) S' j + 14 ≤ Xn P.gg (dN S l) S j)) := by
  have hnn := hP.nn
  obtain ⟨⟨g9, hg9, hR9⟩, _, rm3, rm4, _⟩ := rdm hP hl h htk hdr
  obtain ⟨hR, hms, hPD, hA⟩ := h
  have hc0 := hc
  obtain ⟨hkn, hq, hfu, hs, hbg⟩ := hc
  obtain ⟨g1, Zs, hg1, hT, ht⟩ := hR.tk hP hl hms htk
  obtain ⟨e1, e2, e3, e4, e5, e6, eK, _, _⟩ := ht.ld hl
  have e6 := e6 (by rw [hs]; decide)
  have hL := hR.lo hl
  have hG := hR.1.1.go
  have hsT : dN T l 18 3 = 0 := by rw [e6 18 (by decide)]; exact hs
  have hs2 : dN S l 18 3 ≤ 2 := by rw [hs]; decide
  have hGQ := ht.gq hP hl hR hkn (Or.inr hq)
  have hna := ht.na hl hR hbg
  obtain ⟨D1, D2, Zw, f2, wz, _, w4, wk⟩ := ht.wz hl
  have f18 : D1 18 = dN S l 18 := f2 18 (by decide) (by decide) (by decide)
  have emk : ∀ a, mkA P.gg (dN T l) a = mkA P.gg (dN S l) a := fun a => by unfold mkA; rw [e6 8 (by decide), e6 11 (by decide)]
  -- an ITEM of the table
  have hitem : ∀ a, a < 961 → ¬ dN S l 16 a < 0 → ∃ k, k < 5243392 ∧ tgA (dN S l 11) (dN S l 16) a = nI k ∧ fndI (dN S l 15) (dN S l 16) (nI k) = nI a := fun a ha hv => by
    obtain ⟨k, k1, k2, k3, _⟩ := hL.tgf hG hP.gg ha hv
    exact ⟨k, k1, k2, k3⟩
  have hunS : ∀ a, unS P.gg D1 a ↔ unS P.gg (dN S l) a := fun a => by
    unfold unS
    rw [f2 16 (by decide) (by decide) (by decide), f2 8 (by decide) (by decide) (by decide), f2 11 (by decide) (by decide) (by decide), f2 17 (by decide) (by decide) (by decide)]
  obtain ⟨Dq, Zp, Zq, Zm, x1, x2, x3, ⟨tu, tu1, tu2⟩, ⟨_, x4⟩, x5, x6, x7⟩ := wz
  have hDq : ∀ q, q ≠ 7 → q ≠ 1 → q ≠ 2 → q ≠ 5 → Dq q = dN S l q := fun q a b c d => by rw [x2 q a, f2 q b c d]
  have hq18 : Dq 18 = dN S l 18 := hDq 18 (by decide) (by decide) (by decide) (by decide)
  have hq17 : Dq 17 = dN S l 17 := hDq 17 (by decide) (by decide) (by decide) (by decide)
  have hq11 : Dq 11 = dN S l 11 := hDq 11 (by decide) (by decide) (by decide) (by decide)
  have hq16 : Dq 16 = dN S l 16 := hDq 16 (by decide) (by decide) (by decide) (by decide)
  have htu : (Dq 7 13).toNatClampNeg = tu := by rw [tu2, nI_clamp (by omega)]
  have hZq : Zq = [] := by
    rcases x6 with ⟨q, _⟩ | ⟨q, _⟩ | ⟨q, _⟩ | ⟨_, _, _, q⟩
    · rw [hq18, hs] at q; exact absurd q (by decide)
    · rw [hq18, hs] at q; exact absurd q (by decide)
    · rw [hq18, hs] at q; exact absurd q (by decide)
    · exact q
  have hZm : ∀ z ∈ Zm, ∃ a n, a < 961 ∧ n < P.nn ∧ unS P.gg (dN S l) a ∧ ¬ dN S l 17 a = 0 ∧ z = mSE P.nn (nI l) Dq a n := fun z hz => by
    rcases x7 with ⟨q, _⟩ | ⟨_, _, _, ⟨_, q⟩, _⟩
    · rw [q] at hz; cases hz
    · obtain ⟨a, n, a1, n1, a2, a3, _, a5⟩ := q z hz
      exact ⟨a, n, a1, n1, (hunS a).mp a2, by rw [← f2 17 (by decide) (by decide) (by decide)]; exact a3, a5⟩
  have hkd : ∀ y ∈ T.2.2.1, y.1 0 = 0 ∨ y.1 0 = 11 ∨ y.1 0 = 4 ∨ (y.1 0 = 9 ∧ ∃ a n, a < 961 ∧ n < P.nn ∧ unS P.gg (dN S l) a ∧ ¬ dN S l 17 a = 0 ∧ y.1 = (mSE P.nn (nI l) Dq a n).1) := fun y hy => by
    rcases wk y hy with q | q | q | ⟨z, z1, z2⟩
    · exact Or.inl q
    · exact absurd q (hna y hy)
    · exact Or.inr (Or.inl q)
    · rw [x1, hZq, List.nil_append] at z1
      rcases List.mem_append.mp z1 with w | w
      · obtain ⟨j, _, _, _, q⟩ := x4 z w
        rw [z2.1, q]; exact Or.inr (Or.inr (Or.inl rfl))
      · obtain ⟨a, n, a1, n1, a2, a3, a5⟩ := hZm z w
        refine Or.inr (Or.inr (Or.inr ⟨by rw [z2.1, a5, mSE_0], a, n, a1, n1, a2, a3, by rw [z2.1, a5]⟩))
  -- SENDS
  have hse9 : ∀ y ∈ T.2.2.1, y.1 0 = 9 → ∃ a k, a < 961 ∧ k < 5243392 ∧ unS P.gg (dN S l) a ∧ y.1 5 = nI k ∧ fndI (dN S l 15) (dN S l 16) (nI k) = nI a ∧ y.1 2 = nI (oneO (dN S l 17 a) P.nn P.nn tu) := fun y hy h9 => by
    rcases hkd y hy with q | q | q | ⟨_, a, n, a1, n1, a2, a3, a5⟩
    · rw [h9] at q; exact absurd q (by decide)
    · rw [h9] at q; exact absurd q (by decide)
    · rw [h9] at q; exact absurd q (by decide)
    · obtain ⟨k, k1, k2, k3⟩ := hitem a a1 a2.1
      obtain ⟨_, _, v2, _, v5, _⟩ := mSE_v P.nn (nI l) Dq a n
      refine ⟨a, k, a1, k1, a2, ?_, k3, ?_⟩
      · rw [a5, v5, hq11, hq16]; exact k2
      · rw [a5, v2, hq17, htu]
  have hone : ∀ a, oneO (dN S l 17 a) P.nn P.nn tu < P.nn := fun a => oneO_lt _ (by omega) _ _ tu1
  have hstT : ∀ n, n < P.nn → ∀ t, stb (dN S n) t → stb (dN T n) t := fun n hn t ⟨s, s1, s2, _⟩ => (ht.st hn).1.mp ⟨s, s1, s2⟩
  have hbo : ∀ a k n, a < 961 → k < 5243392 → fndI (dN S l 15) (dN S l 16) (nI k) = nI a → n < P.nn → bt (dN S l 17 a) n = true → SEo P l a k n T T := fun a k n ha hk hf hn hb => by
    rcases bit_or hP hl hA hR hq hkn hs2 ha hk hf hn hb with q | q
    · exact Or.inl (hstT n hn _ q)
    · exact Or.inr (fun m hm hmk => hstT m hm _ (q m hm (by rw [← emk]; exact hmk)))
  have hvT0 : CDv P l g1.ep T T := by
    rw [hg1.ep]
    refine ⟨⟨fun _ _ => rfl, rfl⟩, fun y hy => ?_, fun y hy hk => ?_, fun n k hn hk hp => absurd hp (ht.st hn).2.2, fun y hy h12 => ?_, fun y hy h9 => ?_, fun y hy h8 => ?_, fun _ _ _ _ _ z => z, fun n k a hn hk ha hf hsb => ?_, fun _ _ _ _ _ _ _ _ => ⟨id, id⟩, fun n hn => ⟨?_, Nat.le_refl _⟩⟩
    · rcases hkd y hy with q | q | q | ⟨q, _⟩
      · exact Or.inl q
      · exact Or.inr (Or.inr (Or.inr (Or.inr (Or.inr (Or.inr (Or.inr (Or.inl q)))))))
      · exact Or.inr (Or.inr (Or.inl q))
      · exact Or.inr (Or.inr (Or.inr (Or.inr (Or.inr (Or.inl q)))))
    · rcases hk with hk | hk
      · obtain ⟨a, k, a1, k1, _, k3, k4, _⟩ := hse9 y hy hk
        exact ⟨k, a, k1, a1, k3, by rw [e6 15 (by decide), e6 16 (by decide)]; exact k4⟩
      · rcases hkd y hy with q | q | q | ⟨q, _⟩ <;> rw [hk] at q <;> exact absurd q (by decide)
    · rcases hkd y hy with q | q | q | ⟨q, _⟩ <;> rw [h12] at q <;> exact absurd q (by decide)
    · obtain ⟨a, k, a1, k1, a2, k3, k4, k5⟩ := hse9 y hy h9
      refine ⟨_, hone a, k5, fun k' a' hk' ha' h5 hf' => ?_⟩
      have hkk : k' = k := nI_inj (by omega) (by omega) (h5.symm.trans k3)
      subst hkk
      rw [e6 15 (by decide), e6 16 (by decide)] at hf'
      have haa : a' = a := nI_inj (by omega) (by omega) (hf'.symm.trans k4)
      subst haa
      by_cases cb : ∃ m, m < P.nn ∧ bt (dN S l 17 a') m = true
      · obtain ⟨m, m1, m2⟩ := cb
        obtain ⟨o1, o2⟩ := oneO_ok (x := dN S l 17 a') (N := P.nn) (t := tu) (by omega) tu1 m1 m2
        exact Or.inl (hbo a' k' _ a1 k1 k4 o1 o2)
      · by_cases cs : stb (dN T (oneO (dN S l 17 a') P.nn P.nn tu)) (nI k')
        · exact Or.inl (Or.inl cs)
        · right
          refine ⟨fun y2 hy2 h10 => ?_, fun y2 hy2 h92 h52 n hn h22 hm => ?_⟩
          · rcases hkd y2 hy2 with q | q | q | ⟨q, _⟩ <;> rw [h10] at q <;> exact absurd q (by decide)
          · obtain ⟨a2', k2', b1, b2, _, b4, b5, b6⟩ := hse9 y2 hy2 h92
            have hkk : k2' = k' := nI_inj (by omega) (by omega) (b4.symm.trans h52)
            subst hkk
            have haa : a2' = a' := nI_inj (by omega) (by omega) (b5.symm.trans k4)
            subst haa
            have hnn' : n = oneO (dN S l 17 a2') P.nn P.nn tu := nI_inj (by omega) (by have := hone a2'; omega) (h22.symm.trans b6)
            rw [← hnn'] at cs
            exact cs ((ht.st hn).1.mp ((ht.st hn).2.1.mp hm))
    · rcases hkd y hy with q | q | q | ⟨q, _⟩ <;> rw [h8] at q <;> exact absurd q (by decide)
    · exact ht.fb hP hl hR hms hs2 hn hk ha (by rw [← e6 15 (by decide), ← e6 16 (by decide)]; exact hf) hsb
    · refine Sm_mono (fun s hs' => ?_)
      by_cases c : Jk P.gg (dN T l) n (dN T n 6 s) ∨ (dN T n 6 s = -1 ∧ ¬ dN T n 5 s = -1)
      · rcases c with c | ⟨_, c⟩
        · rw [ind_t (Or.inl c), ind_t c]; exact Nat.le_refl _
        · exact absurd ((ht.disk hn).2.1 s hs') c
      · rw [ind_f c]; exact Nat.zero_le _
  have hqT : QNs P l T := fun n k hn hk hm => by
    rw [e6 16 (by decide)]
    exact hq n k hn hk ((ht.st hn).2.1.mp hm)
  obtain ⟨h0, g2, hg2, h2, hI2⟩ := RG.dr (I := fun g S1 => GQ P l S1 ∧ AV P g ∧ QNs P l S1 ∧ CDv P l g.ep T S1 ∧ ∀ a k, a < 961 → k < 5243392 → fndI (dN T l 15) (dN T l 16) (nI k) = nI a → CDo P l a k T T → CDo P l a k T S1) hP hl (fun g g' S1 S1' x Z h hi hst hgs h' => by
    obtain ⟨i1, i2, i3, i4, i5⟩ := hi
    exact ⟨i1.st hP hl h hst h', i2.gs hgs, i3.st hP hl h hst h' i1.2.1, i4.st hP hl i2 hsT h hst hgs h' i1 i3, fun a k ha hk hf ho => (i5 a k ha hk hf ho).st hP hSL hl i2 hsT ha hk hf h hst hgs h' i1 i3 i4⟩) hT ⟨hGQ, hA.gs hg1, hqT, hvT0, fun _ _ _ _ _ z => z⟩ hdr
  obtain ⟨i1, i2, i3, i4, i5⟩ := hI2
  obtain ⟨⟨d1, d1k⟩, d2, d3, d4, d5, d6, d7, d8, d9, d10, d11⟩ := i4
  have hfz : frzT l S S' := ⟨fun q hq' => by rw [d1 q hq']; exact e6 q (by omega), by rw [d1k]; exact eK⟩
  have hmS' : ∀ a, mkA P.gg (dN S' l) a = mkA P.gg (dN S l) a := fun a => by unfold mkA; rw [hfz.1 8 (by decide), hfz.1 11 (by decide)]
  have hJk : ∀ n t, Jk P.gg (dN S' l) n t ↔ Jk P.gg (dN T l) n t := fun n t => by
    unfold Jk mkA
    rw [d1 15 (by decide), d1 16 (by decide), d1 8 (by decide), d1 11 (by decide)]
  have hJkS : ∀ n t, Jk P.gg (dN S l) n t ↔ Jk P.gg (dN T l) n t := fun n t => by
    unfold Jk mkA
    rw [e6 15 (by decide), e6 16 (by decide), e6 8 (by decide), e6 11 (by decide)]
  have hX1 : ∀ n, Xn P.gg (dN S' l) S' n = Xn P.gg (dN T l) S' n := fun n => Sm_cg (fun s _ => by
    show ind (Jk P.gg (dN S' l) n (dN S' n 6 s)) = ind (Jk P.gg (dN T l) n (dN S' n 6 s))
    rw [propext (hJk n _)])
  have hX2 : ∀ n, n < P.nn → Xn P.gg (dN T l) T n = Xn P.gg (dN S l) S n := fun n hn => Sm_cg (fun s _ => by
    show ind (Jk P.gg (dN T l) n (dN T n 6 s)) = ind (Jk P.gg (dN S l) n (dN S n 6 s))
    rw [propext (hJkS n _), (ht.disk hn).1])
  have hmb : ∀ n k a, n < P.nn → k < 5243392 → a < 961 → fndI (dN S l 15) (dN S l 16) (nI k) = nI a → bt (mkA P.gg (dN S l) a) n = true → mem (dN S n) (nI k) → stb (dN S' n) (nI k) := fun n k a hn hk ha hf hm hmm => (d10 n k a hn hk ha (by rw [e6 15 (by decide), e6 16 (by decide)]; exact hf) (by rw [emk]; exact hm)).2 ((ht.st hn).1.mp hmm)
  have hbg9 : g9.bg = g.bg := hg9.bg
  refine ⟨⟨g9, hg9, hR9, i1.1, i3, rm4 hfu, by rw [hfz.1 18 (by decide)]; exact hs, ?_⟩, ⟨?_, ?_⟩, hfz, fun n hn => ?_, hmb, fun hFB hun => ?_⟩
  · have := hR9.1.he.2.2.1
    omega
  · intro n k a hn hk ha hf hsb
    rcases d9 n k a hn hk ha (by rw [← d1 15 (by decide), ← d1 16 (by decide)]; exact hf) hsb with q | ⟨y, q, _⟩ | ⟨y, q, _⟩ | ⟨y, q, _⟩
    · exact q
    · rw [h0] at q; cases q
    · rw [h0] at q; cases q
    · rw [h0] at q; cases q
  · intro n k hn hk hp
    obtain ⟨a, a1, a2, a3⟩ := d4 n k hn hk hp
    refine ⟨a, a1, by rw [d1 15 (by decide), d1 16 (by decide)]; exact a2, ?_⟩
    rw [hmS', ← emk]; exact a3
  · rw [hX1, ← hX2 n hn]; exact (d11 n hn).2
  · obtain ⟨a0, a01, a02⟩ := hun
    have hf7 : ∀ x, D1 7 x = dN S l 7 x := fun x => by rw [f2 7 (by decide) (by decide) (by decide)]
    have good : ∀ a, a < 961 → unS P.gg (dN S l) a → ¬ D1 17 a = 0 ∧ ¬ mxA P.gg D1 a = 0 := fun a ha hu => by
      obtain ⟨k, k1, k2, k3⟩ := hitem a ha hu.1
      refine ⟨fun z => ?_, fun z => ?_⟩
      · obtain ⟨n, n1, n2⟩ := tab_av hP hl hA hR hc0 ha k1 k3
        have := hFB n k a n1 k1 ha k3 n2
        rw [← f2 17 (by decide) (by decide) (by decide), z, b_0] at this; cases this
      · obtain ⟨n, n1, n2, n3⟩ := unS_ex hP hA hL ha k1 k3 hu
        have : bt (mxA P.gg D1 a) n = true := by
          rw [mxA_b]
          unfold mkA at n2 ⊢
          rw [f2 8 (by decide) (by decide) (by decide), f2 11 (by decide) (by decide) (by decide), f2 17 (by decide) (by decide) (by decide), hf7, n2, n3, hfu n n1, b_m1 _ (show _ < 32 by omega)]
          rfl
        rw [z, b_0] at this; cases this
    rcases x7 with ⟨_, _, q⟩ | ⟨_, _, _, _, _, q, _⟩
    · exfalso
      rcases q with q | q | q
      · rw [f18, hs] at q; exact q (by decide)
      · rw [f2 10 (by decide) (by decide) (by decide)] at q; exact hkn q
      · rw [hf7] at q
        exact ((hR.gh hl).2.2.1.2 hs2 q).2 a0 a01 a02
    · rcases q with ⟨a, b1, b2, b3, b4, b5⟩ | q
      · have hu := (hunS a).mp b2
        obtain ⟨k, k1, k2, k3⟩ := hitem a b1 hu.1
        obtain ⟨n, n1, n2, n3⟩ := unS_ex hP hA hL b1 k1 k3 hu
        refine ⟨a, k, b1, k1, k3, fun z => ?_, ?_⟩
        · have := hFB n k a n1 k1 b1 k3 (z n n1 n2)
          rw [n3] at this; cases this
        · have hfT : fndI (dN T l 15) (dN T l 16) (nI k) = nI a := by rw [e6 15 (by decide), e6 16 (by decide)]; exact k3
          obtain ⟨m, m1, m2⟩ := tab_av hP hl hA hR hc0 b1 k1 k3
          obtain ⟨o1, o2⟩ := oneO_ok (x := dN S l 17 a) (N := P.nn) (t := tu) (by omega) tu1 m1 (hFB m k a m1 k1 b1 k3 m2)
          have hoT : CDo P l a k T T := fun j hj hm hb => by
            left
            rw [emk] at hm
            rw [e6 17 (by decide)] at hb
            have hx : bt (mxA P.gg D1 a) j = true := by
              rw [mxA_b]
              unfold mkA at hm ⊢
              rw [f2 8 (by decide) (by decide) (by decide), f2 11 (by decide) (by decide) (by decide), f2 17 (by decide) (by decide) (by decide), hf7, hm, hb, hfu j hj, b_m1 _ (show _ < 32 by omega)]
              rfl
            obtain ⟨y, y1, y2⟩ := w4 _ (by rw [x1]; exact List.mem_append_right _ (List.mem_append_right _ (b5 j hj hx)))
            obtain ⟨_, _, v2, _, v5, v6⟩ := mSE_v P.nn (nI l) Dq a j
            exact ⟨y, y1, by rw [y2.1, mSE_0], by rw [y2.1, v5, hq11, hq16]; exact k2, by rw [y2.1, v6], _, o1, by rw [y2.1, v2, hq17, htu], hbo a k _ b1 k1 k3 o1 o2⟩
          have ho := i5 a k b1 k1 hfT hoT
          by_cases cX : ∃ j, j < P.nn ∧ Xn P.gg (dN S' l) S' j + 14 ≤ Xn P.gg (dN S l) S j
          · exact Or.inr cX
          · left
            intro j hj hm
            rw [hmS'] at hm
            cases hbj : bt (dN S l 17 a) j with
            | true =>
              obtain ⟨s, s1, s2, _⟩ := hmb j k a hj k1 b1 k3 hm (by
                obtain ⟨s, s1, s2, _⟩ := bit_st hP hl hA hR hq hkn hs2 b1 k1 k3 hj hm hbj
                exact ⟨s, s1, s2⟩)
              exact ⟨s, s1, s2⟩
            | false =>
              rcases ho j hj (by rw [emk]; exact hm) (by rw [e6 17 (by decide)]; exact hbj) with ⟨y, q, _⟩ | ⟨y, q, _⟩ | q | q
              · rw [h0] at q; cases q
              · rw [h0] at q; cases q
              · exact q
              · exact absurd ⟨j, hj, by rw [hX1, ← hX2 j hj]; exact q⟩ cX
      · exfalso
        obtain ⟨r1, r2⟩ := good a0 a01 a02
        rcases q a0 a01 ((hunS a0).mpr a02) with w | w
        · exact r1 w
        · exact r2 w

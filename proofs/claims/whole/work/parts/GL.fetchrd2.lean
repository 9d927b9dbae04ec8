/-! a round of FETCH, as a whole -/
/-- behind a TICK with a poll: MESSAGES about what is not known to be there are under way -/
theorem T1.fb {P : Pm} {g : Gh} {l n k a : Nat} {S T : SS} {Zs : Nat → List Mg} (hP : PmO P) (hl : l < P.nn) (h : RG P g l S) (hms : S.2.2.1 = []) (ht : T1 P g l S T Zs) (hs : dN S l 18 3 ≤ 2) (hn : n < P.nn) (hk : k < 5243392) (ha : a < 961) (hf : fndI (dN S l 15) (dN S l 16) (nI k) = nI a) (hsb : stb (dN T n) (nI k)) : FBo l g.ep T n k a := by
  obtain ⟨e1, e2, e3, _, _, _, _, _, _⟩ := ht.ld hl
  have hst : ¬ (dN S l 18 3 = 3 ∨ dN S l 18 3 = 4) := fun z => by
    rcases z with z | z <;> rw [z] at hs <;> exact absurd hs (by decide)
  cases hcl : bt (dN S l 7 10) n with
  | false =>
    right; left
    obtain ⟨D1, D2, Zw, f2, wz, _, w4, _⟩ := ht.wz hl
    obtain ⟨Dq, Zp, Zq, Zm, x1, _, _, _, _, x5, _⟩ := wz
    rw [f2 18 (by decide) (by decide) (by decide), f2 7 (by decide) (by decide) (by decide)] at x5
    rcases x5 with x5 | x5
    · exact absurd x5 hst
    · obtain ⟨y, y1, y2⟩ := w4 _ (by rw [x1]; exact List.mem_append_left _ (x5 n hn hcl))
      exact ⟨y, y1, by rw [y2.1]; rfl, by rw [y2.1]; rfl, by rw [y2.1]; rfl⟩
  | true =>
    obtain ⟨s, s1, s2⟩ := (ht.st hn).1.mpr hsb
    by_cases c : dN S n 5 s = -1
    · left
      obtain ⟨_, c2, _⟩ := h.2.2.2.2.2.2.1 (h.2.2.2.1 l hl) hs n hn hcl
      rcases c2 k hk ⟨s, s1, s2, c⟩ with ⟨a', a1, a2, _, a4⟩ | ⟨_, x, q, _⟩
      · have : a' = a := nI_inj (by omega) (by omega) (a2.symm.trans hf)
        rw [e1 17 (by decide) (by decide), ← this]; exact a4
      · rw [hms] at q; cases q
    · right; right; right
      exact ht.hv h hn (nI_pos (by omega)) ⟨s, s1, s2, c⟩
theorem rdF {P : Pm} {g : Gh} {l : Nat} {S T S' : SS} (hP : PmO P) (hl : l < P.nn) (hA : AV P g) (h : RG P g l S) (hms : S.2.2.1 = []) (hq : QNs P l S) (hf : HFu P (dN S l)) (hs : dN S l 18 3 = 2) (htk : tkR P.nn P.gg P.C P.f S T) (hdr : drR P.nn P.gg P.C P.f T S') :
    pgT g (dN S l) (kN S l) (dN S' l) (kN S' l) ∨ heN S < heN S' ∨ (smT (dN S l) (kN S l) (dN S' l) (kN S' l) ∧ heN S' = heN S ∧ (pcd (dN S' l) (heN S) < pcd (dN S l) (heN S) ∨ (dN S' l 18 3 = 2 ∧ dN S' l 18 4 = dN S l 18 4 ∧ FBs P l S' ∧ (∀ c, phiL P l S c → phiL P l S' c) ∧ (FBs P l S → (∀ c, phiL P l S (c + 1) → phiL P l S' c) ∧ ¬ phiL P l S 0)))) := by
  have hnn := hP.nn
  obtain ⟨g1, Zs, hg1, hT, ht⟩ := h.tk hP hl hms htk
  obtain ⟨e1, e2, e3, e4, e5, e6, eK, _, _⟩ := ht.ld hl
  have hL := h.lo hl
  have hG := h.1.1.go
  have e6 := e6 (by rw [hs]; decide)
  have hs2 : dN S l 18 3 ≤ 2 := by rw [hs]; decide
  have hkn : ¬ knA (kN S l) (dN S l 10 9) = 0 := hL.kn (by rw [hs]; decide)
  have hsm : smT (dN S l) (kN S l) (dN T l) (kN T l) := smT.of (e6 16 (by decide)) (e6 10 (by decide)) (e6 15 (by decide)) eK
  have hheT : heN T = heN S := by unfold heN; rw [ht.e.1]
  obtain ⟨ak1, _⟩ := ht.ak hl hP.nn h
  have hsT : dN T l 18 3 = 2 := by rw [e6 18 (by decide)]; exact hs
  have epc : pcd (dN T l) (heN S) = pcd (dN S l) (heN S) := by unfold pcd; rw [e6 18 (by decide)]
  obtain ⟨D1, D2, Zw, f2, wz, _, w4, wk⟩ := ht.wz hl
  have f18 : D1 18 = dN S l 18 := f2 18 (by decide) (by decide) (by decide)
  have hkd : ∀ y ∈ T.2.2.1, y.1 0 = 0 ∨ y.1 0 = 2 ∨ y.1 0 = 11 ∨ y.1 0 = 4 ∨ y.1 0 = 6 := fun y hy => by
    rcases wk y hy with q | q | q | ⟨z, z1, z2⟩
    · exact Or.inl q
    · exact Or.inr (Or.inl q)
    · exact Or.inr (Or.inr (Or.inl q))
    · rw [z2.1]
      rcases wz.kd z1 with ⟨j, _, _, _, q⟩ | ⟨q, _⟩ | ⟨o, j, q, _⟩ | ⟨a, m, _, _, _, _, _, _, _, _, q⟩
      · rw [q]; exact Or.inr (Or.inr (Or.inr (Or.inl rfl)))
      · exact Or.inr (Or.inr (Or.inr (Or.inr q)))
      · rw [f18, hs] at q
        rcases q with ⟨_, q⟩ | ⟨_, q⟩ <;> exact absurd q (by decide)
      · rw [f18, hs] at q; exact absurd q (by decide)
  have hGQ := ht.gq hP hl h hkn (Or.inr hq)
  have go : ∀ fb : Bool, (fb = true → FBs P l S) → S'.2.2.1 = [] ∧ ∃ g2, Gs g1 g2 ∧ RG P g2 l S' ∧ FTx P l (heN S) (pcd (dN S l) (heN S)) fb T g2 S' := fun fb hfb => by
    have hv : FTv P l g1.ep fb T T := by
      rw [hg1.ep]
      refine ⟨⟨fun _ _ => rfl, fun _ _ => rfl, fun _ _ z => z⟩, fun _ _ => ⟨rfl, rfl⟩, fun y hy => ?_, fun y n k hy h5 hn h1 hk hv => ?_, fun y hy h8 => ?_, fun n k a hn hk ha hf' hsb => ?_, fun a m k _ _ _ _ hb => Or.inl hb, fun hfb' i a k hi ha ha19 hk hnd hf' => ?_⟩
      · rcases hkd y hy with q | q | q | q | q <;> rw [q] <;> decide
      · rcases h5 with h5 | h5
        · rcases hkd y hy with q | q | q | q | q <;> rw [h5] at q <;> exact absurd q (by decide)
        · exact ht.hvs hl hnn hy h5 hn h1 hv
      · rcases hkd y hy with q | q | q | q | q <;> rw [h8] at q <;> exact absurd q (by decide)
      · exact ht.fb hP hl h hms hs2 hn hk ha (by rw [← e6 15 (by decide), ← e6 16 (by decide)]; exact hf') hsb
      · rw [e6 18 (by decide)] at hnd
        rw [e6 15 (by decide), e6 16 (by decide)] at hf'
        have hFE : ¬ dN S l 16 a < 0 := by
          rcases hL.find hP.gg hk with ⟨z, _⟩ | ⟨a', b1, b2, _, b4, _⟩
          · rw [z] at hf'; exact absurd hf'.symm (nIneg (by omega))
          · have : a' = a := nI_inj (by omega) (by omega) (b2.symm.trans hf')
            rw [← this, b4]; exact nI_pos (by omega)
        obtain ⟨k', v, k1, v5, k2, k3, k4, k5, hev, hrt, hit, hkp⟩ := hL.it2 hG hP.gg hs2 hkn (show a < 961 by omega) hFE
        have : k' = k := hL.tgu hP.gg k1 hk (by omega) k3 hf'
        subst this
        have hk52 : k' < 5242880 := by
          rcases k4 with ⟨_, q⟩ | ⟨q, _⟩
          · omega
          · omega
        obtain ⟨n, n1, n2⟩ := want_av hP hA h hq hk hev hrt hit (hkp hk52)
        have hb := hfb hfb' n k' a n1 hk (by omega) hf' n2
        obtain ⟨Dq, Zp, Zq, Zm, x1, x2, x3, ⟨tu, tu1, tu2⟩, _, _, x6, _⟩ := wz
        have hDq : ∀ q, q ≠ 7 → q ≠ 1 → q ≠ 2 → q ≠ 5 → Dq q = dN S l q := fun q a b c d => by rw [x2 q a, f2 q b c d]
        have hq18 : Dq 18 = dN S l 18 := hDq 18 (by decide) (by decide) (by decide) (by decide)
        have hq17 : Dq 17 = dN S l 17 := hDq 17 (by decide) (by decide) (by decide) (by decide)
        have hq8 : Dq 8 = dN S l 8 := hDq 8 (by decide) (by decide) (by decide) (by decide)
        have hq11 : Dq 11 = dN S l 11 := hDq 11 (by decide) (by decide) (by decide) (by decide)
        have hq16 : Dq 16 = dN S l 16 := hDq 16 (by decide) (by decide) (by decide) (by decide)
        have hq79 : Dq 7 9 = dN S l 7 9 := by rw [x3 9 (by decide), f2 7 (by decide) (by decide) (by decide)]
        have hcl : (ndB (Dq 18) i).toNatClampNeg = a := by rw [hq18, hnd, nI_clamp (by omega)]
        have hft : ftB P.gg Dq i := by
          unfold ftB
          rw [hcl, hq18, hq17, hq8, hq79, hq11, hnd]
          exact ⟨nI_pos (by omega), fun z => (by rw [z, b_0] at hb; cases hb), rd_full hP hA hL hf (grp_lt _ hP.gg a)⟩
        have hmem : mGE P.nn (nI l) Dq a ∈ Zq := by
          rcases x6 with ⟨_, _, _, m⟩ | ⟨q, _⟩ | ⟨q, _⟩ | ⟨q, _⟩
          · have := m i hi hft
            rw [hcl] at this
            exact this
          · rw [hq18, hs] at q; exact absurd q (by decide)
          · rw [hq18, hs] at q; exact absurd q (by decide)
          · rw [hq18] at q; exact absurd hs q
        obtain ⟨y, y1, y2⟩ := w4 (mGE P.nn (nI l) Dq a) (by rw [x1]; exact List.mem_append_right _ (List.mem_append_left _ hmem))
        obtain ⟨u1, u2, u3⟩ := mGE_v P.nn (nI l) Dq a
        have htu : (Dq 7 13).toNatClampNeg = tu := by rw [tu2, nI_clamp (by omega)]
        obtain ⟨o1, o2⟩ := oneO_ok (x := dN S l 17 a) (N := P.nn) (t := tu) (by omega) tu1 n1 hb
        refine Or.inr ⟨oneO (dN S l 17 a) P.nn P.nn tu, o1, by rw [e6 17 (by decide)]; exact o2, Or.inl ⟨y, y1, by rw [y2.1, mGE_0], by rw [y2.1]; exact u1, ?_, ?_⟩⟩
        · rw [y2.1, u2, hq17, htu]
        · rw [y2.1, u3, hq11, hq16]; exact k2
    obtain ⟨h0, g2, hg2, h2, hI2⟩ := RG.dr (I := fun g S1 => GQ P l S1 ∧ AKs (heN S) S1 ∧ FTx P l (heN S) (pcd (dN S l) (heN S)) fb T g S1) hP hl (fun g g' S1 S1' x Z h hi hst hgs h' => ⟨hi.1.st hP hl h hst h', hi.2.1.st hP hl h hst h', hi.2.2.st hP hl hsT epc h hst hgs h' hi.1 hi.2.1⟩) hT ⟨hGQ, ak1, Or.inr (Or.inr ⟨smT.rf _ _, hheT, Or.inr hv⟩)⟩ hdr
    exact ⟨h0, g2, hg2, h2, hI2.2.2⟩
  have cv : ∀ g2, Gs g1 g2 → pgT g2 (dN T l) (kN T l) (dN S' l) (kN S' l) → pgT g (dN S l) (kN S l) (dN S' l) (kN S' l) := fun g2 hg2 z => by
    apply hsm.pg
    unfold pgT at z ⊢
    rw [Nn_gs hg2, Nn_gs hg1] at z
    exact z
  -- what comes out of it
  have fin : ∀ (fb : Bool) (g2 : Gh), S'.2.2.1 = [] → FTv P l g2.ep fb T S' → RG P g2 l S' → FBs P l S' ∧ (∀ i a k, i < 6 → a < 960 → ¬ a % 20 = 19 → k < 5243392 → ndB (dN S' l 18) i = nI a → fndI (dN S' l 15) (dN S' l 16) (nI k) = nI a → ndB (dN S l 18) i = nI a ∧ fndI (dN S l 15) (dN S l 16) (nI k) = nI a ∧ (∀ n, n < P.nn → ind (bt (dN S' l 17 a) n = true ∧ ¬ stb (dN S' n) (nI k)) ≤ ind (bt (dN S l 17 a) n = true ∧ ¬ stb (dN S n) (nI k))) ∧ (fb = true → wN P l S' a k + 1 ≤ wN P l S a k)) := fun fb g2 h0 hv h2 => by
    obtain ⟨v1, v2, v3, v4, v5, v6, v7, v8⟩ := hv
    have hstT : ∀ n, n < P.nn → ∀ t, stb (dN S' n) t ↔ stb (dN T n) t := fun n hn t => stb_cg (v2 n hn).1 (v2 n hn).2
    have hT15 : dN S' l 15 = dN T l 15 := v1.1 15 (by decide)
    have hT16 : dN S' l 16 = dN T l 16 := v1.1 16 (by decide)
    refine ⟨fun n k a hn hk ha hf' hsb => ?_, fun i a k hi ha ha19 hk hnd hf' => ?_⟩
    · rcases v6 n k a hn hk ha (by rw [← hT15, ← hT16]; exact hf') ((hstT n hn _).mp hsb) with q | ⟨y, q, _⟩ | ⟨y, q, _⟩ | ⟨y, q, _⟩
      · exact q
      · rw [h0] at q; cases q
      · rw [h0] at q; cases q
      · rw [h0] at q; cases q
    · have hL2 := h2.lo hl
      have hs2' : dN S' l 18 3 = 2 := (v1.2.1 3 (by decide)).trans hsT
      have hbS' : bt (dN S' l 18 12) i = true := by
        rcases hL2.st with ⟨z, _⟩ | ⟨z, _⟩ | ⟨_, o, _, zo, _⟩ | ⟨z, _⟩ | ⟨z, _⟩
        · rw [hs2'] at z; exact absurd z (by decide)
        · rw [hs2'] at z; exact absurd z (by decide)
        · obtain ⟨_, _, _, _, _, _, q⟩ := FE.nd zo (show i < 32 by omega) (by rw [hnd]; exact nI_pos (by omega))
          exact q
        · rw [hs2'] at z; exact absurd z (by decide)
        · rw [hs2'] at z; exact absurd z (by decide)
      have hndT : ndB (dN T l 18) i = nI a := by
        rw [← hnd]
        have hbT := v1.2.2 i (by omega) hbS'
        unfold ndB
        rw [v1.2.1 11 (by decide), v1.2.1 7 (by decide), v1.2.1 10 (by decide)]
        have c1 : ¬ ((dN S' l 18 12) >>> (nI i &&& 31)) &&& 1 = 0 := fun z => by
          rw [(bitz _ (by omega)).mp z] at hbS'; cases hbS'
        have c2 : ¬ ((dN T l 18 12) >>> (nI i &&& 31)) &&& 1 = 0 := fun z => by
          rw [(bitz _ (by omega)).mp z] at hbT; cases hbT
        simp only [c1, c2]
      have hfT : fndI (dN T l 15) (dN T l 16) (nI k) = nI a := by rw [← hT15, ← hT16]; exact hf'
      have hpt : ∀ n, n < P.nn → ind (bt (dN S' l 17 a) n = true ∧ ¬ stb (dN S' n) (nI k)) ≤ ind (bt (dN S l 17 a) n = true ∧ ¬ stb (dN S n) (nI k)) := fun n hn => by
        by_cases c : bt (dN S' l 17 a) n = true ∧ ¬ stb (dN S' n) (nI k)
        · have c2 : bt (dN S l 17 a) n = true ∧ ¬ stb (dN S n) (nI k) := by
            have nsT : ¬ stb (dN T n) (nI k) := fun z => c.2 ((hstT n hn _).mpr z)
            refine ⟨?_, fun ⟨s, s1, s2, _⟩ => nsT ((ht.st hn).1.mp ⟨s, s1, s2⟩)⟩
            rcases v7 a n k (by omega) hn hk hfT c.1 with q | q
            · rw [e6 17 (by decide)] at q; exact q
            · exact absurd q nsT
          rw [ind_t c, ind_t c2]; exact Nat.le_refl _
        · rw [ind_f c]; exact Nat.zero_le _
      refine ⟨by rw [← e6 18 (by decide)]; exact hndT, by rw [← e6 15 (by decide), ← e6 16 (by decide)]; exact hfT, hpt, fun hfb => ?_⟩
      rcases v8 hfb i a k hi ha ha19 hk hndT hfT with q | ⟨m, m1, m2, q⟩
      · rw [hbS'] at q; cases q
      · rcases q with ⟨y, q, _⟩ | ⟨y, q, _⟩ | ⟨y, q, _⟩ | ⟨q1, q2⟩
        · rw [h0] at q; cases q
        · rw [h0] at q; cases q
        · rw [h0] at q; cases q
        · refine Sm_one_up m1 hpt ?_
          rw [ind_f (fun z => by rw [q1] at z; cases z.1), ind_t (show bt (dN S l 17 a) m = true ∧ ¬ stb (dN S m) (nI k) from ⟨by rw [← e6 17 (by decide)]; exact m2, fun ⟨s, s1, s2, _⟩ => q2 ((ht.st m1).1.mp ⟨s, s1, s2⟩)⟩)]
          exact Nat.le_refl 1
  by_cases hFB : FBs P l S
  · obtain ⟨h0, g2, hg2, h2, hI⟩ := go true (fun _ => hFB)
    rcases hI with z | z | ⟨z1, z2, z3⟩
    · exact Or.inl (cv g2 hg2 z)
    · exact Or.inr (Or.inl (z.e h0))
    · refine Or.inr (Or.inr ⟨hsm.tr z1, z2, ?_⟩)
      rcases z3 with z3 | hv
      · exact Or.inl z3
      · obtain ⟨r1, r2⟩ := fin true g2 h0 hv h2
        have hs2' : dN S' l 18 3 = 2 := (hv.1.2.1 3 (by decide)).trans hsT
        refine Or.inr ⟨hs2', by rw [hv.1.2.1 4 (by decide), e6 18 (by decide)], r1, fun c hc i a k hi ha ha19 hk hnd hf' => ?_, fun _ => ⟨fun c hc i a k hi ha ha19 hk hnd hf' => ?_, fun hc => ?_⟩⟩
        · obtain ⟨w1, w2, w3, _⟩ := r2 i a k hi ha ha19 hk hnd hf'
          exact Nat.le_trans (Sm_mono w3) (hc i a k hi ha ha19 hk w1 w2)
        · obtain ⟨w1, w2, _, w4'⟩ := r2 i a k hi ha ha19 hk hnd hf'
          have := hc i a k hi ha ha19 hk w1 w2
          have := w4' rfl
          omega
        · have hL2 := h2.lo hl
          have hgd := (h2.gh hl).1.2.1 hs2'
          rcases hL2.st with ⟨z, _⟩ | ⟨z, _⟩ | ⟨_, o, _, zo, _⟩ | ⟨z, _⟩ | ⟨z, _⟩
          · rw [hs2'] at z; exact absurd z (by decide)
          · rw [hs2'] at z; exact absurd z (by decide)
          · obtain ⟨i, a, i1, a1, a2, a3, a4⟩ := FE.lk zo hgd
            obtain ⟨k, k1, _, k3, _⟩ := hL2.tgf h2.1.1.go hP.gg (show a < 961 by omega) a4
            obtain ⟨w1, w2, _, w4'⟩ := r2 i a k i1 a1 a2 k1 a3 k3
            have := hc i a k i1 a1 a2 k1 w1 w2
            have := w4' rfl
            omega
          · rw [hs2'] at z; exact absurd z (by decide)
          · rw [hs2'] at z; exact absurd z (by decide)
  · obtain ⟨h0, g2, hg2, h2, hI⟩ := go false (fun z => absurd z (by decide))
    rcases hI with z | z | ⟨z1, z2, z3⟩
    · exact Or.inl (cv g2 hg2 z)
    · exact Or.inr (Or.inl (z.e h0))
    · refine Or.inr (Or.inr ⟨hsm.tr z1, z2, ?_⟩)
      rcases z3 with z3 | hv
      · exact Or.inl z3
      · obtain ⟨r1, r2⟩ := fin false g2 h0 hv h2
        refine Or.inr ⟨(hv.1.2.1 3 (by decide)).trans hsT, by rw [hv.1.2.1 4 (by decide), e6 18 (by decide)], r1, fun c hc i a k hi ha ha19 hk hnd hf' => ?_, fun z => absurd z hFB⟩
        obtain ⟨w1, w2, w3, _⟩ := r2 i a k hi ha ha19 hk hnd hf'
        exact Nat.le_trans (Sm_mono w3) (hc i a k hi ha ha19 hk w1 w2)

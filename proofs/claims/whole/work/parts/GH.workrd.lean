/-! a round of STORE or COMMIT, as a whole -/
/-- all NODES that miss a block have it in their memory -/
def amS (P : Pm) (l : Nat) (S : SS) : Prop := ∀ b j, inB (dN S l 18 3) b → j < P.nn → bt (msO P.gg (dN S l) b) j = true → mem (dN S j) (dN S l 21 (b * 128 + 1))
theorem msO_mono {gg b j : Nat} {DT D : Nat → Nat → Int32} (h : FRm DT D) (hj : j < 32) (hb : bt (msO gg D b) j = true) : bt (msO gg DT b) j = true := by
  obtain ⟨c1, c2⟩ := msO_f hb
  unfold msO at hb ⊢
  rw [if_neg c1, if_neg c2] at hb
  rw [h.1 21 (by decide)] at c1
  rw [h.1 15 (by decide), h.1 16 (by decide), h.1 21 (by decide)] at c2 hb
  rw [h.1 8 (by decide), h.1 11 (by decide)] at hb
  rw [if_neg c1, if_neg c2]
  rw [b_and, bt_not _ hj] at hb ⊢
  simp only [Bool.and_eq_true, Bool.not_eq_true'] at hb ⊢
  refine ⟨hb.1, ?_⟩
  cases q : bt (DT 17 (fndI (DT 15) (DT 16) (DT 21 (b * 128 + 1))).toNatClampNeg) j with
  | false => rfl
  | true =>
    have := h.2 _ j hj q
    rw [this] at hb
    cases hb.2
theorem arS_1 {gg : Nat} {D : Nat → Nat → Int32} : ∀ (k i : Nat), (∀ b, i ≤ b → b < i + k → ¬ seB (D 21 (b * 128)) = 0 → ∃ a, a < 961 ∧ fndI (D 15) (D 16) (D 21 (b * 128 + 1)) = nI a ∧ ¬ sfB (D 8) (D 11) (D 16) (D 17) gg a = 0) → ¬ arS gg D k i = 0
  | 0, i, _ => by
    show ¬ (1 : Int32) = 0
    decide
  | k + 1, i, h => by
    have ih := arS_1 (gg := gg) (D := D) k (i + 1) (fun b h1 h2 h3 => h b (by omega) (by omega) h3)
    unfold arS
    by_cases c : seB (D 21 (i * 128)) = 0
    · rw [if_pos c]; exact ih
    · obtain ⟨a, a1, a2, a3⟩ := h i (Nat.le_refl _) (by omega) c
      rw [if_neg c, if_neg (by rw [a2]; exact nIneg (by omega)), bnN_e, a2, nI_clamp (by omega), if_pos a3]
      exact ih
/-- a sealed block of the step is found in the table -/
theorem LO.sealed {P : Pm} {g : Gh} {D : Nat → Nat → Int32} {K : Int64} {b : Nat} (hG : GO g) (hgg : 0 < P.gg) (h : LO P g g.ep D K) (hb : inB (D 18 3) b) (hs : ¬ seB (D 21 (b * 128)) = 0) : ∃ a k, a < 961 ∧ k < 5243392 ∧ D 21 (b * 128 + 1) = nI k ∧ fndI (D 15) (D 16) (nI k) = nI a ∧ ¬ D 16 a < 0 ∧ D 8 (grp (D 11) P.gg a) = msk P g g.ep k := by
  have hs0 : ¬ D 21 (b * 128) = 0 := fun z => by
    apply hs
    rw [z]; rfl
  have fin : ∀ k, k < 5243392 → D 21 (b * 128 + 1) = nI k → (∃ a, a < 961 ∧ plc (D 11) k a ∧ D 16 a = nI (k % 512)) → ∃ a k, a < 961 ∧ k < 5243392 ∧ D 21 (b * 128 + 1) = nI k ∧ fndI (D 15) (D 16) (nI k) = nI a ∧ ¬ D 16 a < 0 ∧ D 8 (grp (D 11) P.gg a) = msk P g g.ep k := fun k hk e ⟨a, a1, a2, a3⟩ => by
    rcases h.find hgg hk with ⟨_, z⟩ | ⟨a', b1, b2, b3, b4, _, b6⟩
    · exact absurd a3 (z a a2)
    · exact ⟨a', k, b1, hk, e, b2, by rw [b4]; exact nI_pos (by omega), b6⟩
  rcases h.st with ⟨z, _⟩ | ⟨z, _⟩ | ⟨z, _⟩ | ⟨z, o, zo⟩ | ⟨z, o, zo⟩
  · rcases hb with ⟨_, q⟩ | ⟨_, q⟩ <;> rw [z] at q <;> exact absurd q (by decide)
  · rcases hb with ⟨_, q⟩ | ⟨_, q⟩ <;> rw [z] at q <;> exact absurd q (by decide)
  · rcases hb with ⟨_, q⟩ | ⟨_, q⟩ <;> rw [z] at q <;> exact absurd q (by decide)
  · rcases hb with ⟨b8, _⟩ | ⟨_, q⟩
    · rcases zo.nb.b1 b (by omega) with w | ⟨_, _, _, k, k1, k2, k3, k4⟩
      · have := w 0 (by decide)
        rw [Nat.add_zero] at this
        exact absurd this hs0
      · refine fin k (by omega) k1 (TKD.ti zo.tk ?_)
        rcases k4 with ⟨q, _⟩ | q
        · omega
        · exact Or.inr q
    · rw [z] at q; exact absurd q (by decide)
  · rcases hb with ⟨_, q⟩ | ⟨b8, _⟩
    · rw [z] at q; exact absurd q (by decide)
    · subst b8
      have ho := zo.wa.o1
      have h5 := hG.1
      obtain ⟨t1, t2, t3⟩ := rtg_v (show o < 512 by omega)
      refine fin (rtg o) t1 zo.b8.2.1 (TKD.ti zo.tk (Or.inl ⟨t2, ?_⟩))
      rw [t3]; exact zo.rt
theorem rdW {P : Pm} {g : Gh} {l : Nat} {S T S' : SS} (hP : PmO P) (hSL : SL P) (hl : l < P.nn) (hA : AV P g) (h : RG P g l S) (hms : S.2.2.1 = []) (hs : dN S l 18 3 = 3 ∨ dN S l 18 3 = 4) (htk : tkR P.nn P.gg P.C P.f S T) (hdr : drR P.nn P.gg P.C P.f T S') :
    pgT g (dN S l) (kN S l) (dN S' l) (kN S' l) ∨ heN S < heN S' ∨ (smT (dN S l) (kN S l) (dN S' l) (kN S' l) ∧ heN S' = heN S ∧ (pcd (dN S' l) (heN S) < pcd (dN S l) (heN S) ∨ (¬ amS P l S ∧ dN S' l 18 = dN S l 18 ∧ amS P l S'))) := by
  have hnn := hP.nn
  obtain ⟨g1, Zs, hg1, hT, ht⟩ := h.tk hP hl hms htk
  obtain ⟨e1, e2, e3, e4, e5, e6, eK, _, _⟩ := ht.ld hl
  have hL := h.lo hl
  have hG := h.1.1.go
  have hst1 : ¬ dN S l 18 3 = 1 := fun z => by rcases hs with q | q <;> rw [z] at q <;> exact absurd q (by decide)
  have e6 := e6 hst1
  have hle1 : ¬ dN S l 18 3 ≤ 1 := fun z => by rcases hs with q | q <;> rw [q] at z <;> exact absurd z (by decide)
  have hkn : ¬ knA (kN S l) (dN S l 10 9) = 0 := hL.kn hle1
  have hsm : smT (dN S l) (kN S l) (dN T l) (kN T l) := smT.of (e6 16 (by decide)) (e6 10 (by decide)) (e6 15 (by decide)) eK
  have hheT : heN T = heN S := by unfold heN; rw [ht.e.1]
  obtain ⟨ak1, _⟩ := ht.ak hl hP.nn h
  have hsT : dN T l 18 3 = 3 ∨ dN T l 18 3 = 4 := by rw [e6 18 (by decide)]; exact hs
  have emsO : ∀ b, msO P.gg (dN T l) b = msO P.gg (dN S l) b := fun b => by
    unfold msO
    rw [e6 21 (by decide), e6 15 (by decide), e6 16 (by decide), e6 8 (by decide), e6 11 (by decide), e6 17 (by decide)]
  have epc : pcd (dN T l) (heN S) = pcd (dN S l) (heN S) := by unfold pcd; rw [e6 18 (by decide)]
  have htg : ∀ b, inB (dN T l 18 3) b → ∀ j, bt (msO P.gg (dN T l) b) j = true → ∃ k, k < 5243392 ∧ dN T l 21 (b * 128 + 1) = nI k := fun b hb j hj => by
    rw [e6 18 (by decide)] at hb
    rw [emsO] at hj
    obtain ⟨a, k, _, k1, k2, _⟩ := hL.sealed hG hP.gg hb (msO_f hj).1
    exact ⟨k, k1, by rw [e6 21 (by decide)]; exact k2⟩
  obtain ⟨D1, D2, Zw, f2, wz, _, w4, wk⟩ := ht.wz hl
  have f18 : D1 18 = dN S l 18 := f2 18 (by decide) (by decide) (by decide)
  have hNOx : NOx T := fun y hy => by
    rcases wk y hy with q | q | q | ⟨z, z1, z2⟩
    · exact Or.inl q
    · exact Or.inr (Or.inr (Or.inl q))
    · exact Or.inr (Or.inr (Or.inr (Or.inr (Or.inr q))))
    · rw [z2.1]
      rcases wz.kd z1 with ⟨j, _, _, q, _⟩ | ⟨_, q, _⟩ | ⟨o, j, _, _, _, q⟩ | ⟨a, m, _, _, _, _, _, _, _, _, q⟩
      · rw [f18] at q; exact absurd hs q
      · rw [f18] at q; rcases hs with w | w <;> rw [q] at w <;> exact absurd w (by decide)
      · rw [q, mPU_0]; exact Or.inr (Or.inr (Or.inr (Or.inr (Or.inl rfl))))
      · rw [f18] at q; exact absurd q hle1
  -- the PUTS
  have hPU : ∀ b j, inB (dN T l 18 3) b → j < P.nn → bt (msO P.gg (dN T l) b) j = true → PUm T j (dN T l 21 (b * 128 + 1)) := fun b j hb hj hm => by
    obtain ⟨Dq, Zp, Zq, Zm, x1, x2, x3, _, _, _, x6, _⟩ := wz
    have hDq : ∀ q, q ≠ 7 → q ≠ 1 → q ≠ 2 → q ≠ 5 → Dq q = dN S l q := fun q a b c d => by rw [x2 q a, f2 q b c d]
    have em2 : msO P.gg Dq b = msO P.gg (dN S l) b := by
      unfold msO
      rw [hDq 21 (by decide) (by decide) (by decide) (by decide), hDq 15 (by decide) (by decide) (by decide) (by decide), hDq 16 (by decide) (by decide) (by decide) (by decide), hDq 8 (by decide) (by decide) (by decide) (by decide), hDq 11 (by decide) (by decide) (by decide) (by decide), hDq 17 (by decide) (by decide) (by decide) (by decide)]
    rw [emsO, ← em2] at hm
    rw [e6 18 (by decide), ← hDq 18 (by decide) (by decide) (by decide) (by decide)] at hb
    have hmem : mPU (nI l) Dq b j ∈ Zq := by
      rcases hb with ⟨b8, sb⟩ | ⟨b8, sb⟩
      · rcases x6 with ⟨q, _⟩ | ⟨_, _, _, m⟩ | ⟨q, _⟩ | ⟨_, q, _⟩
        · rw [sb] at q; exact absurd q (by decide)
        · exact m b j b8 hj hm
        · rw [sb] at q; exact absurd q (by decide)
        · exact absurd sb q
      · subst b8
        rcases x6 with ⟨q, _⟩ | ⟨q, _⟩ | ⟨_, _, _, m⟩ | ⟨_, _, q, _⟩
        · rw [sb] at q; exact absurd q (by decide)
        · rw [sb] at q; exact absurd q (by decide)
        · exact m j hj hm
        · exact absurd sb q
    obtain ⟨y, y1, y2⟩ := w4 (mPU (nI l) Dq b j) (by rw [x1]; exact List.mem_append_right _ (List.mem_append_left _ hmem))
    refine ⟨y, y1, by rw [y2.1, mPU_0], by rw [y2.1, (mPU_5 _ _ _ _).2], by rw [y2.1, (mPU_5 _ _ _ _).1, e6 21 (by decide), hDq 21 (by decide) (by decide) (by decide) (by decide)]⟩
  have hEF : ∀ n, n < P.nn → EF (dN T n) := fun n hn s hs _ => (ht.disk hn).2.1 s hs
  have hFR : FRm (dN T l) (dN T l) := ⟨fun _ _ => rfl, fun _ _ _ z => z⟩
  have hGQ := ht.gq hP hl h hkn (Or.inl hs)
  have go : ∀ fl : Bool, (∀ b j, inB (dN T l 18 3) b → j < P.nn → bt (msO P.gg (dN T l) b) j = true → OBw l g1.ep fl T j (dN T l 21 (b * 128 + 1))) → S'.2.2.1 = [] ∧ ∃ g2, Gs g1 g2 ∧ RG P g2 l S' ∧ WRx P l (heN S) (pcd (dN S l) (heN S)) fl T g2 S' := fun fl hob => by
    obtain ⟨h0, g2, hg2, h2, hI2⟩ := RG.dr (I := fun g S1 => GQ P l S1 ∧ AKs (heN S) S1 ∧ WRx P l (heN S) (pcd (dN S l) (heN S)) fl T g S1) hP hl (fun g g' S1 S1' x Z h hi hst hgs h' => ⟨hi.1.st hP hl h hst h', hi.2.1.st hP hl h hst h', hi.2.2.st hP hSL hl hsT epc htg h hst hgs h' hi.1 hi.2.1⟩) hT ⟨hGQ, ak1, Or.inr (Or.inr ⟨smT.rf _ _, hheT, Or.inr ⟨hFR, hNOx, hEF, hob⟩⟩)⟩ hdr
    exact ⟨h0, g2, hg2, h2, hI2.2.2⟩
  have cv : ∀ g2, Gs g1 g2 → pgT g2 (dN T l) (kN T l) (dN S' l) (kN S' l) → pgT g (dN S l) (kN S l) (dN S' l) (kN S' l) := fun g2 hg2 z => by
    apply hsm.pg
    unfold pgT at z ⊢
    rw [Nn_gs hg2, Nn_gs hg1] at z
    exact z
  by_cases ham : amS P l S
  · obtain ⟨h0, g2, hg2, h2, hI⟩ := go true (fun b j hb hj hm => ⟨fun z => absurd z (by decide), fun _ => Or.inr (Or.inr ⟨hPU b j hb hj hm, by
      rw [e6 21 (by decide)]
      rw [e6 18 (by decide)] at hb
      rw [emsO] at hm
      exact (ht.st hj).1.mp (ham b j hb hj hm)⟩)⟩)
    rcases hI with z | z | ⟨z1, z2, z3⟩
    · exact Or.inl (cv g2 hg2 z)
    · exact Or.inr (Or.inl (z.e h0))
    · refine Or.inr (Or.inr ⟨hsm.tr z1, z2, Or.inl ?_⟩)
      rcases z3 with z3 | ⟨r1, _, _, r4⟩
      · exact z3
      · exfalso
        have hL2 := h2.lo hl
        have hG2 := h2.1.1.go
        have hgd := (h2.gh hl).1
        have h18 : dN S' l 18 = dN T l 18 := r1.1 18 (by decide)
        have hA2 : AV P g2 := (hA.gs hg1).gs hg2
        have key : ∀ b, inB (dN S' l 18 3) b → ¬ seB (dN S' l 21 (b * 128)) = 0 → ∃ a, a < 961 ∧ fndI (dN S' l 15) (dN S' l 16) (dN S' l 21 (b * 128 + 1)) = nI a ∧ ¬ sfB (dN S' l 8) (dN S' l 11) (dN S' l 16) (dN S' l 17) P.gg a = 0 := fun b hb hse => by
          obtain ⟨a, k, a1, k1, k2, a2, a3, a4⟩ := hL2.sealed hG2 hP.gg hb hse
          refine ⟨a, a1, by rw [k2]; exact a2, fun z => ?_⟩
          unfold sfB at z
          by_cases c : 0 ≤ dN S' l 16 a ∧ ¬ dN S' l 8 (grp (dN S' l 11) P.gg a) = 0 ∧ dN S' l 17 a &&& dN S' l 8 (grp (dN S' l 11) P.gg a) = dN S' l 8 (grp (dN S' l 11) P.gg a)
          · rw [if_pos c] at z; exact absurd z (by decide)
          · apply c
            refine ⟨Int32.not_lt.mp a3, by rw [a4]; exact gm_ne hP hA2, (bt_sub _ _).mpr (fun m hm hb2 => ?_)⟩
            have hmn : m < P.nn := by
              rcases Nat.lt_or_ge m P.nn with q | q
              · exact q
              · rw [a4, msk_out hP q] at hb2; cases hb2
            cases q : bt (dN S' l 17 a) m with
            | true => rfl
            | false =>
              exfalso
              have hmis : bt (msO P.gg (dN S' l) b) m = true := by
                unfold msO
                rw [if_neg hse, k2, if_neg (by rw [a2]; exact nIneg (by omega)), a2, nI_clamp (by omega), b_and, bt_not _ hm, hb2, q]; rfl
              have hmT := msO_mono r1 hm hmis
              obtain ⟨_, o2⟩ := r4 b m (by rw [← h18]; exact hb) hmn hmT
              rcases o2 rfl with ⟨a', w1, w2, w3⟩ | ⟨y, y1, _⟩ | ⟨⟨y, y1, _⟩, _⟩
              · rw [← r1.1 21 (by decide), k2, a2] at w2
                have := nI_inj (by omega) (by omega) w2
                rw [← this, q] at w3; cases w3
              · rw [h0] at y1; cases y1
              · rw [h0] at y1; cases y1
        rw [← h18] at hsT
        rcases hsT with q | q
        · exact arS_1 (8 - 0) 0 (fun b h1 h2 h3 => key b (Or.inl ⟨by omega, q⟩) h3) (hgd.2.2.1 q)
        · exact arS_1 (9 - 8) 8 (fun b h1 h2 h3 => key b (Or.inr ⟨by omega, q⟩) h3) (hgd.2.2.2 q)
  · obtain ⟨h0, g2, hg2, h2, hI⟩ := go false (fun b j hb hj hm => ⟨fun _ => Or.inr (hPU b j hb hj hm), fun z => absurd z (by decide)⟩)
    rcases hI with z | z | ⟨z1, z2, z3⟩
    · exact Or.inl (cv g2 hg2 z)
    · exact Or.inr (Or.inl (z.e h0))
    · refine Or.inr (Or.inr ⟨hsm.tr z1, z2, ?_⟩)
      rcases z3 with z3 | ⟨r1, _, _, r4⟩
      · exact Or.inl z3
      · have h18 : dN S' l 18 = dN T l 18 := r1.1 18 (by decide)
        refine Or.inr ⟨ham, by rw [h18, e6 18 (by decide)], fun b j hb hj hm => ?_⟩
        obtain ⟨o1, _⟩ := r4 b j (by rw [← h18]; exact hb) hj (msO_mono r1 (by omega) hm)
        rw [r1.1 21 (by decide)]
        rcases o1 rfl with q | ⟨y, y1, _⟩
        · exact q
        · rw [h0] at y1; cases y1

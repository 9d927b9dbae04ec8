/-! settle ends: what was told of before counts no more -/
theorem allN_tst : ∀ nn, nn < 7 → ∀ v, v < nn → ¬ (allN nn >>> (nI v &&& 31)) &&& 1 = 0 := by decide +kernel
theorem mof_bt {f : Nat → Int32} {C set : Int32} {nn : Nat} (hf : Rg nn f) (hnn : nn ≤ 6) {x : Nat} (hx : x < 32) : ∀ (k i : Nat) (m c : Int32), bt m x = true → bt (mof f C set k i m c).1 x = true
  | 0, _, _, _, h => h
  | k + 1, i, m, c, h => by
    unfold mof
    split
    · exact h
    · split
      · exact mof_bt hf hnn hx k (i + 1) m c h
      · exact mof_bt hf hnn hx k (i + 1) _ _ (by rw [b_or, h]; rfl)
theorem mof_all {f : Nat → Int32} {R nn : Nat} (hf : Rg nn f) (hnn : nn ≤ 6) (hR : R ≤ nn) : ∀ (k i : Nat) (m : Int32) (c : Nat), c ≤ R → R ≤ c + k → (mof f (nI R) (allN nn) k i m (nI c)).2 = nI R
  | 0, _, _, c, h1, h2 => by
    show nI c = nI R
    congr 1; omega
  | k + 1, i, m, c, h1, h2 => by
    unfold mof
    by_cases e : nI R ≤ nI c
    · rw [if_pos e]
      have := (nI_leI (by omega) (by omega)).mp e
      show nI c = nI R
      congr 1; omega
    · rw [if_neg e]
      have hlt : c < R := by
        rcases Nat.lt_or_ge c R with q | q
        · exact q
        · exact absurd ((nI_leI (by omega) (by omega)).mpr q) e
      obtain ⟨v, hv, ev⟩ := hf i
      rw [ev, if_neg (allN_tst nn (by omega) v hv), nI_1]
      exact mof_all hf hnn hR k (i + 1) _ (c + 1) (by omega) (by omega)
/-- with all NODES IN, each GROUP has its NODES -/
theorem gm_all {f : Nat → Int32} {R nn : Nat} (hf : Rg nn f) (hnn : nn ≤ 6) (hR : R ≤ nn) (hR1 : 1 ≤ R) (x : Nat) : ¬ gm nn (nI R) f (allN nn) x = 0 := fun h => by
  unfold gm mof2 at h
  have hm := mof_all hf hnn hR nn (x * nn) 0 0 (by omega) (by omega)
  rw [nI_0] at hm
  rw [if_pos hm] at h
  obtain ⟨n, rfl⟩ : ∃ n, nn = n + 1 := ⟨nn - 1, by omega⟩
  obtain ⟨v, hv, ev⟩ := hf (x * (n + 1))
  have hb : bt (mof f (nI R) (allN (n + 1)) (n + 1) (x * (n + 1)) 0 0).1 v = true := by
    unfold mof
    rw [if_neg (fun z => by rw [← nI_0] at z; have := (nI_leI (a := R) (b := 0) (by omega) (by omega)).mp z; omega), ev, if_neg (allN_tst (n + 1) (by omega) v hv)]
    refine mof_bt hf hnn (by omega) n _ _ _ ?_
    rw [bt_set _ (by omega) (by omega), decide_eq_true rfl, Bool.or_true]
  rw [h, b_0] at hb
  cases hb
theorem ctS_4 {g : Nat → Int32} : ∀ (k i : Nat) (E1 : Nat → Nat → Int32) (TK1 : Int64), (ctS g k i E1 TK1).1 4 = E1 4 ∧ (ctS g k i E1 TK1).1 5 = E1 5 ∧ (ctS g k i E1 TK1).1 7 = E1 7
  | 0, _, _, _ => ⟨rfl, rfl, rfl⟩
  | k + 1, i, E1, TK1 => by
    unfold ctS
    split
    · obtain ⟨h1, h2, h3⟩ := ctS_4 (g := g) k (i + 1) (srE (va_up E1 100 (upd (upd (E1 100) 7 ((E1 100 7) + ((E1 60) (nI i).toNatClampNeg))) 8 ((E1 100 8) + (nI (laidS (E1 64) (i * 20) 19 0 0))))) i) TK1
      rw [h1, h2, h3]
      unfold srE
      refine ⟨?_, ?_, ?_⟩ <;> rw [va_up_n _ _ (by decide), va_up_n _ _ (by decide)]
    · rw [bnN_e]
      generalize (fst1 (fun i_1 => decide (g (i_1 * 128 + 1) = tgA (E1 59) (E1 64) (i * 20 + 19) ∧ ¬ fstB (g (i_1 * 128)) = 0 ∧ fstB (g (i_1 * 128)) = lstB (g (i_1 * 128 + 127)))) 280 0).toNatClampNeg = s
      generalize rcF (E1 60) (E1 61) (E1 62) (E1 64) TK1 (E1 63) g (s * 128) = w
      obtain ⟨w1, w2, w3, w4, w5⟩ := w
      show (ctS g k (i + 1) (srE (va_up (va_up (va_up (va_up (va_up E1 100 (upd (upd (E1 100) 7 ((E1 100 7) + (w1 (nI i).toNatClampNeg))) 8 ((E1 100 8) + (nI (laidS w4 (i * 20) 19 0 0))))) 60 w1) 61 w2) 62 w3) 64 w4) i) w5).1 4 = E1 4 ∧ _ ∧ _
      obtain ⟨h1, h2, h3⟩ := ctS_4 (g := g) k (i + 1) (srE (va_up (va_up (va_up (va_up (va_up E1 100 (upd (upd (E1 100) 7 ((E1 100 7) + (w1 (nI i).toNatClampNeg))) 8 ((E1 100 8) + (nI (laidS w4 (i * 20) 19 0 0))))) 60 w1) 61 w2) 62 w3) 64 w4) i) w5
      refine ⟨h1.trans ?_, h2.trans ?_, h3.trans ?_⟩ <;> unfold srE <;> (iterate 6 rw [va_up_n _ _ (by decide)])
theorem ctF_4 (nn : Nat) (f : Nat → Int32) (E : Nat → Nat → Int32) (TK : Int64) (D : Nat → Nat → Nat → Int32) : (ctF nn f E TK D).1 4 = E 4 ∧ (ctF nn f E TK D).1 5 = E 5 ∧ (ctF nn f E TK D).1 7 = E 7 := by
  unfold ctF
  split
  · rw [bnN_e]
    split
    · obtain ⟨h1, h2, h3⟩ := ctS_4 (g := D (nof f 0 (E 4 14) nn 0 0).toNatClampNeg 2) 0 0 (va_up (va_up (va_up (va_up (va_up (va_up (va_up E 100 (upd (upd (E 100) 7 0) 8 0)) 58 (upd (upd (E 58) 9 0) 10 0)) 59 (ax_fill (E 59) 0 48 (-1))) 60 (ax_fill (E 60) 0 48 0)) 63 (ax_fill (E 63) 0 512 (-1))) 64 (ax_fill (E 64) 0 961 (-1))) 65 (ax_fill (E 65) 0 961 0)) 0
      refine ⟨h1.trans ?_, h2.trans ?_, h3.trans ?_⟩ <;> (iterate 7 rw [va_up_n _ _ (by decide)])
    · rw [bnN_e, bnN_e]
      generalize (skR (D (nof f 0 (E 4 14) nn 0 0).toNatClampNeg 2) 280 0 (-1)).toNatClampNeg = s
      generalize D (nof f 0 (E 4 14) nn 0 0).toNatClampNeg 2 = gg
      generalize (clI (gg (s * 128 + 15)) 0 48).toNatClampNeg = cf
      obtain ⟨h1, h2, h3⟩ := ctS_4 (g := gg) (cN (rrJ gg (s * 128) (ax_fill (ax_fill (E 59) 0 48 (-1)) 0 48 (-1)) cf) 48) 0 (va_up (va_up (va_up (va_up (va_up (va_up (va_up E 100 (upd (upd (E 100) 7 0) 8 0)) 58 (upd (upd (E 58) 9 (nI cf)) 10 (gg (s * 128 + 16)))) 59 (rrJ gg (s * 128) (ax_fill (ax_fill (E 59) 0 48 (-1)) 0 48 (-1)) cf)) 60 (ax_fill (ax_fill (E 60) 0 48 0) 0 48 0)) 63 (rrO gg (s * 128) (ax_fill (ax_fill (E 63) 0 512 (-1)) 0 512 (-1)) cf)) 64 (rrV gg (s * 128) (upd (ax_fill (ax_fill (E 64) 0 961 (-1)) 0 961 (-1)) 960 ((gg (s * 128 + 1)) - (gg (s * 128 + 1)) / 512 * 512)) cf)) 65 (ax_fill (ax_fill (E 65) 0 961 0) 0 961 0)) 0
      refine ⟨h1.trans ?_, h2.trans ?_, h3.trans ?_⟩ <;> (iterate 7 rw [va_up_n _ _ (by decide)])
  · refine ⟨?_, ?_, ?_⟩
    · show (va_up (va_up (va_up (va_up (va_up (va_up (va_up E 100 (upd (upd (E 100) 7 0) 8 0)) 58 (upd (upd (E 58) 9 0) 10 0)) 59 (ax_fill (E 59) 0 48 (-1))) 60 (ax_fill (E 60) 0 48 0)) 63 (ax_fill (E 63) 0 512 (-1))) 64 (ax_fill (E 64) 0 961 (-1))) 65 (ax_fill (E 65) 0 961 0)) 4 = _
      (iterate 7 rw [va_up_n _ _ (by decide)])
    · show (va_up (va_up (va_up (va_up (va_up (va_up (va_up E 100 (upd (upd (E 100) 7 0) 8 0)) 58 (upd (upd (E 58) 9 0) 10 0)) 59 (ax_fill (E 59) 0 48 (-1))) 60 (ax_fill (E 60) 0 48 0)) 63 (ax_fill (E 63) 0 512 (-1))) 64 (ax_fill (E 64) 0 961 (-1))) 65 (ax_fill (E 65) 0 961 0)) 5 = _
      (iterate 7 rw [va_up_n _ _ (by decide)])
    · show (va_up (va_up (va_up (va_up (va_up (va_up (va_up E 100 (upd (upd (E 100) 7 0) 8 0)) 58 (upd (upd (E 58) 9 0) 10 0)) 59 (ax_fill (E 59) 0 48 (-1))) 60 (ax_fill (E 60) 0 48 0)) 63 (ax_fill (E 63) 0 512 (-1))) 64 (ax_fill (E 64) 0 961 (-1))) 65 (ax_fill (E 65) 0 961 0)) 7 = _
      (iterate 7 rw [va_up_n _ _ (by decide)])
/-- the ghosts behind settle -/
def Gh.fin (g : Gh) : Gh := ⟨g.ops, g.bg, g.mp, g.ep, fun e n k => e = g.ep ∧ g.rep e n k, fun _ => 0, g.ep, g.bg, g.bg⟩
theorem sec_fin {P : Pm} {g : Gh} {k : Nat} (h : sec P g g.ep k) : sec P g.fin g.ep k := ⟨Nat.le_refl _, h.2.1, fun n hn hb => ⟨rfl, h.2.2 n hn hb⟩⟩
/-- what is not wanted behind r, and is no newer, is not wanted behind a later v -/
theorem isIt_no {g : Gh} (hG : GO g) {r k : Nat} (hr : eff g r) (hk : k < 5243392) (hkr : k % 512 ≤ r) (hn : ¬ isIt (tsp g.ops (r + 1)) (nI r) k) : ∀ v, r ≤ v → eff g v → ¬ isIt (tsp g.ops (v + 1)) (nI v) k := fun v => by
  induction v using Nat.strongRecOn with
  | ind v ih =>
    intro hrv hv hi
    have h5 := hG.1
    have hv5 := hv.1
    by_cases e : v = r
    · subst e; exact hn hi
    rcases Nat.lt_or_ge k 5242880 with hk2 | hk2
    · obtain ⟨w, w1, w2, w3, w4⟩ := isIt_old hG hv hk2 hi (by omega)
      obtain ⟨w', a1, a2, a3⟩ := efv_up (efv_s hr.2) (Nat.lt_succ_self r) v (by omega) (by omega)
      rw [w3] at a3
      have : w = w' := nI_inj (by omega) (by omega) a3
      exact ih w w1 (by omega) w2 w4
    · rcases hi with ⟨_, z⟩ | ⟨z, _⟩
      · have := nI_inj (by omega) (by omega) z
        omega
      · omega
/-- what settle leaves -/
theorem dn_fin {P : Pm} {g : Gh} {l R rc : Nat} {S S' : SS} (hP : PmO P) (hK : RK P) (hC : P.C = nI R) (hR : R ≤ P.nn) (hl : l < P.nn) (h : SU P g S) (hld : lds P g l g.ep) (h2 : CL2 P g l S) (hE : ER P g rc) (hrc : rc < R) (hset : g.mp g.ep = allN P.nn) (hlt : ∀ n, g.er n < g.ep) (hgd : GDs P g S) (hd : dnP P.nn P.gg P.f S)
    (h48 : S'.1 4 8 = S.1 4 8) (h49 : S'.1 4 9 = S.1 4 9) (h410 : S'.1 4 10 = S.1 4 8) (h412 : ∀ x, 12 ≤ x → S'.1 4 x = S.1 4 x) (h2' : S'.2 = S.2) : GI P g.fin S' ∧ ER P g.fin 0 := by
  have hdn := dn_e hP hl h hld hset hd
  have hdn0 := hdn
  have hnn := hP.nn
  obtain ⟨t1, t2, t3, t4⟩ := dn_r hP hK hC (by omega) hl h hld h2 hE hrc hdn
  obtain ⟨d1, d2, d3, d4, d5, d6, d7, d8⟩ := hdn
  have hG := h.1.go
  have h5 := hG.1
  have hep := h.1.ep.1
  obtain ⟨he, ha⟩ := h.1.as
  have hheb : he = g.bg := by rw [← ha.hh]; exact d1
  subst hheb
  have hmade : ∀ v, v < 512 → efv g.ops g.bg = nI v → made P g.fin v := fun v hv ev k hk hi => by
    right
    refine ⟨g.ep, Nat.le_refl _, sec_fin (t3 k (by omega) ?_)⟩
    have hs := (same_root (ops := g.ops) (r := v + 1) (o := g.bg) (by omega) h5 (by rw [ev]; exact efv_s (efv_lt ev hv h5).2)).1
    rw [← hs, ev]; exact hi
  have hdead : ∀ k, k < 5243392 → dead P g k → dead P g.fin k := fun k hk hd => by
    obtain ⟨r, e, q1, q2, q3, q4⟩ := hd
    obtain ⟨v, v1, v2, v3⟩ := efv_up (efv_s q1.2) (Nat.lt_succ_self r) g.bg q1.1 h5
    have hv : eff g v := ⟨v2, (efv_lt v3 (by omega) h5).2⟩
    refine ⟨v, g.ep, hv, sec_fin (t3 (rtg v) (by unfold rtg tgN; omega) (Or.inl ⟨?_, ?_⟩)), by omega, isIt_no hG q1 hk q3 q4 v v1 hv⟩
    · unfold rtg tgN; omega
    · rw [v3]; congr 1; unfold rtg tgN; omega
  refine ⟨⟨⟨h5, hG.2⟩, ⟨hep, Nat.le_refl _⟩, ⟨g.bg, ?_⟩, ?_, fun n hn => Or.inr ⟨?_, g.ep, ?_⟩⟩, ?_⟩
  · refine ⟨by rw [h48]; exact ha.bg, ⟨Nat.le_refl _, Nat.le_add_right _ _⟩, by rw [h49]; exact ha.h2, by rw [h412 12 (by decide)]; exact ha.ef, fun v hv ev => Or.inr ⟨g.ep, Nat.le_refl _, sec_fin (t3 (rtg v) (by unfold rtg tgN; omega) (Or.inl ⟨by unfold rtg tgN; omega, ?_⟩))⟩, fun o h1 h2 => absurd h2 (by show ¬ o < g.bg; omega), ⟨by rw [h412 13 (by decide)]; exact ha.ep.1, by rw [h412 14 (by decide)]; exact ha.ep.2⟩, rfl, ⟨Nat.le_refl _, Nat.le_add_right _ _, by rw [h410]; exact ha.bg⟩, fun n hn hb => ⟨(ha.mh n hn (by rw [h412 15 (by decide)] at hb; exact hb)).1, rfl, (ha.mh n hn (by rw [h412 15 (by decide)] at hb; exact hb)).2⟩⟩
    have ev : efv g.ops g.bg = nI v := ev
    rw [ev]; congr 1; unfold rtg tgN; omega
  · rw [h2', d3]; exact fun x hx => by cases hx
  · rw [h2']; exact h.2.1 n hn
  · have hN := h.nu hn
    rw [d2 n hn] at hN
    rw [h2']
    refine ⟨⟨hN.ep.1, Nat.le_refl _, hN.ep.2.2.1, Nat.le_refl _⟩, ?_, fun e k hr hl => ?_, fun e' k hr => ⟨(hN.rk e' k hr.2).1, (hN.rk e' k hr.2).2.1, Nat.le_of_eq hr.1.symm⟩, hN.ni, fun hlead => ?_⟩
    · -- the DISK
      obtain ⟨c, c1, c2, c3, c4, c5, c6, c7, c8⟩ := hN.du
      have c0 : c = 0 := nI_inj (by omega) (by decide) (by rw [← c2, d4 n hn]; rfl)
      subst c0
      refine ⟨0, c1, c2, c3, c4, c5, fun s hs hw => ?_, fun s j _ hj => absurd hj (Nat.not_lt_zero _), c8⟩
      have how : S.2.2.2.1 n 5 s = -1 := by
        rcases c4 s hs with q | ⟨j, q, _⟩
        · exact q
        · exact absurd q (Nat.not_lt_zero _)
      obtain ⟨b1, b2, k, k1, k2, k3⟩ := c6 s hs hw
      have htag : S.2.2.2.1 n 6 s = nI k := by
        rcases c5 s hs how with ⟨_, q⟩ | ⟨_, _, q⟩
        · exact absurd hw q
        · exact q.symm.trans k2
      obtain ⟨m1, m2⟩ := t4 n hn k k1 ⟨s, hs, htag, how⟩
      refine ⟨b1, fun v hv ev => ?_, k, k1, k2, ?_, Or.inr ⟨Nat.le_refl _, m1⟩⟩
      · have hkv : k = rtg v := by
          have := k2.symm.trans ev
          exact nI_inj (by omega) (by unfold rtg tgN; omega) this
        subst hkv
        refine hmade v hv ?_
        rcases m1 with ⟨_, z⟩ | ⟨z, _⟩
        · rw [z]; congr 1; unfold rtg tgN; omega
        · exfalso; unfold rtg tgN at z; omega
      · have := k3.1
        rw [d1] at this
        exact this
    · rcases hN.rp e k hr.2 ⟨hl.1, by rw [hr.1]; exact hlt n⟩ with q | q | ⟨e', q1, q2, q3⟩
      · exact Or.inl (hdead k hl.1 q)
      · exact Or.inr (Or.inl q)
      · right; right
        have : e' = g.ep := by
          have := q3.1
          have := hr.1
          omega
        subst this
        exact ⟨g.ep, q1, q2, sec_fin q3⟩
    · have hnl : n = l := by
        rw [hN.ep.2.2.1] at hlead
        exact lds_1 (by omega) (by omega) hld hlead
      subst hnl
      have hL := hN.ld hlead
      have hst : S.2.2.2.1 n 18 3 = 0 := by
        have hs1 := d5
        rcases hL.st with ⟨z, _⟩ | ⟨z, ⟨r, zr⟩, o, zo⟩ | ⟨z, _⟩ | ⟨z, _⟩ | ⟨z, _⟩
        · exact z
        · exfalso
          have hg := hgd n hn (h.2.1 n hn) hlead
          rcases hg.1.1 z with q | q | ⟨q1, q2, q3⟩
          · exact d6 q
          · have hm0 : S.2.2.2.1 n 8 0 = gm P.nn P.C P.f (g.mp g.ep) 0 := hL.l2 0 hP.gg
            unfold rdB at q
            by_cases cc : ¬ S.2.2.2.1 n 8 0 = 0 ∧ (S.2.2.2.1 n 7 9 &&& S.2.2.2.1 n 8 0) = S.2.2.2.1 n 8 0
            · rw [if_pos cc] at q; exact absurd q (by decide)
            · apply cc
              refine ⟨?_, ?_⟩
              · rw [hm0, hset, hC]
                exact gm_all hP.f hnn hR (by have := hrc; omega) 0
              · apply bt_ext
                intro i hi
                rw [b_and]
                cases hbi : bt (S.2.2.2.1 n 8 0) i with
                | false => simp
                | true =>
                  have hin : i < P.nn := by
                    rcases Nat.lt_or_ge i P.nn with y | y
                    · exact y
                    · exfalso
                      have := msk_bits (P := P) (g := g) hP.f hnn g.ep 5242880 i y
                      unfold msk at this
                      rw [show gr P.gg 5242880 = 0 by unfold gr; rw [if_pos (Or.inl (by decide))], ← hm0, hbi] at this
                      cases this
                  rw [(hg.2.1 (by rw [z]; decide) i hi (d7 i hin)).1]; rfl
          · rw [t1] at q1 q2 q3
            rw [zo.ak.op] at q1 q2
            rw [zo.bf] at q3
            have ho := zo.o1
            rcases efv_or g.ops g.bg with y | ⟨v, v1, v2, v3, v4⟩
            · apply q3
              rw [y]
              rcases efv_or g.ops o with y2 | ⟨w, w1, w2, _⟩
              · rw [y2]
              · obtain ⟨v, _, _, q⟩ := efv_up w2 w1 g.bg (by omega) h5
                rw [y] at q; exact absurd q.symm (nIneg (by omega))
            · rw [v2] at q1 q2
              have hvo : v < o := by
                have := (nI_leI (by omega) (by omega)).mp q1
                rcases Nat.lt_or_ge v o with y | y
                · exact y
                · exact absurd (by rw [show v = o by omega]) q2
              obtain ⟨w, w1, w2, w3⟩ := efv_up (efv_s v3) (Nat.lt_succ_self v) o (by omega) (by omega)
              obtain ⟨x, x1, x2, x3⟩ := efv_up w3 w2 g.bg (by omega) h5
              rw [v2] at x3
              have : v = x := nI_inj (by omega) (by omega) x3
              apply q3
              rw [v2, w3]; congr 1; omega
        · rw [z] at hs1; exact absurd hs1 (by decide)
        · rw [z] at hs1; exact absurd hs1 (by decide)
        · rw [z] at hs1; exact absurd hs1 (by decide)
      obtain ⟨r, zr⟩ := hL.idle d5
      refine ⟨⟨hL.l1.1, hL.l1.2.1, Nat.le_refl _, Nat.le_refl _⟩, hL.l2, fun a k b1 b2 b3 b4 m hm hb => ⟨rfl, hL.hd a k b1 b2 b3 b4 m hm hb⟩, hL.hz, Or.inl ⟨hst, r, zr.r1, zr.rt, zr.tr, zr.an, fun v hv ev => hmade v hv (by rw [← t1, zr.rt]; exact ev)⟩⟩
  · refine ⟨?_, fun n => Or.inl (by show 0 < g.ep; have := hlt n; omega), fun n => Nat.zero_le _⟩
    show Sm (fun _ => if g.ep < 0 then 1 else 0) P.nn ≤ 0
    simp only [Nat.not_lt_zero, if_false]
    have : ∀ n, Sm (fun _ => 0) n = 0 := fun n => by
      induction n with
      | zero => rfl
      | succ n ih => show Sm (fun _ => 0) n + 0 = 0; rw [ih]
    rw [this]; exact Nat.le_refl _

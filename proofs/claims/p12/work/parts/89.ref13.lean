/-! the reference, exactly: swap of two FILES -/
theorem n_205Y {L : Nat} {xs : Nat → Int32} {fr lo m n sl : Nat} {h : ax_H} {fs : List Value} {f g a12 a14 a15 a30 a31 w c n1 n3 : Nat} {og ff lf pf ql : Nat → Int32} (hfr : 3 ≤ fr) (hlo : 110 ≤ lo) (hc : c ≤ 48) (hw : w < 12) (hn1 : ql (2 * w + 0) = nI n1) (hn2 : n1 ≤ 200) (hm1 : ql (2 * w + 1) = nI n3) (hm2 : n3 ≤ 200) (hog : ∀ i, i < c → ¬ og i < 0 ∧ (og i).toNatClampNeg < 48) (hlf : ∀ f, f < 48 → ¬ lf f < 0 ∧ (lf f).toNatClampNeg ≤ 200) (hf0 : f < 48) (hg0 : g < 48) (hgf : g ≠ f) (hv : mfnd ff pf lf og (400 * w + 200 * 0) n1 c 0 = nI f) (hv2 : mfnd ff pf lf og (400 * w + 200 * 1) n3 c 0 = nI g) (hc1 : lvN (nI f) c 0 0 og ≤ 48) (hc2 : lvN (nI g) (lvN (nI f) c 0 0 og) 0 0 (lvF (nI f) c 0 0 og) ≤ 47) (hc3 : lvN (nI g) (lvN (nI f) c 0 0 og) 0 0 (lvF (nI f) c 0 0 og) + 1 ≤ 47) (hog2 : ∀ i, i < lvN (nI g) (lvN (nI f) c 0 0 og) 0 0 (lvF (nI f) c 0 0 og) → ¬ (lvF (nI g) (lvN (nI f) c 0 0 og) 0 0 (lvF (nI f) c 0 0 og)) i < 0 ∧ ((lvF (nI g) (lvN (nI f) c 0 0 og) 0 0 (lvF (nI f) c 0 0 og)) i).toNatClampNeg < 48) (hog3 : ∀ i, i < lvN (nI g) (lvN (nI f) c 0 0 og) 0 0 (lvF (nI f) c 0 0 og) + 1 → ¬ (upd (inF ff pf lf (400 * w + 200 * 1) n3 (lvN (nI g) (lvN (nI f) c 0 0 og) 0 0 (lvF (nI f) c 0 0 og)) (lvF (nI g) (lvN (nI f) c 0 0 og) 0 0 (lvF (nI f) c 0 0 og))) (inA ff pf lf (400 * w + 200 * 1) n3 (lvN (nI g) (lvN (nI f) c 0 0 og) 0 0 (lvF (nI f) c 0 0 og)) (lvF (nI g) (lvN (nI f) c 0 0 og) 0 0 (lvF (nI f) c 0 0 og))) (nI f)) i < 0 ∧ ((upd (inF ff pf lf (400 * w + 200 * 1) n3 (lvN (nI g) (lvN (nI f) c 0 0 og) 0 0 (lvF (nI f) c 0 0 og)) (lvF (nI g) (lvN (nI f) c 0 0 og) 0 0 (lvF (nI f) c 0 0 og))) (inA ff pf lf (400 * w + 200 * 1) n3 (lvN (nI g) (lvN (nI f) c 0 0 og) 0 0 (lvF (nI f) c 0 0 og)) (lvF (nI g) (lvN (nI f) c 0 0 og) 0 0 (lvF (nI f) c 0 0 og))) (nI f)) i).toNatClampNeg < 48) (hlf3 : ∀ f9, f9 < 48 → ¬ (upd lf f (nI n3)) f9 < 0 ∧ ((upd lf f (nI n3)) f9).toNatClampNeg ≤ 200) (hl : fs.length = 39) (z12 : fs[12]? = some (.ref a12)) (z14 : fs[14]? = some (.ref a14)) (z15 : fs[15]? = some (.ref a15)) (z20 : fs[20]? = some (.int (nI c))) (z30 : fs[30]? = some (.ref a30)) (z31 : fs[31]? = some (.ref a31)) (hF : ax_hs h [(m, .inr (11, fs)), (a12, .inl (0, 48, .inl og)), (a14, .inl (1, 9600, .inl ff)), (a15, .inl (0, 48, .inl lf)), (a30, .inl (1, 4800, .inl pf)), (a31, .inl (0, 24, .inl ql))]) (hn : h.1 = n) (hs : h.2.1 = sl) (hn0 : 0 < n) : ax_M L xs 205 fr lo [.ref m, .int (nI w)] h (fun r h' => ∃ fs', r = some (.int 0) ∧ fs'.length = 39 ∧ fs'[20]? = some (.int (nI (lvN (nI g) (lvN (nI f) c 0 0 og) 0 0 (lvF (nI f) c 0 0 og) + 1 + 1))) ∧ (∀ k, k ≠ 20 → fs'[k]? = fs[k]?) ∧ ax_hs h' [(m, .inr (11, fs')), (a12, .inl (0, 48, .inl (upd (inF (rgF (fun i => vp_nar .byte (pf ((400 * w + 200 * 1) + i))) (200 * f) n3 ff) pf (upd lf f (nI n3)) (400 * w + 200 * 0) n1 (lvN (nI g) (lvN (nI f) c 0 0 og) 0 0 (lvF (nI f) c 0 0 og) + 1) (upd (inF ff pf lf (400 * w + 200 * 1) n3 (lvN (nI g) (lvN (nI f) c 0 0 og) 0 0 (lvF (nI f) c 0 0 og)) (lvF (nI g) (lvN (nI f) c 0 0 og) 0 0 (lvF (nI f) c 0 0 og))) (inA ff pf lf (400 * w + 200 * 1) n3 (lvN (nI g) (lvN (nI f) c 0 0 og) 0 0 (lvF (nI f) c 0 0 og)) (lvF (nI g) (lvN (nI f) c 0 0 og) 0 0 (lvF (nI f) c 0 0 og))) (nI f))) (inA (rgF (fun i => vp_nar .byte (pf ((400 * w + 200 * 1) + i))) (200 * f) n3 ff) pf (upd lf f (nI n3)) (400 * w + 200 * 0) n1 (lvN (nI g) (lvN (nI f) c 0 0 og) 0 0 (lvF (nI f) c 0 0 og) + 1) (upd (inF ff pf lf (400 * w + 200 * 1) n3 (lvN (nI g) (lvN (nI f) c 0 0 og) 0 0 (lvF (nI f) c 0 0 og)) (lvF (nI g) (lvN (nI f) c 0 0 og) 0 0 (lvF (nI f) c 0 0 og))) (inA ff pf lf (400 * w + 200 * 1) n3 (lvN (nI g) (lvN (nI f) c 0 0 og) 0 0 (lvF (nI f) c 0 0 og)) (lvF (nI g) (lvN (nI f) c 0 0 og) 0 0 (lvF (nI f) c 0 0 og))) (nI f))) (nI g)))), (a14, .inl (1, 9600, .inl (rgF (fun i => vp_nar .byte (pf ((400 * w + 200 * 0) + i))) (200 * g) n1 (rgF (fun i => vp_nar .byte (pf ((400 * w + 200 * 1) + i))) (200 * f) n3 ff)))), (a15, .inl (0, 48, .inl (upd (upd lf f (nI n3)) g (nI n1)))), (a30, .inl (1, 4800, .inl pf)), (a31, .inl (0, 24, .inl ql))] ∧ h'.1 = n ∧ h'.2.1 = sl ∧ ax_fr (fun x => x ∈ [m, a12, a14, a15]) h h') := by
  show ax_A (ax_step L xs) ((205, 0, fr, lo), [(0, .ref m), (1, .int (nI w))], [], h) _
  have hbase : h.1 = n := hn
  have hbasl : h.2.1 = sl := hs
  have hf : ax_fr (fun x => x ∈ [m, a12, a14, a15]) h h := ax_fr.rf
  have hO : ∀ k, k ≠ 20 → fs[k]? = fs[k]? := fun _ _ => rfl
  refine ar_aload_n 1 d_205_0 rfl rfl ?_
  refine ar_iload_n 2 d_205_1 rfl rfl ?_
  refine ar_iconst 3 (v := 0) d_205_2 rfl (by decide) ?_
  refine ar_call (r := []) (na := 0) (kd := 0) (cm := 194) (fr2 := fr - 1) (lo2 := lo - 23) 6 d_205_3 (ar_hoV (as := [.int (nI w), .int 0]) rfl rfl rfl (hF.at 0 rfl)) rfl (by omega) (show lo - 23 + (19 + 4) = lo by omega) (Nat.le_of_ble_eq_true rfl) (Nat.le_of_ble_eq_true rfl) (n_194 (e := 0) (by omega) (by omega) hc hw (by omega) hn1 hn2 hog hlf (hF.at 0 rfl) z12 z14 z15 z20 z30 z31 (hF.at 1 rfl) (hF.at 2 rfl) (hF.at 3 rfl) (hF.at 4 rfl) (hF.at 5 rfl)) ?_
  intro v hh hq
  obtain ⟨rfl, ehh⟩ := hq
  rw [ehh]
  clear ehh
  refine ar_top (x' := nI f) (hv) ?_
  refine ar_istore_n 7 [(0, .ref m), (1, .int (nI w)), (2, .int (nI f))] d_205_6 rfl (by decide) rfl ?_
  refine ar_aload_n 8 d_205_7 rfl rfl ?_
  refine ar_iload_n 9 d_205_8 rfl rfl ?_
  refine ar_iconst 10 (v := 1) d_205_9 rfl (by decide) ?_
  refine ar_call (r := []) (na := 0) (kd := 0) (cm := 194) (fr2 := fr - 1) (lo2 := lo - 23) 13 d_205_10 (ar_hoV (as := [.int (nI w), .int 1]) rfl rfl rfl (hF.at 0 rfl)) rfl (by omega) (show lo - 23 + (19 + 4) = lo by omega) (Nat.le_of_ble_eq_true rfl) (Nat.le_of_ble_eq_true rfl) (n_194 (e := 1) (by omega) (by omega) hc hw (by omega) hm1 hm2 hog hlf (hF.at 0 rfl) z12 z14 z15 z20 z30 z31 (hF.at 1 rfl) (hF.at 2 rfl) (hF.at 3 rfl) (hF.at 4 rfl) (hF.at 5 rfl)) ?_
  intro v hh hq
  obtain ⟨rfl, ehh⟩ := hq
  rw [ehh]
  clear ehh
  refine ar_top (x' := nI g) (hv2) ?_
  refine ar_istore_n 14 [(0, .ref m), (1, .int (nI w)), (2, .int (nI f)), (3, .int (nI g))] d_205_13 rfl (by decide) rfl ?_
  refine ar_iload_n 15 d_205_14 rfl rfl ?_
  refine ar_if_lt 22 18 d_205_15 (by decide) rfl (fun c => absurd c (nI_pos (by omega))) (fun _ => ?_)
  refine ar_iload_n 19 d_205_18 rfl rfl ?_
  refine ar_if_ge 25 22 d_205_19 (by decide) rfl (fun _ => ?_) (fun c => absurd (nI_pos' (by omega)) c)
  refine ar_iload_n 26 d_205_25 rfl rfl ?_
  refine ar_iload_n 27 d_205_26 rfl rfl ?_
  refine ar_icmp_ne 32 30 d_205_27 (by decide) rfl (fun _ => ?_) (fun c => absurd (fun z => hgf (nI_inj (by omega) (by omega) z.symm)) c)
  refine ar_aload_n 33 d_205_32 rfl rfl ?_
  refine ar_iload_n 34 d_205_33 rfl rfl ?_
  refine ar_call (r := []) (na := 0) (kd := 0) (cm := 203) (fr2 := fr - 1) (lo2 := lo - 23) 37 d_205_34 (ar_hoV (as := [.int (nI f)]) rfl rfl rfl (hF.at 0 rfl)) rfl (by omega) (show lo - 23 + (19 + 4) = lo by omega) (Nat.le_of_ble_eq_true rfl) (Nat.le_of_ble_eq_true rfl) (n_203 (x := nI f) hc hl z12 z20 (hF.sub (F' := [(m, .inr (11, fs)), (a12, .inl (0, 48, .inl og))]) [0, 1] rfl rfl) hn hs (by omega)) ?_
  intro v h1 hq
  obtain ⟨fs1, rfl, yl, y20, yO, qF, qn, qs, qf⟩ := hq
  have qF : ax_hs h1 [(m, .inr (11, fs1)), (a12, .inl (0, 48, .inl (lvF (nI f) c 0 0 og)))] := qF
  replace hF : ax_hs h1 [(a14, .inl (1, 9600, .inl ff)), (a15, .inl (0, 48, .inl lf)), (a30, .inl (1, 4800, .inl pf)), (a31, .inl (0, 24, .inl ql)), (m, .inr (11, fs1)), (a12, .inl (0, 48, .inl (lvF (nI f) c 0 0 og)))] := ax_hs.call (rest := [(a14, .inl (1, 9600, .inl ff)), (a15, .inl (0, 48, .inl lf)), (a30, .inl (1, 4800, .inl pf)), (a31, .inl (0, 24, .inl ql))]) [0, 1] [2, 3, 4, 5] hF qf qF rfl rfl rfl [0, 1] rfl rfl [0, 1] (news := []) rfl rfl (fun _ z => absurd z List.not_mem_nil) rfl
  replace hf := hf.trC qf (by intro x hx hB; simp at hB; first | (rcases hB with rfl | rfl <;> first | omega | simp) | omega | simp [hB])
  replace hn : h1.1 = n := by omega
  replace hs : h1.2.1 = sl := by omega
  have qf0 := qf
  clear qF qn qs qf
  replace z12 : fs1[12]? = some (.ref a12) := (yO 12 (by decide)).trans z12
  replace z14 : fs1[14]? = some (.ref a14) := (yO 14 (by decide)).trans z14
  replace z15 : fs1[15]? = some (.ref a15) := (yO 15 (by decide)).trans z15
  replace z30 : fs1[30]? = some (.ref a30) := (yO 30 (by decide)).trans z30
  replace z31 : fs1[31]? = some (.ref a31) := (yO 31 (by decide)).trans z31
  replace z20 : fs1[20]? = some (.int (nI (lvN (nI f) c 0 0 og))) := y20
  replace hO : ∀ k, k ≠ 20 → fs1[k]? = fs[k]? := fun k y20 => (yO k y20).trans (hO k y20)
  replace hl := yl
  clear yl yO y20
  refine ar_aload_n 38 d_205_37 rfl rfl ?_
  refine ar_iload_n 39 d_205_38 rfl rfl ?_
  refine ar_call (r := []) (na := 0) (kd := 0) (cm := 203) (fr2 := fr - 1) (lo2 := lo - 23) 42 d_205_39 (ar_hoV (as := [.int (nI g)]) rfl rfl rfl (hF.at 4 rfl)) rfl (by omega) (show lo - 23 + (19 + 4) = lo by omega) (Nat.le_of_ble_eq_true rfl) (Nat.le_of_ble_eq_true rfl) (n_203 (x := nI g) hc1 hl z12 z20 (hF.sub (F' := [(m, .inr (11, fs1)), (a12, .inl (0, 48, .inl (lvF (nI f) c 0 0 og)))]) [4, 5] rfl rfl) hn hs (by omega)) ?_
  intro v h2 hq
  obtain ⟨fs2, rfl, yl, y20, yO, qF, qn, qs, qf⟩ := hq
  have qF : ax_hs h2 [(m, .inr (11, fs2)), (a12, .inl (0, 48, .inl (lvF (nI g) (lvN (nI f) c 0 0 og) 0 0 (lvF (nI f) c 0 0 og))))] := qF
  replace hF : ax_hs h2 [(a14, .inl (1, 9600, .inl ff)), (a15, .inl (0, 48, .inl lf)), (a30, .inl (1, 4800, .inl pf)), (a31, .inl (0, 24, .inl ql)), (m, .inr (11, fs2)), (a12, .inl (0, 48, .inl (lvF (nI g) (lvN (nI f) c 0 0 og) 0 0 (lvF (nI f) c 0 0 og))))] := ax_hs.call (rest := [(a14, .inl (1, 9600, .inl ff)), (a15, .inl (0, 48, .inl lf)), (a30, .inl (1, 4800, .inl pf)), (a31, .inl (0, 24, .inl ql))]) [4, 5] [0, 1, 2, 3] hF qf qF rfl rfl rfl [4, 5] rfl rfl [4, 5] (news := []) rfl rfl (fun _ z => absurd z List.not_mem_nil) rfl
  replace hf := hf.trC qf (by intro x hx hB; simp at hB; first | (rcases hB with rfl | rfl <;> first | omega | simp) | omega | simp [hB])
  replace hn : h2.1 = n := by omega
  replace hs : h2.2.1 = sl := by omega
  have qf0 := qf
  clear qF qn qs qf
  replace z12 : fs2[12]? = some (.ref a12) := (yO 12 (by decide)).trans z12
  replace z14 : fs2[14]? = some (.ref a14) := (yO 14 (by decide)).trans z14
  replace z15 : fs2[15]? = some (.ref a15) := (yO 15 (by decide)).trans z15
  replace z30 : fs2[30]? = some (.ref a30) := (yO 30 (by decide)).trans z30
  replace z31 : fs2[31]? = some (.ref a31) := (yO 31 (by decide)).trans z31
  replace z20 : fs2[20]? = some (.int (nI (lvN (nI g) (lvN (nI f) c 0 0 og) 0 0 (lvF (nI f) c 0 0 og)))) := y20
  replace hO : ∀ k, k ≠ 20 → fs2[k]? = fs[k]? := fun k y20 => (yO k y20).trans (hO k y20)
  replace hl := yl
  clear yl yO y20
  refine ar_aload_n 43 d_205_42 rfl rfl ?_
  refine ar_iload_n 44 d_205_43 rfl rfl ?_
  refine ar_iload_n 45 d_205_44 rfl rfl ?_
  refine ar_iconst 46 (v := 1) d_205_45 rfl (by decide) ?_
  refine ar_call (r := []) (na := 0) (kd := 0) (cm := 197) (fr2 := fr - 1) (lo2 := lo - 26) 49 d_205_46 (ar_hoV (as := [.int (nI f), .int (nI w), .int 1]) rfl rfl rfl (hF.at 4 rfl)) rfl (by omega) (show lo - 26 + (19 + 7) = lo by omega) (Nat.le_of_ble_eq_true rfl) (Nat.le_of_ble_eq_true rfl) (n_197 (e := 1) (by omega) (by omega) hf0 hc2 hw (by omega) hm1 hm2 hlf hog2 hl z12 z14 z15 z20 z30 z31 (hF.sub (F' := [(m, .inr (11, fs2)), (a12, .inl (0, 48, .inl (lvF (nI g) (lvN (nI f) c 0 0 og) 0 0 (lvF (nI f) c 0 0 og)))), (a14, .inl (1, 9600, .inl ff)), (a15, .inl (0, 48, .inl lf)), (a30, .inl (1, 4800, .inl pf)), (a31, .inl (0, 24, .inl ql))]) [4, 5, 0, 1, 2, 3] rfl rfl) hn hs (by omega)) ?_
  intro v h3 hq
  obtain ⟨fs3, rfl, yl, y20, yO, qF, qn, qs, qf⟩ := hq
  have qF : ax_hs h3 [(m, .inr (11, fs3)), (a12, .inl (0, 48, .inl (upd (inF ff pf lf (400 * w + 200 * 1) n3 (lvN (nI g) (lvN (nI f) c 0 0 og) 0 0 (lvF (nI f) c 0 0 og)) (lvF (nI g) (lvN (nI f) c 0 0 og) 0 0 (lvF (nI f) c 0 0 og))) (inA ff pf lf (400 * w + 200 * 1) n3 (lvN (nI g) (lvN (nI f) c 0 0 og) 0 0 (lvF (nI f) c 0 0 og)) (lvF (nI g) (lvN (nI f) c 0 0 og) 0 0 (lvF (nI f) c 0 0 og))) (nI f)))), (a14, .inl (1, 9600, .inl (rgF (fun i => vp_nar .byte (pf ((400 * w + 200 * 1) + i))) (200 * f) n3 ff))), (a15, .inl (0, 48, .inl (upd lf f (nI n3)))), (a30, .inl (1, 4800, .inl pf)), (a31, .inl (0, 24, .inl ql))] := qF
  replace hF : ax_hs h3 [(m, .inr (11, fs3)), (a12, .inl (0, 48, .inl (upd (inF ff pf lf (400 * w + 200 * 1) n3 (lvN (nI g) (lvN (nI f) c 0 0 og) 0 0 (lvF (nI f) c 0 0 og)) (lvF (nI g) (lvN (nI f) c 0 0 og) 0 0 (lvF (nI f) c 0 0 og))) (inA ff pf lf (400 * w + 200 * 1) n3 (lvN (nI g) (lvN (nI f) c 0 0 og) 0 0 (lvF (nI f) c 0 0 og)) (lvF (nI g) (lvN (nI f) c 0 0 og) 0 0 (lvF (nI f) c 0 0 og))) (nI f)))), (a14, .inl (1, 9600, .inl (rgF (fun i => vp_nar .byte (pf ((400 * w + 200 * 1) + i))) (200 * f) n3 ff))), (a15, .inl (0, 48, .inl (upd lf f (nI n3)))), (a30, .inl (1, 4800, .inl pf)), (a31, .inl (0, 24, .inl ql))] := ax_hs.call (rest := []) [4, 5, 0, 1, 2, 3] [] hF qf qF rfl rfl rfl [4, 5, 0, 1] rfl rfl [4, 5, 0, 1, 2, 3] (news := []) rfl rfl (fun _ z => absurd z List.not_mem_nil) rfl
  replace hf := hf.trC qf (by intro x hx hB; simp at hB; first | (rcases hB with rfl | rfl | rfl | rfl <;> first | omega | simp) | omega | simp [hB])
  replace hn : h3.1 = n := by omega
  replace hs : h3.2.1 = sl := by omega
  have qf0 := qf
  clear qF qn qs qf
  replace z12 : fs3[12]? = some (.ref a12) := (yO 12 (by decide)).trans z12
  replace z14 : fs3[14]? = some (.ref a14) := (yO 14 (by decide)).trans z14
  replace z15 : fs3[15]? = some (.ref a15) := (yO 15 (by decide)).trans z15
  replace z30 : fs3[30]? = some (.ref a30) := (yO 30 (by decide)).trans z30
  replace z31 : fs3[31]? = some (.ref a31) := (yO 31 (by decide)).trans z31
  replace z20 : fs3[20]? = some (.int (nI (lvN (nI g) (lvN (nI f) c 0 0 og) 0 0 (lvF (nI f) c 0 0 og) + 1))) := y20
  replace hO : ∀ k, k ≠ 20 → fs3[k]? = fs[k]? := fun k y20 => (yO k y20).trans (hO k y20)
  replace hl := yl
  clear yl yO y20
  refine ar_aload_n 50 d_205_49 rfl rfl ?_
  refine ar_iload_n 51 d_205_50 rfl rfl ?_
  refine ar_iload_n 52 d_205_51 rfl rfl ?_
  refine ar_iconst 53 (v := 0) d_205_52 rfl (by decide) ?_
  refine ar_call (r := []) (na := 0) (kd := 0) (cm := 197) (fr2 := fr - 1) (lo2 := lo - 26) 56 d_205_53 (ar_hoV (as := [.int (nI g), .int (nI w), .int 0]) rfl rfl rfl (hF.at 0 rfl)) rfl (by omega) (show lo - 26 + (19 + 7) = lo by omega) (Nat.le_of_ble_eq_true rfl) (Nat.le_of_ble_eq_true rfl) (n_197 (e := 0) (by omega) (by omega) hg0 hc3 hw (by omega) hn1 hn2 hlf3 hog3 hl z12 z14 z15 z20 z30 z31 (hF.sub (F' := [(m, .inr (11, fs3)), (a12, .inl (0, 48, .inl (upd (inF ff pf lf (400 * w + 200 * 1) n3 (lvN (nI g) (lvN (nI f) c 0 0 og) 0 0 (lvF (nI f) c 0 0 og)) (lvF (nI g) (lvN (nI f) c 0 0 og) 0 0 (lvF (nI f) c 0 0 og))) (inA ff pf lf (400 * w + 200 * 1) n3 (lvN (nI g) (lvN (nI f) c 0 0 og) 0 0 (lvF (nI f) c 0 0 og)) (lvF (nI g) (lvN (nI f) c 0 0 og) 0 0 (lvF (nI f) c 0 0 og))) (nI f)))), (a14, .inl (1, 9600, .inl (rgF (fun i => vp_nar .byte (pf ((400 * w + 200 * 1) + i))) (200 * f) n3 ff))), (a15, .inl (0, 48, .inl (upd lf f (nI n3)))), (a30, .inl (1, 4800, .inl pf)), (a31, .inl (0, 24, .inl ql))]) [0, 1, 2, 3, 4, 5] rfl rfl) hn hs (by omega)) ?_
  intro v h4 hq
  obtain ⟨fs4, rfl, yl, y20, yO, qF, qn, qs, qf⟩ := hq
  have qF : ax_hs h4 [(m, .inr (11, fs4)), (a12, .inl (0, 48, .inl (upd (inF (rgF (fun i => vp_nar .byte (pf ((400 * w + 200 * 1) + i))) (200 * f) n3 ff) pf (upd lf f (nI n3)) (400 * w + 200 * 0) n1 (lvN (nI g) (lvN (nI f) c 0 0 og) 0 0 (lvF (nI f) c 0 0 og) + 1) (upd (inF ff pf lf (400 * w + 200 * 1) n3 (lvN (nI g) (lvN (nI f) c 0 0 og) 0 0 (lvF (nI f) c 0 0 og)) (lvF (nI g) (lvN (nI f) c 0 0 og) 0 0 (lvF (nI f) c 0 0 og))) (inA ff pf lf (400 * w + 200 * 1) n3 (lvN (nI g) (lvN (nI f) c 0 0 og) 0 0 (lvF (nI f) c 0 0 og)) (lvF (nI g) (lvN (nI f) c 0 0 og) 0 0 (lvF (nI f) c 0 0 og))) (nI f))) (inA (rgF (fun i => vp_nar .byte (pf ((400 * w + 200 * 1) + i))) (200 * f) n3 ff) pf (upd lf f (nI n3)) (400 * w + 200 * 0) n1 (lvN (nI g) (lvN (nI f) c 0 0 og) 0 0 (lvF (nI f) c 0 0 og) + 1) (upd (inF ff pf lf (400 * w + 200 * 1) n3 (lvN (nI g) (lvN (nI f) c 0 0 og) 0 0 (lvF (nI f) c 0 0 og)) (lvF (nI g) (lvN (nI f) c 0 0 og) 0 0 (lvF (nI f) c 0 0 og))) (inA ff pf lf (400 * w + 200 * 1) n3 (lvN (nI g) (lvN (nI f) c 0 0 og) 0 0 (lvF (nI f) c 0 0 og)) (lvF (nI g) (lvN (nI f) c 0 0 og) 0 0 (lvF (nI f) c 0 0 og))) (nI f))) (nI g)))), (a14, .inl (1, 9600, .inl (rgF (fun i => vp_nar .byte (pf ((400 * w + 200 * 0) + i))) (200 * g) n1 (rgF (fun i => vp_nar .byte (pf ((400 * w + 200 * 1) + i))) (200 * f) n3 ff)))), (a15, .inl (0, 48, .inl (upd (upd lf f (nI n3)) g (nI n1)))), (a30, .inl (1, 4800, .inl pf)), (a31, .inl (0, 24, .inl ql))] := qF
  replace hF : ax_hs h4 [(m, .inr (11, fs4)), (a12, .inl (0, 48, .inl (upd (inF (rgF (fun i => vp_nar .byte (pf ((400 * w + 200 * 1) + i))) (200 * f) n3 ff) pf (upd lf f (nI n3)) (400 * w + 200 * 0) n1 (lvN (nI g) (lvN (nI f) c 0 0 og) 0 0 (lvF (nI f) c 0 0 og) + 1) (upd (inF ff pf lf (400 * w + 200 * 1) n3 (lvN (nI g) (lvN (nI f) c 0 0 og) 0 0 (lvF (nI f) c 0 0 og)) (lvF (nI g) (lvN (nI f) c 0 0 og) 0 0 (lvF (nI f) c 0 0 og))) (inA ff pf lf (400 * w + 200 * 1) n3 (lvN (nI g) (lvN (nI f) c 0 0 og) 0 0 (lvF (nI f) c 0 0 og)) (lvF (nI g) (lvN (nI f) c 0 0 og) 0 0 (lvF (nI f) c 0 0 og))) (nI f))) (inA (rgF (fun i => vp_nar .byte (pf ((400 * w + 200 * 1) + i))) (200 * f) n3 ff) pf (upd lf f (nI n3)) (400 * w + 200 * 0) n1 (lvN (nI g) (lvN (nI f) c 0 0 og) 0 0 (lvF (nI f) c 0 0 og) + 1) (upd (inF ff pf lf (400 * w + 200 * 1) n3 (lvN (nI g) (lvN (nI f) c 0 0 og) 0 0 (lvF (nI f) c 0 0 og)) (lvF (nI g) (lvN (nI f) c 0 0 og) 0 0 (lvF (nI f) c 0 0 og))) (inA ff pf lf (400 * w + 200 * 1) n3 (lvN (nI g) (lvN (nI f) c 0 0 og) 0 0 (lvF (nI f) c 0 0 og)) (lvF (nI g) (lvN (nI f) c 0 0 og) 0 0 (lvF (nI f) c 0 0 og))) (nI f))) (nI g)))), (a14, .inl (1, 9600, .inl (rgF (fun i => vp_nar .byte (pf ((400 * w + 200 * 0) + i))) (200 * g) n1 (rgF (fun i => vp_nar .byte (pf ((400 * w + 200 * 1) + i))) (200 * f) n3 ff)))), (a15, .inl (0, 48, .inl (upd (upd lf f (nI n3)) g (nI n1)))), (a30, .inl (1, 4800, .inl pf)), (a31, .inl (0, 24, .inl ql))] := ax_hs.call (rest := []) [0, 1, 2, 3, 4, 5] [] hF qf qF rfl rfl rfl [0, 1, 2, 3] rfl rfl [0, 1, 2, 3, 4, 5] (news := []) rfl rfl (fun _ z => absurd z List.not_mem_nil) rfl
  replace hf := hf.trC qf (by intro x hx hB; simp at hB; first | (rcases hB with rfl | rfl | rfl | rfl <;> first | omega | simp) | omega | simp [hB])
  replace hn : h4.1 = n := by omega
  replace hs : h4.2.1 = sl := by omega
  have qf0 := qf
  clear qF qn qs qf
  replace z12 : fs4[12]? = some (.ref a12) := (yO 12 (by decide)).trans z12
  replace z14 : fs4[14]? = some (.ref a14) := (yO 14 (by decide)).trans z14
  replace z15 : fs4[15]? = some (.ref a15) := (yO 15 (by decide)).trans z15
  replace z30 : fs4[30]? = some (.ref a30) := (yO 30 (by decide)).trans z30
  replace z31 : fs4[31]? = some (.ref a31) := (yO 31 (by decide)).trans z31
  replace z20 : fs4[20]? = some (.int (nI (lvN (nI g) (lvN (nI f) c 0 0 og) 0 0 (lvF (nI f) c 0 0 og) + 1 + 1))) := y20
  replace hO : ∀ k, k ≠ 20 → fs4[k]? = fs[k]? := fun k y20 => (yO k y20).trans (hO k y20)
  replace hl := yl
  clear yl yO y20
  refine ar_iconst 57 (v := 0) d_205_56 rfl (by decide) ?_
  have hF9 := hF.sub (F' := [(m, .inr (11, fs4)), (a12, .inl (0, 48, .inl (upd (inF (rgF (fun i => vp_nar .byte (pf ((400 * w + 200 * 1) + i))) (200 * f) n3 ff) pf (upd lf f (nI n3)) (400 * w + 200 * 0) n1 (lvN (nI g) (lvN (nI f) c 0 0 og) 0 0 (lvF (nI f) c 0 0 og) + 1) (upd (inF ff pf lf (400 * w + 200 * 1) n3 (lvN (nI g) (lvN (nI f) c 0 0 og) 0 0 (lvF (nI f) c 0 0 og)) (lvF (nI g) (lvN (nI f) c 0 0 og) 0 0 (lvF (nI f) c 0 0 og))) (inA ff pf lf (400 * w + 200 * 1) n3 (lvN (nI g) (lvN (nI f) c 0 0 og) 0 0 (lvF (nI f) c 0 0 og)) (lvF (nI g) (lvN (nI f) c 0 0 og) 0 0 (lvF (nI f) c 0 0 og))) (nI f))) (inA (rgF (fun i => vp_nar .byte (pf ((400 * w + 200 * 1) + i))) (200 * f) n3 ff) pf (upd lf f (nI n3)) (400 * w + 200 * 0) n1 (lvN (nI g) (lvN (nI f) c 0 0 og) 0 0 (lvF (nI f) c 0 0 og) + 1) (upd (inF ff pf lf (400 * w + 200 * 1) n3 (lvN (nI g) (lvN (nI f) c 0 0 og) 0 0 (lvF (nI f) c 0 0 og)) (lvF (nI g) (lvN (nI f) c 0 0 og) 0 0 (lvF (nI f) c 0 0 og))) (inA ff pf lf (400 * w + 200 * 1) n3 (lvN (nI g) (lvN (nI f) c 0 0 og) 0 0 (lvF (nI f) c 0 0 og)) (lvF (nI g) (lvN (nI f) c 0 0 og) 0 0 (lvF (nI f) c 0 0 og))) (nI f))) (nI g)))), (a14, .inl (1, 9600, .inl (rgF (fun i => vp_nar .byte (pf ((400 * w + 200 * 0) + i))) (200 * g) n1 (rgF (fun i => vp_nar .byte (pf ((400 * w + 200 * 1) + i))) (200 * f) n3 ff)))), (a15, .inl (0, 48, .inl (upd (upd lf f (nI n3)) g (nI n1)))), (a30, .inl (1, 4800, .inl pf)), (a31, .inl (0, 24, .inl ql))]) [0, 1, 2, 3, 4, 5] rfl rfl
  exact ar_iret d_205_57 rfl rfl (⟨_, rfl, hl, z20, hO, hF9, hn, hs, hf⟩)


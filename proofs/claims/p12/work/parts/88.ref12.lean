/-! the reference, exactly: rename -/
theorem neg1_nI {f : Nat} (hf : f < 2 ^ 31) : ¬ (-1 : Int32) = nI f := fun q => absurd (nI_pos (n := f) hf) (by rw [← q]; decide)
theorem n_204A {L : Nat} {xs : Nat → Int32} {fr lo m n sl : Nat} {h : ax_H} {fs : List Value} {a13 a17 f a12 a14 a15 a30 a31 w c n1 n3 : Nat} {us zf og ff lf pf ql : Nat → Int32} {to : Int32} (hfr : 3 ≤ fr) (hlo : 110 ≤ lo) (hc : c ≤ 48) (hw : w < 12) (hn1 : ql (2 * w + 0) = nI n1) (hn2 : n1 ≤ 200) (hm1 : ql (2 * w + 1) = nI n3) (hm2 : n3 ≤ 200) (hog : ∀ i, i < c → ¬ og i < 0 ∧ (og i).toNatClampNeg < 48) (hlf : ∀ f, f < 48 → ¬ lf f < 0 ∧ (lf f).toNatClampNeg ≤ 200) (hf0 : f < 48) (hv : mfnd ff pf lf og (400 * w + 200 * 0) n1 c 0 = nI f) (hv2 : mfnd ff pf lf og (400 * w + 200 * 1) n3 c 0 = -1) (hc2 : lvN (nI f) c 0 0 og ≤ 47) (hog2 : ∀ i, i < lvN (nI f) c 0 0 og → ¬ (lvF (nI f) c 0 0 og) i < 0 ∧ ((lvF (nI f) c 0 0 og) i).toNatClampNeg < 48) (hl : fs.length = 39) (z12 : fs[12]? = some (.ref a12)) (z13 : fs[13]? = some (.ref a13)) (z14 : fs[14]? = some (.ref a14)) (z15 : fs[15]? = some (.ref a15)) (z17 : fs[17]? = some (.ref a17)) (z20 : fs[20]? = some (.int (nI c))) (z21 : fs[21]? = some (.int to)) (z30 : fs[30]? = some (.ref a30)) (z31 : fs[31]? = some (.ref a31)) (hF : ax_hs h [(m, .inr (11, fs)), (a12, .inl (0, 48, .inl og)), (a14, .inl (1, 9600, .inl ff)), (a15, .inl (0, 48, .inl lf)), (a30, .inl (1, 4800, .inl pf)), (a31, .inl (0, 24, .inl ql)), (a13, .inl (2, 48, .inl us)), (a17, .inl (0, 48, .inl zf))]) (hn : h.1 = n) (hs : h.2.1 = sl) (hn0 : 0 < n) : ax_M L xs 204 fr lo [.ref m, .int (nI w)] h (fun r h' => ∃ fs', r = some (.int 0) ∧ fs'.length = 39 ∧ fs'[20]? = some (.int (nI (lvN (nI f) c 0 0 og + 1))) ∧ (∀ k, k ≠ 20 → fs'[k]? = fs[k]?) ∧ ax_hs h' [(m, .inr (11, fs')), (a12, .inl (0, 48, .inl (upd (inF ff pf lf (400 * w + 200 * 1) n3 (lvN (nI f) c 0 0 og) (lvF (nI f) c 0 0 og)) (inA ff pf lf (400 * w + 200 * 1) n3 (lvN (nI f) c 0 0 og) (lvF (nI f) c 0 0 og)) (nI f)))), (a14, .inl (1, 9600, .inl (rgF (fun i => vp_nar .byte (pf ((400 * w + 200 * 1) + i))) (200 * f) n3 ff))), (a15, .inl (0, 48, .inl (upd lf f (nI n3)))), (a30, .inl (1, 4800, .inl pf)), (a31, .inl (0, 24, .inl ql)), (a13, .inl (2, 48, .inl us)), (a17, .inl (0, 48, .inl zf))] ∧ h'.1 = n ∧ h'.2.1 = sl ∧ ax_fr (fun x => x ∈ [m, a12, a13, a14, a15]) h h') := by
  show ax_A (ax_step L xs) ((204, 0, fr, lo), [(0, .ref m), (1, .int (nI w))], [], h) _
  have hbase : h.1 = n := hn
  have hbasl : h.2.1 = sl := hs
  have hf : ax_fr (fun x => x ∈ [m, a12, a13, a14, a15]) h h := ax_fr.rf
  have hO : ∀ k, k ≠ 20 → fs[k]? = fs[k]? := fun _ _ => rfl
  refine ar_aload_n 1 d_204_0 rfl rfl ?_
  refine ar_iload_n 2 d_204_1 rfl rfl ?_
  refine ar_iconst 3 (v := 0) d_204_2 rfl (by decide) ?_
  refine ar_call (r := []) (na := 0) (kd := 0) (cm := 194) (fr2 := fr - 1) (lo2 := lo - 23) 6 d_204_3 (ar_hoV (as := [.int (nI w), .int 0]) rfl rfl rfl (hF.at 0 rfl)) rfl (by omega) (show lo - 23 + (19 + 4) = lo by omega) (Nat.le_of_ble_eq_true rfl) (Nat.le_of_ble_eq_true rfl) (n_194 (e := 0) (by omega) (by omega) hc hw (by omega) hn1 hn2 hog hlf (hF.at 0 rfl) z12 z14 z15 z20 z30 z31 (hF.at 1 rfl) (hF.at 2 rfl) (hF.at 3 rfl) (hF.at 4 rfl) (hF.at 5 rfl)) ?_
  intro v hh hq
  obtain ⟨rfl, ehh⟩ := hq
  rw [ehh]
  clear ehh
  refine ar_top (x' := nI f) (hv) ?_
  refine ar_istore_n 7 [(0, .ref m), (1, .int (nI w)), (2, .int (nI f))] d_204_6 rfl (by decide) rfl ?_
  refine ar_iload_n 8 d_204_7 rfl rfl ?_
  refine ar_if_ge 14 11 d_204_8 (by decide) rfl (fun _ => ?_) (fun c => absurd (nI_pos' (by omega)) c)
  refine ar_aload_n 15 d_204_14 rfl rfl ?_
  refine ar_iload_n 16 d_204_15 rfl rfl ?_
  refine ar_iconst 17 (v := 1) d_204_16 rfl (by decide) ?_
  refine ar_call (r := []) (na := 0) (kd := 0) (cm := 194) (fr2 := fr - 1) (lo2 := lo - 23) 20 d_204_17 (ar_hoV (as := [.int (nI w), .int 1]) rfl rfl rfl (hF.at 0 rfl)) rfl (by omega) (show lo - 23 + (19 + 4) = lo by omega) (Nat.le_of_ble_eq_true rfl) (Nat.le_of_ble_eq_true rfl) (n_194 (e := 1) (by omega) (by omega) hc hw (by omega) hm1 hm2 hog hlf (hF.at 0 rfl) z12 z14 z15 z20 z30 z31 (hF.at 1 rfl) (hF.at 2 rfl) (hF.at 3 rfl) (hF.at 4 rfl) (hF.at 5 rfl)) ?_
  intro v hh hq
  obtain ⟨rfl, ehh⟩ := hq
  rw [ehh]
  clear ehh
  refine ar_top (x' := -1) (hv2) ?_
  refine ar_istore_n 21 [(0, .ref m), (1, .int (nI w)), (2, .int (nI f)), (3, .int (-1))] d_204_20 rfl (by decide) rfl ?_
  refine ar_iload_n 22 d_204_21 rfl rfl ?_
  refine ar_iload_n 23 d_204_22 rfl rfl ?_
  refine ar_icmp_ne 28 26 d_204_23 (by decide) rfl (fun _ => ?_) (fun c => absurd (neg1_nI (by omega)) c)
  refine ar_iload_n 29 d_204_28 rfl rfl ?_
  refine ar_if_lt 38 32 d_204_29 (by decide) rfl (fun _ => ?_) (fun c => absurd (by decide) c)
  refine ar_aload_n 39 d_204_38 rfl rfl ?_
  refine ar_iload_n 40 d_204_39 rfl rfl ?_
  refine ar_call (r := []) (na := 0) (kd := 0) (cm := 203) (fr2 := fr - 1) (lo2 := lo - 23) 43 d_204_40 (ar_hoV (as := [.int (nI f)]) rfl rfl rfl (hF.at 0 rfl)) rfl (by omega) (show lo - 23 + (19 + 4) = lo by omega) (Nat.le_of_ble_eq_true rfl) (Nat.le_of_ble_eq_true rfl) (n_203 (x := nI f) hc hl z12 z20 (hF.sub (F' := [(m, .inr (11, fs)), (a12, .inl (0, 48, .inl og))]) [0, 1] rfl rfl) hn hs (by omega)) ?_
  intro v h1 hq
  obtain ⟨fs1, rfl, yl, y20, yO, qF, qn, qs, qf⟩ := hq
  have qF : ax_hs h1 [(m, .inr (11, fs1)), (a12, .inl (0, 48, .inl (lvF (nI f) c 0 0 og)))] := qF
  replace hF : ax_hs h1 [(a14, .inl (1, 9600, .inl ff)), (a15, .inl (0, 48, .inl lf)), (a30, .inl (1, 4800, .inl pf)), (a31, .inl (0, 24, .inl ql)), (a13, .inl (2, 48, .inl us)), (a17, .inl (0, 48, .inl zf)), (m, .inr (11, fs1)), (a12, .inl (0, 48, .inl (lvF (nI f) c 0 0 og)))] := ax_hs.call (rest := [(a14, .inl (1, 9600, .inl ff)), (a15, .inl (0, 48, .inl lf)), (a30, .inl (1, 4800, .inl pf)), (a31, .inl (0, 24, .inl ql)), (a13, .inl (2, 48, .inl us)), (a17, .inl (0, 48, .inl zf))]) [0, 1] [2, 3, 4, 5, 6, 7] hF qf qF rfl rfl rfl [0, 1] rfl rfl [0, 1] (news := []) rfl rfl (fun _ z => absurd z List.not_mem_nil) rfl
  replace hf := hf.trC qf (by intro x hx hB; simp at hB; first | (rcases hB with rfl | rfl <;> first | omega | simp) | omega | simp [hB])
  replace hn : h1.1 = n := by omega
  replace hs : h1.2.1 = sl := by omega
  have qf0 := qf
  clear qF qn qs qf
  replace z12 : fs1[12]? = some (.ref a12) := (yO 12 (by decide)).trans z12
  replace z14 : fs1[14]? = some (.ref a14) := (yO 14 (by decide)).trans z14
  replace z15 : fs1[15]? = some (.ref a15) := (yO 15 (by decide)).trans z15
  replace z30 : fs1[30]? = some (.ref a30) := (yO 30 (by decide)).trans z30
  replace z31 : fs1[31]? = some (.ref a31) := (yO 31 (by decide)).trans z31
  replace z13 : fs1[13]? = some (.ref a13) := (yO 13 (by decide)).trans z13
  replace z17 : fs1[17]? = some (.ref a17) := (yO 17 (by decide)).trans z17
  replace z21 : fs1[21]? = some (.int to) := (yO 21 (by decide)).trans z21
  replace z20 : fs1[20]? = some (.int (nI (lvN (nI f) c 0 0 og))) := y20
  replace hO : ∀ k, k ≠ 20 → fs1[k]? = fs[k]? := fun k y20 => (yO k y20).trans (hO k y20)
  replace hl := yl
  clear yl yO y20
  refine ar_aload_n 44 d_204_43 rfl rfl ?_
  refine ar_iload_n 45 d_204_44 rfl rfl ?_
  refine ar_iload_n 46 d_204_45 rfl rfl ?_
  refine ar_iconst 47 (v := 1) d_204_46 rfl (by decide) ?_
  refine ar_call (r := []) (na := 0) (kd := 0) (cm := 197) (fr2 := fr - 1) (lo2 := lo - 26) 50 d_204_47 (ar_hoV (as := [.int (nI f), .int (nI w), .int 1]) rfl rfl rfl (hF.at 6 rfl)) rfl (by omega) (show lo - 26 + (19 + 7) = lo by omega) (Nat.le_of_ble_eq_true rfl) (Nat.le_of_ble_eq_true rfl) (n_197 (e := 1) (by omega) (by omega) hf0 hc2 hw (by omega) hm1 hm2 hlf hog2 hl z12 z14 z15 z20 z30 z31 (hF.sub (F' := [(m, .inr (11, fs1)), (a12, .inl (0, 48, .inl (lvF (nI f) c 0 0 og))), (a14, .inl (1, 9600, .inl ff)), (a15, .inl (0, 48, .inl lf)), (a30, .inl (1, 4800, .inl pf)), (a31, .inl (0, 24, .inl ql))]) [6, 7, 0, 1, 2, 3] rfl rfl) hn hs (by omega)) ?_
  intro v h2 hq
  obtain ⟨fs2, rfl, yl, y20, yO, qF, qn, qs, qf⟩ := hq
  have qF : ax_hs h2 [(m, .inr (11, fs2)), (a12, .inl (0, 48, .inl (upd (inF ff pf lf (400 * w + 200 * 1) n3 (lvN (nI f) c 0 0 og) (lvF (nI f) c 0 0 og)) (inA ff pf lf (400 * w + 200 * 1) n3 (lvN (nI f) c 0 0 og) (lvF (nI f) c 0 0 og)) (nI f)))), (a14, .inl (1, 9600, .inl (rgF (fun i => vp_nar .byte (pf ((400 * w + 200 * 1) + i))) (200 * f) n3 ff))), (a15, .inl (0, 48, .inl (upd lf f (nI n3)))), (a30, .inl (1, 4800, .inl pf)), (a31, .inl (0, 24, .inl ql))] := qF
  replace hF : ax_hs h2 [(a13, .inl (2, 48, .inl us)), (a17, .inl (0, 48, .inl zf)), (m, .inr (11, fs2)), (a12, .inl (0, 48, .inl (upd (inF ff pf lf (400 * w + 200 * 1) n3 (lvN (nI f) c 0 0 og) (lvF (nI f) c 0 0 og)) (inA ff pf lf (400 * w + 200 * 1) n3 (lvN (nI f) c 0 0 og) (lvF (nI f) c 0 0 og)) (nI f)))), (a14, .inl (1, 9600, .inl (rgF (fun i => vp_nar .byte (pf ((400 * w + 200 * 1) + i))) (200 * f) n3 ff))), (a15, .inl (0, 48, .inl (upd lf f (nI n3)))), (a30, .inl (1, 4800, .inl pf)), (a31, .inl (0, 24, .inl ql))] := ax_hs.call (rest := [(a13, .inl (2, 48, .inl us)), (a17, .inl (0, 48, .inl zf))]) [6, 7, 0, 1, 2, 3] [4, 5] hF qf qF rfl rfl rfl [6, 7, 0, 1] rfl rfl [6, 7, 0, 1, 2, 3] (news := []) rfl rfl (fun _ z => absurd z List.not_mem_nil) rfl
  replace hf := hf.trC qf (by intro x hx hB; simp at hB; first | (rcases hB with rfl | rfl | rfl | rfl <;> first | omega | simp) | omega | simp [hB])
  replace hn : h2.1 = n := by omega
  replace hs : h2.2.1 = sl := by omega
  have qf0 := qf
  clear qF qn qs qf
  replace z12 : fs2[12]? = some (.ref a12) := (yO 12 (by decide)).trans z12
  replace z14 : fs2[14]? = some (.ref a14) := (yO 14 (by decide)).trans z14
  replace z15 : fs2[15]? = some (.ref a15) := (yO 15 (by decide)).trans z15
  replace z30 : fs2[30]? = some (.ref a30) := (yO 30 (by decide)).trans z30
  replace z31 : fs2[31]? = some (.ref a31) := (yO 31 (by decide)).trans z31
  replace z13 : fs2[13]? = some (.ref a13) := (yO 13 (by decide)).trans z13
  replace z17 : fs2[17]? = some (.ref a17) := (yO 17 (by decide)).trans z17
  replace z21 : fs2[21]? = some (.int to) := (yO 21 (by decide)).trans z21
  replace z20 : fs2[20]? = some (.int (nI (lvN (nI f) c 0 0 og + 1))) := y20
  replace hO : ∀ k, k ≠ 20 → fs2[k]? = fs[k]? := fun k y20 => (yO k y20).trans (hO k y20)
  replace hl := yl
  clear yl yO y20
  refine ar_iload_n 51 d_204_50 rfl rfl ?_
  refine ar_if_lt 58 54 d_204_51 (by decide) rfl (fun _ => ?_) (fun c => absurd (by decide) c)
  refine ar_iconst 59 (v := 0) d_204_58 rfl (by decide) ?_
  have hF9 := hF.sub (F' := [(m, .inr (11, fs2)), (a12, .inl (0, 48, .inl (upd (inF ff pf lf (400 * w + 200 * 1) n3 (lvN (nI f) c 0 0 og) (lvF (nI f) c 0 0 og)) (inA ff pf lf (400 * w + 200 * 1) n3 (lvN (nI f) c 0 0 og) (lvF (nI f) c 0 0 og)) (nI f)))), (a14, .inl (1, 9600, .inl (rgF (fun i => vp_nar .byte (pf ((400 * w + 200 * 1) + i))) (200 * f) n3 ff))), (a15, .inl (0, 48, .inl (upd lf f (nI n3)))), (a30, .inl (1, 4800, .inl pf)), (a31, .inl (0, 24, .inl ql)), (a13, .inl (2, 48, .inl us)), (a17, .inl (0, 48, .inl zf))]) [2, 3, 4, 5, 6, 7, 0, 1] rfl rfl
  exact ar_iret d_204_59 rfl rfl (⟨_, rfl, hl, z20, hO, hF9, hn, hs, hf⟩)
theorem n_204G {L : Nat} {xs : Nat → Int32} {fr lo m n sl : Nat} {h : ax_H} {fs : List Value} {a13 a17 f g a12 a14 a15 a30 a31 w c n1 n3 : Nat} {us zf og ff lf pf ql : Nat → Int32} {to : Int32} (hfr : 3 ≤ fr) (hlo : 110 ≤ lo) (hc : c ≤ 48) (hw : w < 12) (hn1 : ql (2 * w + 0) = nI n1) (hn2 : n1 ≤ 200) (hm1 : ql (2 * w + 1) = nI n3) (hm2 : n3 ≤ 200) (hog : ∀ i, i < c → ¬ og i < 0 ∧ (og i).toNatClampNeg < 48) (hlf : ∀ f, f < 48 → ¬ lf f < 0 ∧ (lf f).toNatClampNeg ≤ 200) (hf0 : f < 48) (hv : mfnd ff pf lf og (400 * w + 200 * 0) n1 c 0 = nI f) (hg0 : g < 48) (hgf : g ≠ f) (hv2 : mfnd ff pf lf og (400 * w + 200 * 1) n3 c 0 = nI g) (hc1 : lvN (nI g) c 0 0 og ≤ 48) (hc2 : lvN (nI f) (lvN (nI g) c 0 0 og) 0 0 (lvF (nI g) c 0 0 og) ≤ 47) (hog2 : ∀ i, i < lvN (nI f) (lvN (nI g) c 0 0 og) 0 0 (lvF (nI g) c 0 0 og) → ¬ (lvF (nI f) (lvN (nI g) c 0 0 og) 0 0 (lvF (nI g) c 0 0 og)) i < 0 ∧ ((lvF (nI f) (lvN (nI g) c 0 0 og) 0 0 (lvF (nI g) c 0 0 og)) i).toNatClampNeg < 48) (hl : fs.length = 39) (z12 : fs[12]? = some (.ref a12)) (z13 : fs[13]? = some (.ref a13)) (z14 : fs[14]? = some (.ref a14)) (z15 : fs[15]? = some (.ref a15)) (z17 : fs[17]? = some (.ref a17)) (z20 : fs[20]? = some (.int (nI c))) (z21 : fs[21]? = some (.int to)) (z30 : fs[30]? = some (.ref a30)) (z31 : fs[31]? = some (.ref a31)) (hF : ax_hs h [(m, .inr (11, fs)), (a12, .inl (0, 48, .inl og)), (a14, .inl (1, 9600, .inl ff)), (a15, .inl (0, 48, .inl lf)), (a30, .inl (1, 4800, .inl pf)), (a31, .inl (0, 24, .inl ql)), (a13, .inl (2, 48, .inl us)), (a17, .inl (0, 48, .inl zf))]) (hn : h.1 = n) (hs : h.2.1 = sl) (hn0 : 0 < n) : ax_M L xs 204 fr lo [.ref m, .int (nI w)] h (fun r h' => ∃ fs', r = some (.int 1) ∧ fs'.length = 39 ∧ fs'[20]? = some (.int (nI (lvN (nI f) (lvN (nI g) c 0 0 og) 0 0 (lvF (nI g) c 0 0 og) + 1))) ∧ fs'[21]? = some (.int (to - zf g)) ∧ (∀ k, k ≠ 20 → k ≠ 21 → fs'[k]? = fs[k]?) ∧ ax_hs h' [(m, .inr (11, fs')), (a12, .inl (0, 48, .inl (upd (inF ff pf lf (400 * w + 200 * 1) n3 (lvN (nI f) (lvN (nI g) c 0 0 og) 0 0 (lvF (nI g) c 0 0 og)) (lvF (nI f) (lvN (nI g) c 0 0 og) 0 0 (lvF (nI g) c 0 0 og))) (inA ff pf lf (400 * w + 200 * 1) n3 (lvN (nI f) (lvN (nI g) c 0 0 og) 0 0 (lvF (nI g) c 0 0 og)) (lvF (nI f) (lvN (nI g) c 0 0 og) 0 0 (lvF (nI g) c 0 0 og))) (nI f)))), (a14, .inl (1, 9600, .inl (rgF (fun i => vp_nar .byte (pf ((400 * w + 200 * 1) + i))) (200 * f) n3 ff))), (a15, .inl (0, 48, .inl (upd lf f (nI n3)))), (a30, .inl (1, 4800, .inl pf)), (a31, .inl (0, 24, .inl ql)), (a13, .inl (2, 48, .inl (upd us g (vp_nar .boolean 0)))), (a17, .inl (0, 48, .inl zf))] ∧ h'.1 = n ∧ h'.2.1 = sl ∧ ax_fr (fun x => x ∈ [m, a12, a13, a14, a15]) h h') := by
  show ax_A (ax_step L xs) ((204, 0, fr, lo), [(0, .ref m), (1, .int (nI w))], [], h) _
  have hbase : h.1 = n := hn
  have hbasl : h.2.1 = sl := hs
  have hf : ax_fr (fun x => x ∈ [m, a12, a13, a14, a15]) h h := ax_fr.rf
  have hO : ∀ k, k ≠ 20 → k ≠ 21 → fs[k]? = fs[k]? := fun _ _ _ => rfl
  refine ar_aload_n 1 d_204_0 rfl rfl ?_
  refine ar_iload_n 2 d_204_1 rfl rfl ?_
  refine ar_iconst 3 (v := 0) d_204_2 rfl (by decide) ?_
  refine ar_call (r := []) (na := 0) (kd := 0) (cm := 194) (fr2 := fr - 1) (lo2 := lo - 23) 6 d_204_3 (ar_hoV (as := [.int (nI w), .int 0]) rfl rfl rfl (hF.at 0 rfl)) rfl (by omega) (show lo - 23 + (19 + 4) = lo by omega) (Nat.le_of_ble_eq_true rfl) (Nat.le_of_ble_eq_true rfl) (n_194 (e := 0) (by omega) (by omega) hc hw (by omega) hn1 hn2 hog hlf (hF.at 0 rfl) z12 z14 z15 z20 z30 z31 (hF.at 1 rfl) (hF.at 2 rfl) (hF.at 3 rfl) (hF.at 4 rfl) (hF.at 5 rfl)) ?_
  intro v hh hq
  obtain ⟨rfl, ehh⟩ := hq
  rw [ehh]
  clear ehh
  refine ar_top (x' := nI f) (hv) ?_
  refine ar_istore_n 7 [(0, .ref m), (1, .int (nI w)), (2, .int (nI f))] d_204_6 rfl (by decide) rfl ?_
  refine ar_iload_n 8 d_204_7 rfl rfl ?_
  refine ar_if_ge 14 11 d_204_8 (by decide) rfl (fun _ => ?_) (fun c => absurd (nI_pos' (by omega)) c)
  refine ar_aload_n 15 d_204_14 rfl rfl ?_
  refine ar_iload_n 16 d_204_15 rfl rfl ?_
  refine ar_iconst 17 (v := 1) d_204_16 rfl (by decide) ?_
  refine ar_call (r := []) (na := 0) (kd := 0) (cm := 194) (fr2 := fr - 1) (lo2 := lo - 23) 20 d_204_17 (ar_hoV (as := [.int (nI w), .int 1]) rfl rfl rfl (hF.at 0 rfl)) rfl (by omega) (show lo - 23 + (19 + 4) = lo by omega) (Nat.le_of_ble_eq_true rfl) (Nat.le_of_ble_eq_true rfl) (n_194 (e := 1) (by omega) (by omega) hc hw (by omega) hm1 hm2 hog hlf (hF.at 0 rfl) z12 z14 z15 z20 z30 z31 (hF.at 1 rfl) (hF.at 2 rfl) (hF.at 3 rfl) (hF.at 4 rfl) (hF.at 5 rfl)) ?_
  intro v hh hq
  obtain ⟨rfl, ehh⟩ := hq
  rw [ehh]
  clear ehh
  refine ar_top (x' := nI g) (hv2) ?_
  refine ar_istore_n 21 [(0, .ref m), (1, .int (nI w)), (2, .int (nI f)), (3, .int (nI g))] d_204_20 rfl (by decide) rfl ?_
  refine ar_iload_n 22 d_204_21 rfl rfl ?_
  refine ar_iload_n 23 d_204_22 rfl rfl ?_
  refine ar_icmp_ne 28 26 d_204_23 (by decide) rfl (fun _ => ?_) (fun c => absurd (fun z => hgf (nI_inj (by omega) (by omega) z)) c)
  refine ar_iload_n 29 d_204_28 rfl rfl ?_
  refine ar_if_lt 38 32 d_204_29 (by decide) rfl (fun c => absurd c (nI_pos (by omega))) (fun _ => ?_)
  refine ar_aload_n 33 d_204_32 rfl rfl ?_
  refine ar_iload_n 34 d_204_33 rfl rfl ?_
  refine ar_call (r := []) (na := 0) (kd := 0) (cm := 202) (fr2 := fr - 1) (lo2 := lo - 21) 37 d_204_34 (ar_hoV (as := [.int (nI g)]) rfl rfl rfl (hF.at 0 rfl)) rfl (by omega) (show lo - 21 + (19 + 2) = lo by omega) (Nat.le_of_ble_eq_true rfl) (Nat.le_of_ble_eq_true rfl) (n_202 (by omega) (by omega) hc hg0 hl z12 z13 z17 z20 z21 (hF.sub (F' := [(m, .inr (11, fs)), (a12, .inl (0, 48, .inl og)), (a13, .inl (2, 48, .inl us)), (a17, .inl (0, 48, .inl zf))]) [0, 1, 6, 7] rfl rfl) hn hs (by omega)) ?_
  intro v h1 hq
  obtain ⟨fs1, rfl, yl, y20, y21, yO, qF, qn, qs, qf⟩ := hq
  have qF : ax_hs h1 [(m, .inr (11, fs1)), (a12, .inl (0, 48, .inl (lvF (nI g) c 0 0 og))), (a13, .inl (2, 48, .inl (upd us g (vp_nar .boolean 0)))), (a17, .inl (0, 48, .inl zf))] := qF
  replace hF : ax_hs h1 [(a14, .inl (1, 9600, .inl ff)), (a15, .inl (0, 48, .inl lf)), (a30, .inl (1, 4800, .inl pf)), (a31, .inl (0, 24, .inl ql)), (m, .inr (11, fs1)), (a12, .inl (0, 48, .inl (lvF (nI g) c 0 0 og))), (a13, .inl (2, 48, .inl (upd us g (vp_nar .boolean 0)))), (a17, .inl (0, 48, .inl zf))] := ax_hs.call (rest := [(a14, .inl (1, 9600, .inl ff)), (a15, .inl (0, 48, .inl lf)), (a30, .inl (1, 4800, .inl pf)), (a31, .inl (0, 24, .inl ql))]) [0, 1, 6, 7] [2, 3, 4, 5] hF qf qF rfl rfl rfl [0, 1, 6] rfl rfl [0, 1, 6, 7] (news := []) rfl rfl (fun _ z => absurd z List.not_mem_nil) rfl
  replace hf := hf.trC qf (by intro x hx hB; simp at hB; first | (rcases hB with rfl | rfl | rfl <;> first | omega | simp) | omega | simp [hB])
  replace hn : h1.1 = n := by omega
  replace hs : h1.2.1 = sl := by omega
  have qf0 := qf
  clear qF qn qs qf
  replace z12 : fs1[12]? = some (.ref a12) := (yO 12 (by decide) (by decide)).trans z12
  replace z14 : fs1[14]? = some (.ref a14) := (yO 14 (by decide) (by decide)).trans z14
  replace z15 : fs1[15]? = some (.ref a15) := (yO 15 (by decide) (by decide)).trans z15
  replace z30 : fs1[30]? = some (.ref a30) := (yO 30 (by decide) (by decide)).trans z30
  replace z31 : fs1[31]? = some (.ref a31) := (yO 31 (by decide) (by decide)).trans z31
  replace z13 : fs1[13]? = some (.ref a13) := (yO 13 (by decide) (by decide)).trans z13
  replace z17 : fs1[17]? = some (.ref a17) := (yO 17 (by decide) (by decide)).trans z17
  replace z20 : fs1[20]? = some (.int (nI (lvN (nI g) c 0 0 og))) := y20
  replace z21 : fs1[21]? = some (.int (to - zf g)) := y21
  replace hO : ∀ k, k ≠ 20 → k ≠ 21 → fs1[k]? = fs[k]? := fun k y20 y21 => (yO k y20 y21).trans (hO k y20 y21)
  replace hl := yl
  clear yl yO y20 y21
  refine ar_pop 38 d_204_37 rfl rfl ?_
  refine ar_aload_n 39 d_204_38 rfl rfl ?_
  refine ar_iload_n 40 d_204_39 rfl rfl ?_
  refine ar_call (r := []) (na := 0) (kd := 0) (cm := 203) (fr2 := fr - 1) (lo2 := lo - 23) 43 d_204_40 (ar_hoV (as := [.int (nI f)]) rfl rfl rfl (hF.at 4 rfl)) rfl (by omega) (show lo - 23 + (19 + 4) = lo by omega) (Nat.le_of_ble_eq_true rfl) (Nat.le_of_ble_eq_true rfl) (n_203 (x := nI f) hc1 hl z12 z20 (hF.sub (F' := [(m, .inr (11, fs1)), (a12, .inl (0, 48, .inl (lvF (nI g) c 0 0 og)))]) [4, 5] rfl rfl) hn hs (by omega)) ?_
  intro v h2 hq
  obtain ⟨fs2, rfl, yl, y20, yO, qF, qn, qs, qf⟩ := hq
  have qF : ax_hs h2 [(m, .inr (11, fs2)), (a12, .inl (0, 48, .inl (lvF (nI f) (lvN (nI g) c 0 0 og) 0 0 (lvF (nI g) c 0 0 og))))] := qF
  replace hF : ax_hs h2 [(a14, .inl (1, 9600, .inl ff)), (a15, .inl (0, 48, .inl lf)), (a30, .inl (1, 4800, .inl pf)), (a31, .inl (0, 24, .inl ql)), (a13, .inl (2, 48, .inl (upd us g (vp_nar .boolean 0)))), (a17, .inl (0, 48, .inl zf)), (m, .inr (11, fs2)), (a12, .inl (0, 48, .inl (lvF (nI f) (lvN (nI g) c 0 0 og) 0 0 (lvF (nI g) c 0 0 og))))] := ax_hs.call (rest := [(a14, .inl (1, 9600, .inl ff)), (a15, .inl (0, 48, .inl lf)), (a30, .inl (1, 4800, .inl pf)), (a31, .inl (0, 24, .inl ql)), (a13, .inl (2, 48, .inl (upd us g (vp_nar .boolean 0)))), (a17, .inl (0, 48, .inl zf))]) [4, 5] [0, 1, 2, 3, 6, 7] hF qf qF rfl rfl rfl [4, 5] rfl rfl [4, 5] (news := []) rfl rfl (fun _ z => absurd z List.not_mem_nil) rfl
  replace hf := hf.trC qf (by intro x hx hB; simp at hB; first | (rcases hB with rfl | rfl <;> first | omega | simp) | omega | simp [hB])
  replace hn : h2.1 = n := by omega
  replace hs : h2.2.1 = sl := by omega
  have qf0 := qf
  clear qF qn qs qf
  replace z12 : fs2[12]? = some (.ref a12) := (yO 12 (by decide)).trans z12
  replace z14 : fs2[14]? = some (.ref a14) := (yO 14 (by decide)).trans z14
  replace z15 : fs2[15]? = some (.ref a15) := (yO 15 (by decide)).trans z15
  replace z30 : fs2[30]? = some (.ref a30) := (yO 30 (by decide)).trans z30
  replace z31 : fs2[31]? = some (.ref a31) := (yO 31 (by decide)).trans z31
  replace z13 : fs2[13]? = some (.ref a13) := (yO 13 (by decide)).trans z13
  replace z17 : fs2[17]? = some (.ref a17) := (yO 17 (by decide)).trans z17
  replace z21 : fs2[21]? = some (.int (to - zf g)) := (yO 21 (by decide)).trans z21
  replace z20 : fs2[20]? = some (.int (nI (lvN (nI f) (lvN (nI g) c 0 0 og) 0 0 (lvF (nI g) c 0 0 og)))) := y20
  replace hO : ∀ k, k ≠ 20 → k ≠ 21 → fs2[k]? = fs[k]? := fun k y20 y21 => (yO k y20).trans (hO k y20 y21)
  replace hl := yl
  clear yl yO y20
  refine ar_aload_n 44 d_204_43 rfl rfl ?_
  refine ar_iload_n 45 d_204_44 rfl rfl ?_
  refine ar_iload_n 46 d_204_45 rfl rfl ?_
  refine ar_iconst 47 (v := 1) d_204_46 rfl (by decide) ?_
  refine ar_call (r := []) (na := 0) (kd := 0) (cm := 197) (fr2 := fr - 1) (lo2 := lo - 26) 50 d_204_47 (ar_hoV (as := [.int (nI f), .int (nI w), .int 1]) rfl rfl rfl (hF.at 6 rfl)) rfl (by omega) (show lo - 26 + (19 + 7) = lo by omega) (Nat.le_of_ble_eq_true rfl) (Nat.le_of_ble_eq_true rfl) (n_197 (e := 1) (by omega) (by omega) hf0 hc2 hw (by omega) hm1 hm2 hlf hog2 hl z12 z14 z15 z20 z30 z31 (hF.sub (F' := [(m, .inr (11, fs2)), (a12, .inl (0, 48, .inl (lvF (nI f) (lvN (nI g) c 0 0 og) 0 0 (lvF (nI g) c 0 0 og)))), (a14, .inl (1, 9600, .inl ff)), (a15, .inl (0, 48, .inl lf)), (a30, .inl (1, 4800, .inl pf)), (a31, .inl (0, 24, .inl ql))]) [6, 7, 0, 1, 2, 3] rfl rfl) hn hs (by omega)) ?_
  intro v h3 hq
  obtain ⟨fs3, rfl, yl, y20, yO, qF, qn, qs, qf⟩ := hq
  have qF : ax_hs h3 [(m, .inr (11, fs3)), (a12, .inl (0, 48, .inl (upd (inF ff pf lf (400 * w + 200 * 1) n3 (lvN (nI f) (lvN (nI g) c 0 0 og) 0 0 (lvF (nI g) c 0 0 og)) (lvF (nI f) (lvN (nI g) c 0 0 og) 0 0 (lvF (nI g) c 0 0 og))) (inA ff pf lf (400 * w + 200 * 1) n3 (lvN (nI f) (lvN (nI g) c 0 0 og) 0 0 (lvF (nI g) c 0 0 og)) (lvF (nI f) (lvN (nI g) c 0 0 og) 0 0 (lvF (nI g) c 0 0 og))) (nI f)))), (a14, .inl (1, 9600, .inl (rgF (fun i => vp_nar .byte (pf ((400 * w + 200 * 1) + i))) (200 * f) n3 ff))), (a15, .inl (0, 48, .inl (upd lf f (nI n3)))), (a30, .inl (1, 4800, .inl pf)), (a31, .inl (0, 24, .inl ql))] := qF
  replace hF : ax_hs h3 [(a13, .inl (2, 48, .inl (upd us g (vp_nar .boolean 0)))), (a17, .inl (0, 48, .inl zf)), (m, .inr (11, fs3)), (a12, .inl (0, 48, .inl (upd (inF ff pf lf (400 * w + 200 * 1) n3 (lvN (nI f) (lvN (nI g) c 0 0 og) 0 0 (lvF (nI g) c 0 0 og)) (lvF (nI f) (lvN (nI g) c 0 0 og) 0 0 (lvF (nI g) c 0 0 og))) (inA ff pf lf (400 * w + 200 * 1) n3 (lvN (nI f) (lvN (nI g) c 0 0 og) 0 0 (lvF (nI g) c 0 0 og)) (lvF (nI f) (lvN (nI g) c 0 0 og) 0 0 (lvF (nI g) c 0 0 og))) (nI f)))), (a14, .inl (1, 9600, .inl (rgF (fun i => vp_nar .byte (pf ((400 * w + 200 * 1) + i))) (200 * f) n3 ff))), (a15, .inl (0, 48, .inl (upd lf f (nI n3)))), (a30, .inl (1, 4800, .inl pf)), (a31, .inl (0, 24, .inl ql))] := ax_hs.call (rest := [(a13, .inl (2, 48, .inl (upd us g (vp_nar .boolean 0)))), (a17, .inl (0, 48, .inl zf))]) [6, 7, 0, 1, 2, 3] [4, 5] hF qf qF rfl rfl rfl [6, 7, 0, 1] rfl rfl [6, 7, 0, 1, 2, 3] (news := []) rfl rfl (fun _ z => absurd z List.not_mem_nil) rfl
  replace hf := hf.trC qf (by intro x hx hB; simp at hB; first | (rcases hB with rfl | rfl | rfl | rfl <;> first | omega | simp) | omega | simp [hB])
  replace hn : h3.1 = n := by omega
  replace hs : h3.2.1 = sl := by omega
  have qf0 := qf
  clear qF qn qs qf
  replace z12 : fs3[12]? = some (.ref a12) := (yO 12 (by decide)).trans z12
  replace z14 : fs3[14]? = some (.ref a14) := (yO 14 (by decide)).trans z14
  replace z15 : fs3[15]? = some (.ref a15) := (yO 15 (by decide)).trans z15
  replace z30 : fs3[30]? = some (.ref a30) := (yO 30 (by decide)).trans z30
  replace z31 : fs3[31]? = some (.ref a31) := (yO 31 (by decide)).trans z31
  replace z13 : fs3[13]? = some (.ref a13) := (yO 13 (by decide)).trans z13
  replace z17 : fs3[17]? = some (.ref a17) := (yO 17 (by decide)).trans z17
  replace z21 : fs3[21]? = some (.int (to - zf g)) := (yO 21 (by decide)).trans z21
  replace z20 : fs3[20]? = some (.int (nI (lvN (nI f) (lvN (nI g) c 0 0 og) 0 0 (lvF (nI g) c 0 0 og) + 1))) := y20
  replace hO : ∀ k, k ≠ 20 → k ≠ 21 → fs3[k]? = fs[k]? := fun k y20 y21 => (yO k y20).trans (hO k y20 y21)
  replace hl := yl
  clear yl yO y20
  refine ar_iload_n 51 d_204_50 rfl rfl ?_
  refine ar_if_lt 58 54 d_204_51 (by decide) rfl (fun c => absurd c (nI_pos (by omega))) (fun _ => ?_)
  refine ar_iconst 55 (v := 1) d_204_54 rfl (by decide) ?_
  refine ar_goto 59 d_204_55 (by decide) ?_
  have hF9 := hF.sub (F' := [(m, .inr (11, fs3)), (a12, .inl (0, 48, .inl (upd (inF ff pf lf (400 * w + 200 * 1) n3 (lvN (nI f) (lvN (nI g) c 0 0 og) 0 0 (lvF (nI g) c 0 0 og)) (lvF (nI f) (lvN (nI g) c 0 0 og) 0 0 (lvF (nI g) c 0 0 og))) (inA ff pf lf (400 * w + 200 * 1) n3 (lvN (nI f) (lvN (nI g) c 0 0 og) 0 0 (lvF (nI g) c 0 0 og)) (lvF (nI f) (lvN (nI g) c 0 0 og) 0 0 (lvF (nI g) c 0 0 og))) (nI f)))), (a14, .inl (1, 9600, .inl (rgF (fun i => vp_nar .byte (pf ((400 * w + 200 * 1) + i))) (200 * f) n3 ff))), (a15, .inl (0, 48, .inl (upd lf f (nI n3)))), (a30, .inl (1, 4800, .inl pf)), (a31, .inl (0, 24, .inl ql)), (a13, .inl (2, 48, .inl (upd us g (vp_nar .boolean 0)))), (a17, .inl (0, 48, .inl zf))]) [2, 3, 4, 5, 6, 7, 0, 1] rfl rfl
  exact ar_iret d_204_59 rfl rfl (⟨_, rfl, hl, z20, z21, hO, hF9, hn, hs, hf⟩)


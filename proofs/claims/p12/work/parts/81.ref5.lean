/-! the reference, exactly: gone, made -/
theorem d_196_0 : decode (axt_b 196) 0 = .ok (.iconst 0, 1) := by decide +kernel
theorem d_196_1 : decode (axt_b 196) 1 = .ok (.istore_n 3, 1) := by decide +kernel
theorem d_196_2 : decode (axt_b 196) 2 = .ok (.aload_n 0, 1) := by decide +kernel
theorem d_196_3 : decode (axt_b 196) 3 = .ok (.getfield 27, 3) := by decide +kernel
theorem d_196_6 : decode (axt_b 196) 6 = .ok (.iload_n 3, 1) := by decide +kernel
theorem d_196_7 : decode (axt_b 196) 7 = .ok (.baload, 1) := by decide +kernel
theorem d_196_8 : decode (axt_b 196) 8 = .ok (.ifCond .eq 9, 3) := by decide +kernel
theorem d_196_11 : decode (axt_b 196) 11 = .ok (.iinc 3 1, 3) := by decide +kernel
theorem d_196_14 : decode (axt_b 196) 14 = .ok (.goto (-12), 3) := by decide +kernel
theorem d_196_17 : decode (axt_b 196) 17 = .ok (.aload_n 0, 1) := by decide +kernel
theorem d_196_18 : decode (axt_b 196) 18 = .ok (.getfield 27, 3) := by decide +kernel
theorem d_196_21 : decode (axt_b 196) 21 = .ok (.iload_n 3, 1) := by decide +kernel
theorem d_196_22 : decode (axt_b 196) 22 = .ok (.iconst 1, 1) := by decide +kernel
theorem d_196_23 : decode (axt_b 196) 23 = .ok (.bastore, 1) := by decide +kernel
theorem d_196_24 : decode (axt_b 196) 24 = .ok (.aload_n 0, 1) := by decide +kernel
theorem d_196_25 : decode (axt_b 196) 25 = .ok (.getfield 37, 3) := by decide +kernel
theorem d_196_28 : decode (axt_b 196) 28 = .ok (.iload_n 3, 1) := by decide +kernel
theorem d_196_29 : decode (axt_b 196) 29 = .ok (.iload_n 2, 1) := by decide +kernel
theorem d_196_30 : decode (axt_b 196) 30 = .ok (.iastore, 1) := by decide +kernel
theorem d_196_31 : decode (axt_b 196) 31 = .ok (.aload_n 0, 1) := by decide +kernel
theorem d_196_32 : decode (axt_b 196) 32 = .ok (.getfield 40, 3) := by decide +kernel
theorem d_196_35 : decode (axt_b 196) 35 = .ok (.iload_n 3, 1) := by decide +kernel
theorem d_196_36 : decode (axt_b 196) 36 = .ok (.iconst 0, 1) := by decide +kernel
theorem d_196_37 : decode (axt_b 196) 37 = .ok (.iastore, 1) := by decide +kernel
theorem d_196_38 : decode (axt_b 196) 38 = .ok (.iconst 0, 1) := by decide +kernel
theorem d_196_39 : decode (axt_b 196) 39 = .ok (.istore 4, 2) := by decide +kernel
theorem d_196_41 : decode (axt_b 196) 41 = .ok (.iload 4, 2) := by decide +kernel
theorem d_196_43 : decode (axt_b 196) 43 = .ok (.bipush 19, 2) := by decide +kernel
theorem d_196_45 : decode (axt_b 196) 45 = .ok (.if_icmp .ge 22, 3) := by decide +kernel
theorem d_196_48 : decode (axt_b 196) 48 = .ok (.aload_n 0, 1) := by decide +kernel
theorem d_196_49 : decode (axt_b 196) 49 = .ok (.getfield 47, 3) := by decide +kernel
theorem d_196_52 : decode (axt_b 196) 52 = .ok (.bipush 19, 2) := by decide +kernel
theorem d_196_54 : decode (axt_b 196) 54 = .ok (.iload_n 3, 1) := by decide +kernel
theorem d_196_55 : decode (axt_b 196) 55 = .ok (.imul, 1) := by decide +kernel
theorem d_196_56 : decode (axt_b 196) 56 = .ok (.iload 4, 2) := by decide +kernel
theorem d_196_58 : decode (axt_b 196) 58 = .ok (.iadd, 1) := by decide +kernel
theorem d_196_59 : decode (axt_b 196) 59 = .ok (.iconst 0, 1) := by decide +kernel
theorem d_196_60 : decode (axt_b 196) 60 = .ok (.bastore, 1) := by decide +kernel
theorem d_196_61 : decode (axt_b 196) 61 = .ok (.iinc 4 1, 3) := by decide +kernel
theorem d_196_64 : decode (axt_b 196) 64 = .ok (.goto (-23), 3) := by decide +kernel
theorem d_196_67 : decode (axt_b 196) 67 = .ok (.aload_n 0, 1) := by decide +kernel
theorem d_196_68 : decode (axt_b 196) 68 = .ok (.iload_n 3, 1) := by decide +kernel
theorem d_196_69 : decode (axt_b 196) 69 = .ok (.iload_n 1, 1) := by decide +kernel
theorem d_196_70 : decode (axt_b 196) 70 = .ok (.iconst 0, 1) := by decide +kernel
theorem d_196_71 : decode (axt_b 196) 71 = .ok (.invokevirtual 129, 3) := by decide +kernel
theorem d_196_74 : decode (axt_b 196) 74 = .ok (.iload_n 3, 1) := by decide +kernel
theorem d_196_75 : decode (axt_b 196) 75 = .ok (.ireturn, 1) := by decide +kernel
theorem n_202 {L : Nat} {xs : Nat → Int32} {fr lo m n sl : Nat} {h : ax_H} {fs : List Value} {a12 a13 a17 c f : Nat} {og us zf : Nat → Int32} {to : Int32} (hfr : 1 ≤ fr) (hlo : 40 ≤ lo) (hc : c ≤ 48) (hf0 : f < 48) (hl : fs.length = 39) (z12 : fs[12]? = some (.ref a12)) (z13 : fs[13]? = some (.ref a13)) (z17 : fs[17]? = some (.ref a17)) (z20 : fs[20]? = some (.int (nI c))) (z21 : fs[21]? = some (.int to)) (hF : ax_hs h [(m, .inr (11, fs)), (a12, .inl (0, 48, .inl og)), (a13, .inl (2, 48, .inl us)), (a17, .inl (0, 48, .inl zf))]) (hn : h.1 = n) (hs : h.2.1 = sl) (hn0 : 0 < n) : ax_M L xs 202 fr lo [.ref m, .int (nI f)] h (fun r h' => ∃ fs', r = some (.int (zf f)) ∧ fs'.length = 39 ∧ fs'[20]? = some (.int (nI (lvN (nI f) c 0 0 og))) ∧ fs'[21]? = some (.int (to - zf f)) ∧ (∀ k, k ≠ 20 → k ≠ 21 → fs'[k]? = fs[k]?) ∧ ax_hs h' [(m, .inr (11, fs')), (a12, .inl (0, 48, .inl (lvF (nI f) c 0 0 og))), (a13, .inl (2, 48, .inl (upd us f (vp_nar .boolean 0)))), (a17, .inl (0, 48, .inl zf))] ∧ h'.1 = n ∧ h'.2.1 = sl ∧ ax_fr (fun x => x ∈ [m, a12, a13]) h h') := by
  show ax_A (ax_step L xs) ((202, 0, fr, lo), [(0, .ref m), (1, .int (nI f))], [], h) _
  have hbase : h.1 = n := hn
  have hbasl : h.2.1 = sl := hs
  have hf : ax_fr (fun x => x ∈ [m, a12, a13]) h h := ax_fr.rf
  have hO : ∀ k, k ≠ 20 → k ≠ 21 → fs[k]? = fs[k]? := fun _ _ _ => rfl
  refine ar_aload_n 1 d_202_0 rfl rfl ?_
  refine ar_iload_n 2 d_202_1 rfl rfl ?_
  refine ar_call (r := []) (na := 0) (kd := 0) (cm := 203) (fr2 := fr - 1) (lo2 := lo - 23) 5 d_202_2 (ar_hoV (as := [.int (nI f)]) rfl rfl rfl (hF.at 0 rfl)) rfl (by omega) (show lo - 23 + (19 + 4) = lo by omega) (Nat.le_of_ble_eq_true rfl) (Nat.le_of_ble_eq_true rfl) (n_203 (x := nI f) hc hl z12 z20 (hF.sub (F' := [(m, .inr (11, fs)), (a12, .inl (0, 48, .inl og))]) [0, 1] rfl rfl) hn hs (by omega)) ?_
  intro v h1 hq
  obtain ⟨fs1, rfl, yl, y20, yO, qF, qn, qs, qf⟩ := hq
  have qF : ax_hs h1 [(m, .inr (11, fs1)), (a12, .inl (0, 48, .inl (lvF (nI f) c 0 0 og)))] := qF
  replace hF : ax_hs h1 [(a13, .inl (2, 48, .inl us)), (a17, .inl (0, 48, .inl zf)), (m, .inr (11, fs1)), (a12, .inl (0, 48, .inl (lvF (nI f) c 0 0 og)))] := ax_hs.call (rest := [(a13, .inl (2, 48, .inl us)), (a17, .inl (0, 48, .inl zf))]) [0, 1] [2, 3] hF qf qF rfl rfl rfl [0, 1] rfl rfl [0, 1] (news := []) rfl rfl (fun _ z => absurd z List.not_mem_nil) rfl
  replace hf := hf.trC qf (by intro x hx hB; simp at hB; first | (rcases hB with rfl | rfl <;> first | omega | simp) | omega | simp [hB])
  replace hn : h1.1 = n := by omega
  replace hs : h1.2.1 = sl := by omega
  have qf0 := qf
  clear qF qn qs qf
  replace z12 : fs1[12]? = some (.ref a12) := (yO 12 (by decide)).trans z12
  replace z13 : fs1[13]? = some (.ref a13) := (yO 13 (by decide)).trans z13
  replace z17 : fs1[17]? = some (.ref a17) := (yO 17 (by decide)).trans z17
  replace z21 : fs1[21]? = some (.int to) := (yO 21 (by decide)).trans z21
  replace z20 : fs1[20]? = some (.int (nI (lvN (nI f) c 0 0 og))) := y20
  replace hO : ∀ k, k ≠ 20 → k ≠ 21 → fs1[k]? = fs[k]? := fun k y20 y21 => (yO k y20).trans (hO k y20 y21)
  replace hl := yl
  clear yl yO y20
  refine ar_aload_n 6 d_202_5 rfl rfl ?_
  refine ar_getf 9 d_202_6 rfl (ci := 11) (k := 13) rfl (hF.at 2 rfl) z13 ?_
  refine ar_iload_n 10 d_202_9 rfl rfl ?_
  refine ar_iconst 11 (v := 0) d_202_10 rfl (by decide) ?_
  refine ar_zast 12 d_202_11 rfl (hF.at 0 rfl) (nI_in (by omega) (by omega)) ?_
  replace hF : ax_hs (ax_put h1 a13 (.inl (2, 48, .inl (upd us (nI f).toNatClampNeg (vp_nar .boolean 0))))) [(a13, .inl (2, 48, .inl (upd us (nI f).toNatClampNeg (vp_nar .boolean 0)))), (a17, .inl (0, 48, .inl zf)), (m, .inr (11, fs1)), (a12, .inl (0, 48, .inl (lvF (nI f) c 0 0 og)))] := hF.put 0 _ rfl rfl
  replace hf := hf.put (a := a13) (c := .inl (2, 48, .inl (upd us (nI f).toNatClampNeg (vp_nar .boolean 0)))) (by simp)
  replace hn : (ax_put h1 a13 (.inl (2, 48, .inl (upd us (nI f).toNatClampNeg (vp_nar .boolean 0))))).1 = n := hn
  replace hs : (ax_put h1 a13 (.inl (2, 48, .inl (upd us (nI f).toNatClampNeg (vp_nar .boolean 0))))).2.1 = sl := hs
  generalize ax_put h1 a13 (.inl (2, 48, .inl (upd us (nI f).toNatClampNeg (vp_nar .boolean 0)))) = h2 at hF hf hn hs ⊢
  refine ar_aload_n 13 d_202_12 rfl rfl ?_
  refine ar_dup 14 d_202_13 rfl rfl ?_
  refine ar_getf 17 d_202_14 rfl (ci := 11) (k := 21) rfl (hF.at 2 rfl) z21 ?_
  refine ar_aload_n 18 d_202_17 rfl rfl ?_
  refine ar_getf 21 d_202_18 rfl (ci := 11) (k := 17) rfl (hF.at 2 rfl) z17 ?_
  refine ar_iload_n 22 d_202_21 rfl rfl ?_
  refine ar_iald 23 d_202_22 rfl (hF.at 1 rfl) (nI_in (by omega) (by omega)) ?_
  refine ar_top (x' := zf f) (by rw [nI_clamp (by omega)]) ?_
  refine ar_isub 24 d_202_23 rfl ?_
  refine ar_putf 27 (fs1.set 21 (.int (to - (zf f)))) d_202_24 rfl (ci := 11) (k := 21) rfl rfl (hF.at 2 rfl) (by rw [hl]; decide) rfl rfl rfl ?_
  replace hF : ax_hs (ax_put h2 m (.inr (11, (fs1.set 21 (.int (to - (zf f))))))) [(a13, .inl (2, 48, .inl (upd us (nI f).toNatClampNeg (vp_nar .boolean 0)))), (a17, .inl (0, 48, .inl zf)), (m, .inr (11, (fs1.set 21 (.int (to - (zf f)))))), (a12, .inl (0, 48, .inl (lvF (nI f) c 0 0 og)))] := hF.put 2 _ rfl rfl
  replace hf := hf.put (a := m) (c := .inr (11, (fs1.set 21 (.int (to - (zf f)))))) (by simp)
  replace hn : (ax_put h2 m (.inr (11, (fs1.set 21 (.int (to - (zf f))))))).1 = n := hn
  replace hs : (ax_put h2 m (.inr (11, (fs1.set 21 (.int (to - (zf f))))))).2.1 = sl := hs
  generalize ax_put h2 m (.inr (11, (fs1.set 21 (.int (to - (zf f)))))) = h3 at hF hf hn hs ⊢
  replace z12 : (fs1.set 21 (.int (to - (zf f))))[12]? = some (.ref a12) := (List.getElem?_set_ne (by decide)).trans z12
  replace z13 : (fs1.set 21 (.int (to - (zf f))))[13]? = some (.ref a13) := (List.getElem?_set_ne (by decide)).trans z13
  replace z17 : (fs1.set 21 (.int (to - (zf f))))[17]? = some (.ref a17) := (List.getElem?_set_ne (by decide)).trans z17
  replace z20 : (fs1.set 21 (.int (to - (zf f))))[20]? = some (.int (nI (lvN (nI f) c 0 0 og))) := (List.getElem?_set_ne (by decide)).trans z20
  replace z21 : (fs1.set 21 (.int (to - (zf f))))[21]? = some (.int (to - (zf f))) := List.getElem?_set_self (by rw [hl]; decide)
  replace hO : ∀ k, k ≠ 20 → k ≠ 21 → (fs1.set 21 (.int (to - (zf f))))[k]? = fs[k]? := fun k y20 y21 => (List.getElem?_set_ne (Ne.symm y21)).trans (hO k y20 y21)
  replace hl : (fs1.set 21 (.int (to - (zf f)))).length = 39 := (List.length_set ..).trans hl
  generalize (fs1.set 21 (.int (to - (zf f)))) = fs2 at hF hl hO z12 z13 z17 z20 z21 ⊢
  refine ar_aload_n 28 d_202_27 rfl rfl ?_
  refine ar_getf 31 d_202_28 rfl (ci := 11) (k := 17) rfl (hF.at 2 rfl) z17 ?_
  refine ar_iload_n 32 d_202_31 rfl rfl ?_
  refine ar_iald 33 d_202_32 rfl (hF.at 1 rfl) (nI_in (by omega) (by omega)) ?_
  refine ar_top (x' := zf f) (by rw [nI_clamp (by omega)]) ?_
  rw [nI_clamp (show f < 2 ^ 31 by omega)] at hF
  have hF9 := hF.sub (F' := [(m, .inr (11, fs2)), (a12, .inl (0, 48, .inl (lvF (nI f) c 0 0 og))), (a13, .inl (2, 48, .inl (upd us f (vp_nar .boolean 0)))), (a17, .inl (0, 48, .inl zf))]) [2, 3, 0, 1] rfl rfl
  exact ar_iret d_202_33 rfl rfl (⟨_, rfl, hl, z20, z21, hO, hF9, hn, hs, hf⟩)
def frN (us : Nat → Int32) : Nat → Nat → Nat
  | 0, i => i
  | k + 1, i => if us i = 0 then i else frN us k (i + 1)
theorem nlp_196a {L : Nat} {xs : Nat → Int32} {fr lo m n sl a12 a13 a14 a15 a16 a17 a19 a30 a31 w d c : Nat} {h : ax_H} {fs : List Value} {og us ff lf jf zf la pf ql : Nat → Int32} {post : ax_Po} (z12 : fs[12]? = some (.ref a12)) (z13 : fs[13]? = some (.ref a13)) (z14 : fs[14]? = some (.ref a14)) (z15 : fs[15]? = some (.ref a15)) (z16 : fs[16]? = some (.ref a16)) (z17 : fs[17]? = some (.ref a17)) (z19 : fs[19]? = some (.ref a19)) (z20 : fs[20]? = some (.int (nI c))) (z30 : fs[30]? = some (.ref a30)) (z31 : fs[31]? = some (.ref a31)) (hF : ax_hs h [(m, .inr (11, fs)), (a12, .inl (0, 48, .inl og)), (a13, .inl (2, 48, .inl us)), (a14, .inl (1, 9600, .inl ff)), (a15, .inl (0, 48, .inl lf)), (a16, .inl (0, 48, .inl jf)), (a17, .inl (0, 48, .inl zf)), (a19, .inl (2, 912, .inl la)), (a30, .inl (1, 4800, .inl pf)), (a31, .inl (0, 24, .inl ql))]) : ∀ (k i : Nat), i + k = 48 → frN us k i < 48 → (ax_A (ax_step L xs) ((196, 17, fr, lo), [(0, .ref m), (1, .int (nI w)), (2, .int (nI d)), (3, .int (nI (frN us k i)))], [], h) post) → ax_A (ax_step L xs) ((196, 2, fr, lo), [(0, .ref m), (1, .int (nI w)), (2, .int (nI d)), (3, .int (nI i))], [], h) post := by
  intro k
  induction k with
  | zero =>
    intro i hi hr kk
    exact absurd hr (by show ¬ i < 48; omega)
  | succ k ih =>
    intro i hi hr kk
    refine ar_aload_n 3 d_196_2 rfl rfl ?_
    refine ar_getf 6 d_196_3 rfl (ci := 11) (k := 13) rfl (hF.at 0 rfl) z13 ?_
    refine ar_iload_n 7 d_196_6 rfl rfl ?_
    refine ar_zald 8 d_196_7 rfl (hF.at 2 rfl) (nI_in (by omega) (by omega)) ?_
    refine ar_top (x' := us i) (by rw [nI_clamp (by omega)]) ?_
    refine ar_if_eq 17 11 d_196_8 (by decide) rfl (fun c1 => ?_) (fun c1 => ?_)
    · rw [show frN us (k + 1) i = i from if_pos c1] at kk
      exact kk
    · refine ar_iinc 14 [(0, .ref m), (1, .int (nI w)), (2, .int (nI d)), (3, .int (nI (i + 1)))] d_196_11 rfl rfl (nI_1 i) (by decide) rfl ?_
      refine ar_goto 2 d_196_14 (by decide) ?_
      rw [show frN us (k + 1) i = frN us k (i + 1) from if_neg c1] at kk hr
      exact ih (i + 1) (by omega) hr kk
theorem nlp_196b {L : Nat} {xs : Nat → Int32} {fr lo m n sl a12 a13 a14 a15 a16 a17 a19 a30 a31 w d c f : Nat} {fs : List Value} {og us ff lf jf zf la pf ql : Nat → Int32} {post : ax_Po} (hf0 : f < 48) (hl : fs.length = 39) (z12 : fs[12]? = some (.ref a12)) (z13 : fs[13]? = some (.ref a13)) (z14 : fs[14]? = some (.ref a14)) (z15 : fs[15]? = some (.ref a15)) (z16 : fs[16]? = some (.ref a16)) (z17 : fs[17]? = some (.ref a17)) (z19 : fs[19]? = some (.ref a19)) (z20 : fs[20]? = some (.int (nI c))) (z30 : fs[30]? = some (.ref a30)) (z31 : fs[31]? = some (.ref a31)) : ∀ (k i : Nat) (h : ax_H), i + k = 19 → ax_hs h [(m, .inr (11, fs)), (a12, .inl (0, 48, .inl og)), (a13, .inl (2, 48, .inl us)), (a14, .inl (1, 9600, .inl ff)), (a15, .inl (0, 48, .inl lf)), (a16, .inl (0, 48, .inl jf)), (a17, .inl (0, 48, .inl zf)), (a19, .inl (2, 912, .inl (rgF (fun _ => vp_nar .boolean 0) (19 * f) i la))), (a30, .inl (1, 4800, .inl pf)), (a31, .inl (0, 24, .inl ql))] → h.1 = n → h.2.1 = sl → (∀ h', ax_hs h' [(m, .inr (11, fs)), (a12, .inl (0, 48, .inl og)), (a13, .inl (2, 48, .inl us)), (a14, .inl (1, 9600, .inl ff)), (a15, .inl (0, 48, .inl lf)), (a16, .inl (0, 48, .inl jf)), (a17, .inl (0, 48, .inl zf)), (a19, .inl (2, 912, .inl (rgF (fun _ => vp_nar .boolean 0) (19 * f) 19 la))), (a30, .inl (1, 4800, .inl pf)), (a31, .inl (0, 24, .inl ql))] → h'.1 = n → h'.2.1 = sl → ax_fr (fun x => x ∈ [a19]) h h' → ax_A (ax_step L xs) ((196, 67, fr, lo), [(0, .ref m), (1, .int (nI w)), (2, .int (nI d)), (3, .int (nI f)), (4, .int (nI 19))], [], h') post) → ax_A (ax_step L xs) ((196, 41, fr, lo), [(0, .ref m), (1, .int (nI w)), (2, .int (nI d)), (3, .int (nI f)), (4, .int (nI i))], [], h) post := by
  intro k
  induction k with
  | zero =>
    intro i h hi hF hn hs kk
    have ei : i = 19 := by omega
    subst ei
    refine ar_iload 43 d_196_41 rfl rfl ?_
    refine ar_bipush 45 (v := 19) d_196_43 rfl (by decide) ?_
    refine ar_top (x' := nI 19) rfl ?_
    refine ar_icmp_ge 67 48 d_196_45 (by decide) rfl (fun _ => ?_) (fun c => absurd (Int32.le_refl _) c)
    exact kk h hF hn hs ax_fr.rf
  | succ k ih =>
    intro i h hi hF hn hs kk
    have hbase : h.1 = n := hn
    have hbasl : h.2.1 = sl := hs
    have hf : ax_fr (fun x => x ∈ [a19]) h h := ax_fr.rf
    refine ar_iload 43 d_196_41 rfl rfl ?_
    refine ar_bipush 45 (v := 19) d_196_43 rfl (by decide) ?_
    refine ar_top (x' := nI 19) rfl ?_
    refine ar_icmp_ge 67 48 d_196_45 (by decide) rfl (fun c => absurd c (nI_ge (by omega) (by omega))) (fun _ => ?_)
    refine ar_aload_n 49 d_196_48 rfl rfl ?_
    refine ar_getf 52 d_196_49 rfl (ci := 11) (k := 19) rfl (hF.at 0 rfl) z19 ?_
    refine ar_bipush 54 (v := 19) d_196_52 rfl (by decide) ?_
    refine ar_iload_n 55 d_196_54 rfl rfl ?_
    refine ar_imul 56 d_196_55 rfl ?_
    refine ar_top (x' := nI (19 * f)) (pk_mul 19 f) ?_
    refine ar_iload 58 d_196_56 rfl rfl ?_
    refine ar_iadd 59 d_196_58 rfl ?_
    refine ar_top (x' := nI (19 * f + i)) (nI_add (19 * f) i) ?_
    refine ar_iconst 60 (v := 0) d_196_59 rfl (by decide) ?_
    refine ar_zast 61 d_196_60 rfl (hF.at 7 rfl) (nI_in (by omega) (by omega)) ?_
    replace hF : ax_hs (ax_put h a19 (.inl (2, 912, .inl (upd (rgF (fun _ => vp_nar .boolean 0) (19 * f) i la) (nI (19 * f + i)).toNatClampNeg (vp_nar .boolean 0))))) [(m, .inr (11, fs)), (a12, .inl (0, 48, .inl og)), (a13, .inl (2, 48, .inl us)), (a14, .inl (1, 9600, .inl ff)), (a15, .inl (0, 48, .inl lf)), (a16, .inl (0, 48, .inl jf)), (a17, .inl (0, 48, .inl zf)), (a19, .inl (2, 912, .inl (upd (rgF (fun _ => vp_nar .boolean 0) (19 * f) i la) (nI (19 * f + i)).toNatClampNeg (vp_nar .boolean 0)))), (a30, .inl (1, 4800, .inl pf)), (a31, .inl (0, 24, .inl ql))] := hF.put 7 _ rfl rfl
    replace hf := hf.put (a := a19) (c := .inl (2, 912, .inl (upd (rgF (fun _ => vp_nar .boolean 0) (19 * f) i la) (nI (19 * f + i)).toNatClampNeg (vp_nar .boolean 0)))) (by simp)
    replace hn : (ax_put h a19 (.inl (2, 912, .inl (upd (rgF (fun _ => vp_nar .boolean 0) (19 * f) i la) (nI (19 * f + i)).toNatClampNeg (vp_nar .boolean 0))))).1 = n := hn
    replace hs : (ax_put h a19 (.inl (2, 912, .inl (upd (rgF (fun _ => vp_nar .boolean 0) (19 * f) i la) (nI (19 * f + i)).toNatClampNeg (vp_nar .boolean 0))))).2.1 = sl := hs
    generalize ax_put h a19 (.inl (2, 912, .inl (upd (rgF (fun _ => vp_nar .boolean 0) (19 * f) i la) (nI (19 * f + i)).toNatClampNeg (vp_nar .boolean 0)))) = h1 at hF hf hn hs ⊢
    refine ar_iinc 64 [(0, .ref m), (1, .int (nI w)), (2, .int (nI d)), (3, .int (nI f)), (4, .int (nI (i + 1)))] d_196_61 rfl rfl (nI_1 i) (by decide) rfl ?_
    refine ar_goto 41 d_196_64 (by decide) ?_
    rw [nI_clamp (show 19 * f + i < 2 ^ 31 by omega), show upd (rgF (fun _ => vp_nar .boolean 0) (19 * f) i la) (19 * f + i) (vp_nar .boolean 0) = rgF (fun _ => vp_nar .boolean 0) (19 * f) (i + 1) la from rgF_s (fun _ => vp_nar .boolean 0) (19 * f) i la] at hF
    exact ih (i + 1) h1 (by omega) hF hn hs (fun h' j1 j2 j3 j4 => kk h' j1 j2 j3 (hf.tr j4))
theorem n_196 {L : Nat} {xs : Nat → Int32} {fr lo m n sl : Nat} {h : ax_H} {fs : List Value} {a12 a13 a14 a15 a16 a17 a19 a30 a31 w d c n1 : Nat} {og us ff lf jf zf la pf ql : Nat → Int32} (hfr : 2 ≤ fr) (hlo : 70 ≤ lo) (hw : w < 12) (hn1 : ql (2 * w + 0) = nI n1) (hn2 : n1 ≤ 200) (hlf : ∀ f, f < 48 → ¬ lf f < 0 ∧ (lf f).toNatClampNeg ≤ 200) (hog : ∀ i, i < c → ¬ og i < 0 ∧ (og i).toNatClampNeg < 48) (hfree : frN us 48 0 < 48) (hc : c ≤ 47) (hl : fs.length = 39) (z12 : fs[12]? = some (.ref a12)) (z13 : fs[13]? = some (.ref a13)) (z14 : fs[14]? = some (.ref a14)) (z15 : fs[15]? = some (.ref a15)) (z16 : fs[16]? = some (.ref a16)) (z17 : fs[17]? = some (.ref a17)) (z19 : fs[19]? = some (.ref a19)) (z20 : fs[20]? = some (.int (nI c))) (z30 : fs[30]? = some (.ref a30)) (z31 : fs[31]? = some (.ref a31)) (hF : ax_hs h [(m, .inr (11, fs)), (a12, .inl (0, 48, .inl og)), (a13, .inl (2, 48, .inl us)), (a14, .inl (1, 9600, .inl ff)), (a15, .inl (0, 48, .inl lf)), (a16, .inl (0, 48, .inl jf)), (a17, .inl (0, 48, .inl zf)), (a19, .inl (2, 912, .inl la)), (a30, .inl (1, 4800, .inl pf)), (a31, .inl (0, 24, .inl ql))]) (hn : h.1 = n) (hs : h.2.1 = sl) (hn0 : 0 < n) : ax_M L xs 196 fr lo [.ref m, .int (nI w), .int (nI d)] h (fun r h' => ∃ f fs', f = frN us 48 0 ∧ r = some (.int (nI f)) ∧ fs'.length = 39 ∧ fs'[20]? = some (.int (nI (c + 1))) ∧ (∀ k, k ≠ 20 → fs'[k]? = fs[k]?) ∧ ax_hs h' [(m, .inr (11, fs')), (a12, .inl (0, 48, .inl (upd (inF ff pf lf (400 * w + 200 * 0) n1 c og) (inA ff pf lf (400 * w + 200 * 0) n1 c og) (nI f)))), (a13, .inl (2, 48, .inl (upd us f (vp_nar .boolean 1)))), (a14, .inl (1, 9600, .inl (rgF (fun i => vp_nar .byte (pf (400 * w + 200 * 0 + i))) (200 * f) n1 ff))), (a15, .inl (0, 48, .inl (upd lf f (nI n1)))), (a16, .inl (0, 48, .inl (upd jf f (nI d)))), (a17, .inl (0, 48, .inl (upd zf f 0))), (a19, .inl (2, 912, .inl (rgF (fun _ => vp_nar .boolean 0) (19 * f) 19 la))), (a30, .inl (1, 4800, .inl pf)), (a31, .inl (0, 24, .inl ql))] ∧ h'.1 = n ∧ h'.2.1 = sl ∧ ax_fr (fun x => x ∈ [m, a12, a13, a14, a15, a16, a17, a19]) h h') := by
  show ax_A (ax_step L xs) ((196, 0, fr, lo), [(0, .ref m), (1, .int (nI w)), (2, .int (nI d))], [], h) _
  have hbase : h.1 = n := hn
  have hbasl : h.2.1 = sl := hs
  have hf : ax_fr (fun x => x ∈ [m, a12, a13, a14, a15, a16, a17, a19]) h h := ax_fr.rf
  have hO : ∀ k, k ≠ 20 → fs[k]? = fs[k]? := fun _ _ => rfl
  refine ar_iconst 1 (v := 0) d_196_0 rfl (by decide) ?_
  refine ar_istore_n 2 [(0, .ref m), (1, .int (nI w)), (2, .int (nI d)), (3, .int 0)] d_196_1 rfl (by decide) rfl ?_
  refine nlp_196a (n := n) (sl := sl) z12 z13 z14 z15 z16 z17 z19 z20 z30 z31 hF 48 0 (by omega) hfree ?_
  obtain ⟨f, ef⟩ : ∃ z, z = frN us 48 0 := ⟨_, rfl⟩
  rw [← ef]
  have hf0 : f < 48 := by rw [ef]; exact hfree
  refine ar_aload_n 18 d_196_17 rfl rfl ?_
  refine ar_getf 21 d_196_18 rfl (ci := 11) (k := 13) rfl (hF.at 0 rfl) z13 ?_
  refine ar_iload_n 22 d_196_21 rfl rfl ?_
  refine ar_iconst 23 (v := 1) d_196_22 rfl (by decide) ?_
  refine ar_zast 24 d_196_23 rfl (hF.at 2 rfl) (nI_in (by omega) (by omega)) ?_
  replace hF : ax_hs (ax_put h a13 (.inl (2, 48, .inl (upd us (nI f).toNatClampNeg (vp_nar .boolean 1))))) [(m, .inr (11, fs)), (a12, .inl (0, 48, .inl og)), (a13, .inl (2, 48, .inl (upd us (nI f).toNatClampNeg (vp_nar .boolean 1)))), (a14, .inl (1, 9600, .inl ff)), (a15, .inl (0, 48, .inl lf)), (a16, .inl (0, 48, .inl jf)), (a17, .inl (0, 48, .inl zf)), (a19, .inl (2, 912, .inl la)), (a30, .inl (1, 4800, .inl pf)), (a31, .inl (0, 24, .inl ql))] := hF.put 2 _ rfl rfl
  replace hf := hf.put (a := a13) (c := .inl (2, 48, .inl (upd us (nI f).toNatClampNeg (vp_nar .boolean 1)))) (by simp)
  replace hn : (ax_put h a13 (.inl (2, 48, .inl (upd us (nI f).toNatClampNeg (vp_nar .boolean 1))))).1 = n := hn
  replace hs : (ax_put h a13 (.inl (2, 48, .inl (upd us (nI f).toNatClampNeg (vp_nar .boolean 1))))).2.1 = sl := hs
  generalize ax_put h a13 (.inl (2, 48, .inl (upd us (nI f).toNatClampNeg (vp_nar .boolean 1)))) = h1 at hF hf hn hs ⊢
  refine ar_aload_n 25 d_196_24 rfl rfl ?_
  refine ar_getf 28 d_196_25 rfl (ci := 11) (k := 16) rfl (hF.at 0 rfl) z16 ?_
  refine ar_iload_n 29 d_196_28 rfl rfl ?_
  refine ar_iload_n 30 d_196_29 rfl rfl ?_
  refine ar_iast 31 d_196_30 rfl (hF.at 5 rfl) (nI_in (by omega) (by omega)) ?_
  replace hF : ax_hs (ax_put h1 a16 (.inl (0, 48, .inl (upd jf (nI f).toNatClampNeg (nI d))))) [(m, .inr (11, fs)), (a12, .inl (0, 48, .inl og)), (a13, .inl (2, 48, .inl (upd us (nI f).toNatClampNeg (vp_nar .boolean 1)))), (a14, .inl (1, 9600, .inl ff)), (a15, .inl (0, 48, .inl lf)), (a16, .inl (0, 48, .inl (upd jf (nI f).toNatClampNeg (nI d)))), (a17, .inl (0, 48, .inl zf)), (a19, .inl (2, 912, .inl la)), (a30, .inl (1, 4800, .inl pf)), (a31, .inl (0, 24, .inl ql))] := hF.put 5 _ rfl rfl
  replace hf := hf.put (a := a16) (c := .inl (0, 48, .inl (upd jf (nI f).toNatClampNeg (nI d)))) (by simp)
  replace hn : (ax_put h1 a16 (.inl (0, 48, .inl (upd jf (nI f).toNatClampNeg (nI d))))).1 = n := hn
  replace hs : (ax_put h1 a16 (.inl (0, 48, .inl (upd jf (nI f).toNatClampNeg (nI d))))).2.1 = sl := hs
  generalize ax_put h1 a16 (.inl (0, 48, .inl (upd jf (nI f).toNatClampNeg (nI d)))) = h2 at hF hf hn hs ⊢
  refine ar_aload_n 32 d_196_31 rfl rfl ?_
  refine ar_getf 35 d_196_32 rfl (ci := 11) (k := 17) rfl (hF.at 0 rfl) z17 ?_
  refine ar_iload_n 36 d_196_35 rfl rfl ?_
  refine ar_iconst 37 (v := 0) d_196_36 rfl (by decide) ?_
  refine ar_iast 38 d_196_37 rfl (hF.at 6 rfl) (nI_in (by omega) (by omega)) ?_
  replace hF : ax_hs (ax_put h2 a17 (.inl (0, 48, .inl (upd zf (nI f).toNatClampNeg 0)))) [(m, .inr (11, fs)), (a12, .inl (0, 48, .inl og)), (a13, .inl (2, 48, .inl (upd us (nI f).toNatClampNeg (vp_nar .boolean 1)))), (a14, .inl (1, 9600, .inl ff)), (a15, .inl (0, 48, .inl lf)), (a16, .inl (0, 48, .inl (upd jf (nI f).toNatClampNeg (nI d)))), (a17, .inl (0, 48, .inl (upd zf (nI f).toNatClampNeg 0))), (a19, .inl (2, 912, .inl la)), (a30, .inl (1, 4800, .inl pf)), (a31, .inl (0, 24, .inl ql))] := hF.put 6 _ rfl rfl
  replace hf := hf.put (a := a17) (c := .inl (0, 48, .inl (upd zf (nI f).toNatClampNeg 0))) (by simp)
  replace hn : (ax_put h2 a17 (.inl (0, 48, .inl (upd zf (nI f).toNatClampNeg 0)))).1 = n := hn
  replace hs : (ax_put h2 a17 (.inl (0, 48, .inl (upd zf (nI f).toNatClampNeg 0)))).2.1 = sl := hs
  generalize ax_put h2 a17 (.inl (0, 48, .inl (upd zf (nI f).toNatClampNeg 0))) = h3 at hF hf hn hs ⊢
  refine ar_iconst 39 (v := 0) d_196_38 rfl (by decide) ?_
  refine ar_istore 41 [(0, .ref m), (1, .int (nI w)), (2, .int (nI d)), (3, .int (nI f)), (4, .int 0)] d_196_39 rfl (by decide) rfl ?_
  rw [nI_clamp (show f < 2 ^ 31 by omega)] at hF
  have hF0 : ax_hs h3 [(m, .inr (11, fs)), (a12, .inl (0, 48, .inl og)), (a13, .inl (2, 48, .inl (upd us f (vp_nar .boolean 1)))), (a14, .inl (1, 9600, .inl ff)), (a15, .inl (0, 48, .inl lf)), (a16, .inl (0, 48, .inl (upd jf f (nI d)))), (a17, .inl (0, 48, .inl (upd zf f 0))), (a19, .inl (2, 912, .inl (rgF (fun _ => vp_nar .boolean 0) (19 * f) 0 la))), (a30, .inl (1, 4800, .inl pf)), (a31, .inl (0, 24, .inl ql))] := by rw [rgF_0]; exact hF
  refine nlp_196b hf0 hl z12 z13 z14 z15 z16 z17 z19 z20 z30 z31 19 0 h3 (by omega) hF0 hn hs (fun h9 hF hn hs qf => ?_)
  replace hf := hf.tr (qf.mono (by intro x hx; simp at hx; subst hx; simp))
  clear qf
  refine ar_aload_n 68 d_196_67 rfl rfl ?_
  refine ar_iload_n 69 d_196_68 rfl rfl ?_
  refine ar_iload_n 70 d_196_69 rfl rfl ?_
  refine ar_iconst 71 (v := 0) d_196_70 rfl (by decide) ?_
  refine ar_call (r := []) (na := 0) (kd := 0) (cm := 197) (fr2 := fr - 1) (lo2 := lo - 26) 74 d_196_71 (ar_hoV (as := [.int (nI f), .int (nI w), .int 0]) rfl rfl rfl (hF.at 0 rfl)) rfl (by omega) (show lo - 26 + (19 + 7) = lo by omega) (Nat.le_of_ble_eq_true rfl) (Nat.le_of_ble_eq_true rfl) (n_197 (e := 0) (by omega) (by omega) hf0 hc hw (by omega) hn1 hn2 hlf hog hl z12 z14 z15 z20 z30 z31 (hF.sub (F' := [(m, .inr (11, fs)), (a12, .inl (0, 48, .inl og)), (a14, .inl (1, 9600, .inl ff)), (a15, .inl (0, 48, .inl lf)), (a30, .inl (1, 4800, .inl pf)), (a31, .inl (0, 24, .inl ql))]) [0, 1, 3, 4, 8, 9] rfl rfl) hn hs (by omega)) ?_
  intro v h10 hq
  obtain ⟨fs1, rfl, yl, y20, yO, qF, qn, qs, qf⟩ := hq
  have qF : ax_hs h10 [(m, .inr (11, fs1)), (a12, .inl (0, 48, .inl (upd (inF ff pf lf (400 * w + 200 * 0) n1 c og) (inA ff pf lf (400 * w + 200 * 0) n1 c og) (nI f)))), (a14, .inl (1, 9600, .inl (rgF (fun i => vp_nar .byte (pf (400 * w + 200 * 0 + i))) (200 * f) n1 ff))), (a15, .inl (0, 48, .inl (upd lf f (nI n1)))), (a30, .inl (1, 4800, .inl pf)), (a31, .inl (0, 24, .inl ql))] := qF
  replace hF : ax_hs h10 [(a13, .inl (2, 48, .inl (upd us f (vp_nar .boolean 1)))), (a16, .inl (0, 48, .inl (upd jf f (nI d)))), (a17, .inl (0, 48, .inl (upd zf f 0))), (a19, .inl (2, 912, .inl (rgF (fun _ => vp_nar .boolean 0) (19 * f) 19 la))), (m, .inr (11, fs1)), (a12, .inl (0, 48, .inl (upd (inF ff pf lf (400 * w + 200 * 0) n1 c og) (inA ff pf lf (400 * w + 200 * 0) n1 c og) (nI f)))), (a14, .inl (1, 9600, .inl (rgF (fun i => vp_nar .byte (pf (400 * w + 200 * 0 + i))) (200 * f) n1 ff))), (a15, .inl (0, 48, .inl (upd lf f (nI n1)))), (a30, .inl (1, 4800, .inl pf)), (a31, .inl (0, 24, .inl ql))] := ax_hs.call (rest := [(a13, .inl (2, 48, .inl (upd us f (vp_nar .boolean 1)))), (a16, .inl (0, 48, .inl (upd jf f (nI d)))), (a17, .inl (0, 48, .inl (upd zf f 0))), (a19, .inl (2, 912, .inl (rgF (fun _ => vp_nar .boolean 0) (19 * f) 19 la)))]) [0, 1, 3, 4, 8, 9] [2, 5, 6, 7] hF qf qF rfl rfl rfl [0, 1, 3, 4] rfl rfl [0, 1, 3, 4, 8, 9] (news := []) rfl rfl (fun _ z => absurd z List.not_mem_nil) rfl
  replace hf := hf.trC qf (by intro x hx hB; simp at hB; first | (rcases hB with rfl | rfl | rfl | rfl <;> first | omega | simp) | omega | simp [hB])
  replace hn : h10.1 = n := by omega
  replace hs : h10.2.1 = sl := by omega
  have qf0 := qf
  clear qF qn qs qf
  replace z12 : fs1[12]? = some (.ref a12) := (yO 12 (by decide)).trans z12
  replace z13 : fs1[13]? = some (.ref a13) := (yO 13 (by decide)).trans z13
  replace z14 : fs1[14]? = some (.ref a14) := (yO 14 (by decide)).trans z14
  replace z15 : fs1[15]? = some (.ref a15) := (yO 15 (by decide)).trans z15
  replace z16 : fs1[16]? = some (.ref a16) := (yO 16 (by decide)).trans z16
  replace z17 : fs1[17]? = some (.ref a17) := (yO 17 (by decide)).trans z17
  replace z19 : fs1[19]? = some (.ref a19) := (yO 19 (by decide)).trans z19
  replace z30 : fs1[30]? = some (.ref a30) := (yO 30 (by decide)).trans z30
  replace z31 : fs1[31]? = some (.ref a31) := (yO 31 (by decide)).trans z31
  replace z20 : fs1[20]? = some (.int (nI (c + 1))) := y20
  replace hO : ∀ k, k ≠ 20 → fs1[k]? = fs[k]? := fun k y20 => (yO k y20).trans (hO k y20)
  replace hl := yl
  clear yl yO y20
  refine ar_iload_n 75 d_196_74 rfl rfl ?_
  have hF9 := hF.sub (F' := [(m, .inr (11, fs1)), (a12, .inl (0, 48, .inl (upd (inF ff pf lf (400 * w + 200 * 0) n1 c og) (inA ff pf lf (400 * w + 200 * 0) n1 c og) (nI f)))), (a13, .inl (2, 48, .inl (upd us f (vp_nar .boolean 1)))), (a14, .inl (1, 9600, .inl (rgF (fun i => vp_nar .byte (pf (400 * w + 200 * 0 + i))) (200 * f) n1 ff))), (a15, .inl (0, 48, .inl (upd lf f (nI n1)))), (a16, .inl (0, 48, .inl (upd jf f (nI d)))), (a17, .inl (0, 48, .inl (upd zf f 0))), (a19, .inl (2, 912, .inl (rgF (fun _ => vp_nar .boolean 0) (19 * f) 19 la))), (a30, .inl (1, 4800, .inl pf)), (a31, .inl (0, 24, .inl ql))]) [4, 5, 0, 6, 7, 1, 2, 3, 8, 9] rfl rfl
  exact ar_iret d_196_75 rfl rfl (⟨f, _, rfl, rfl, hl, z20, hO, hF9, hn, hs, hf⟩)


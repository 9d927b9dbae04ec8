/-! the reference, exactly: find, leave, gone, rank -/
theorem d_202_0 : decode (axt_b 202) 0 = .ok (.aload_n 0, 1) := by decide +kernel
theorem d_202_1 : decode (axt_b 202) 1 = .ok (.iload_n 1, 1) := by decide +kernel
theorem d_202_2 : decode (axt_b 202) 2 = .ok (.invokevirtual 133, 3) := by decide +kernel
theorem d_202_5 : decode (axt_b 202) 5 = .ok (.aload_n 0, 1) := by decide +kernel
theorem d_202_6 : decode (axt_b 202) 6 = .ok (.getfield 27, 3) := by decide +kernel
theorem d_202_9 : decode (axt_b 202) 9 = .ok (.iload_n 1, 1) := by decide +kernel
theorem d_202_10 : decode (axt_b 202) 10 = .ok (.iconst 0, 1) := by decide +kernel
theorem d_202_11 : decode (axt_b 202) 11 = .ok (.bastore, 1) := by decide +kernel
theorem d_202_12 : decode (axt_b 202) 12 = .ok (.aload_n 0, 1) := by decide +kernel
theorem d_202_13 : decode (axt_b 202) 13 = .ok (.dup, 1) := by decide +kernel
theorem d_202_14 : decode (axt_b 202) 14 = .ok (.getfield 136, 3) := by decide +kernel
theorem d_202_17 : decode (axt_b 202) 17 = .ok (.aload_n 0, 1) := by decide +kernel
theorem d_202_18 : decode (axt_b 202) 18 = .ok (.getfield 40, 3) := by decide +kernel
theorem d_202_21 : decode (axt_b 202) 21 = .ok (.iload_n 1, 1) := by decide +kernel
theorem d_202_22 : decode (axt_b 202) 22 = .ok (.iaload, 1) := by decide +kernel
theorem d_202_23 : decode (axt_b 202) 23 = .ok (.isub, 1) := by decide +kernel
theorem d_202_24 : decode (axt_b 202) 24 = .ok (.putfield 136, 3) := by decide +kernel
theorem d_202_27 : decode (axt_b 202) 27 = .ok (.aload_n 0, 1) := by decide +kernel
theorem d_202_28 : decode (axt_b 202) 28 = .ok (.getfield 40, 3) := by decide +kernel
theorem d_202_31 : decode (axt_b 202) 31 = .ok (.iload_n 1, 1) := by decide +kernel
theorem d_202_32 : decode (axt_b 202) 32 = .ok (.iaload, 1) := by decide +kernel
theorem d_202_33 : decode (axt_b 202) 33 = .ok (.ireturn, 1) := by decide +kernel
theorem d_212_0 : decode (axt_b 212) 0 = .ok (.aload_n 0, 1) := by decide +kernel
theorem d_212_1 : decode (axt_b 212) 1 = .ok (.getfield 37, 3) := by decide +kernel
theorem d_212_4 : decode (axt_b 212) 4 = .ok (.iload_n 1, 1) := by decide +kernel
theorem d_212_5 : decode (axt_b 212) 5 = .ok (.iaload, 1) := by decide +kernel
theorem d_212_6 : decode (axt_b 212) 6 = .ok (.bipush 31, 2) := by decide +kernel
theorem d_212_8 : decode (axt_b 212) 8 = .ok (.imul, 1) := by decide +kernel
theorem d_212_9 : decode (axt_b 212) 9 = .ok (.iload_n 2, 1) := by decide +kernel
theorem d_212_10 : decode (axt_b 212) 10 = .ok (.bipush 7, 2) := by decide +kernel
theorem d_212_12 : decode (axt_b 212) 12 = .ok (.imul, 1) := by decide +kernel
theorem d_212_13 : decode (axt_b 212) 13 = .ok (.iadd, 1) := by decide +kernel
theorem d_212_14 : decode (axt_b 212) 14 = .ok (.aload_n 0, 1) := by decide +kernel
theorem d_212_15 : decode (axt_b 212) 15 = .ok (.getfield 86, 3) := by decide +kernel
theorem d_212_18 : decode (axt_b 212) 18 = .ok (.irem, 1) := by decide +kernel
theorem d_212_19 : decode (axt_b 212) 19 = .ok (.istore 4, 2) := by decide +kernel
theorem d_212_21 : decode (axt_b 212) 21 = .ok (.iconst 0, 1) := by decide +kernel
theorem d_212_22 : decode (axt_b 212) 22 = .ok (.istore 5, 2) := by decide +kernel
theorem d_212_24 : decode (axt_b 212) 24 = .ok (.iconst 0, 1) := by decide +kernel
theorem d_212_25 : decode (axt_b 212) 25 = .ok (.istore 6, 2) := by decide +kernel
theorem d_212_27 : decode (axt_b 212) 27 = .ok (.iload 6, 2) := by decide +kernel
theorem d_212_29 : decode (axt_b 212) 29 = .ok (.aload_n 0, 1) := by decide +kernel
theorem d_212_30 : decode (axt_b 212) 30 = .ok (.getfield 80, 3) := by decide +kernel
theorem d_212_33 : decode (axt_b 212) 33 = .ok (.if_icmp .ge 50, 3) := by decide +kernel
theorem d_212_36 : decode (axt_b 212) 36 = .ok (.iload 4, 2) := by decide +kernel
theorem d_212_38 : decode (axt_b 212) 38 = .ok (.iload 6, 2) := by decide +kernel
theorem d_212_40 : decode (axt_b 212) 40 = .ok (.invokestatic 199, 3) := by decide +kernel
theorem d_212_43 : decode (axt_b 212) 43 = .ok (.iload 4, 2) := by decide +kernel
theorem d_212_45 : decode (axt_b 212) 45 = .ok (.iload_n 3, 1) := by decide +kernel
theorem d_212_46 : decode (axt_b 212) 46 = .ok (.invokestatic 199, 3) := by decide +kernel
theorem d_212_49 : decode (axt_b 212) 49 = .ok (.if_icmp .gt 25, 3) := by decide +kernel
theorem d_212_52 : decode (axt_b 212) 52 = .ok (.iload 4, 2) := by decide +kernel
theorem d_212_54 : decode (axt_b 212) 54 = .ok (.iload 6, 2) := by decide +kernel
theorem d_212_56 : decode (axt_b 212) 56 = .ok (.invokestatic 199, 3) := by decide +kernel
theorem d_212_59 : decode (axt_b 212) 59 = .ok (.iload 4, 2) := by decide +kernel
theorem d_212_61 : decode (axt_b 212) 61 = .ok (.iload_n 3, 1) := by decide +kernel
theorem d_212_62 : decode (axt_b 212) 62 = .ok (.invokestatic 199, 3) := by decide +kernel
theorem d_212_65 : decode (axt_b 212) 65 = .ok (.if_icmp .ne 12, 3) := by decide +kernel
theorem d_212_68 : decode (axt_b 212) 68 = .ok (.iload 6, 2) := by decide +kernel
theorem d_212_70 : decode (axt_b 212) 70 = .ok (.iload_n 3, 1) := by decide +kernel
theorem d_212_71 : decode (axt_b 212) 71 = .ok (.if_icmp .ge 6, 3) := by decide +kernel
theorem d_212_74 : decode (axt_b 212) 74 = .ok (.iinc 5 1, 3) := by decide +kernel
theorem d_212_77 : decode (axt_b 212) 77 = .ok (.iinc 6 1, 3) := by decide +kernel
theorem d_212_80 : decode (axt_b 212) 80 = .ok (.goto (-53), 3) := by decide +kernel
theorem d_212_83 : decode (axt_b 212) 83 = .ok (.iload 5, 2) := by decide +kernel
theorem d_212_85 : decode (axt_b 212) 85 = .ok (.ireturn, 1) := by decide +kernel
def mcF (ff pf lf : Nat → Int32) (b n f : Nat) : Int32 := mcmp ff pf (200 * f) b n (lf f).toNatClampNeg 200 0
def mfnd (ff pf lf og : Nat → Int32) (b n : Nat) : Nat → Nat → Int32
  | 0, _ => -1
  | k + 1, i => if mcF ff pf lf b n (og i).toNatClampNeg = 0 then og i else mfnd ff pf lf og b n k (i + 1)
theorem n_194 {L : Nat} {xs : Nat → Int32} {fr lo m : Nat} {h : ax_H} {fs : List Value} {a12 a14 a15 a30 a31 w e n c : Nat} {og ff lf pf qf : Nat → Int32} (hfr : 1 ≤ fr) (hlo : 40 ≤ lo) (hc : c ≤ 48) (hw : w < 12) (he : e < 2) (hn : qf (2 * w + e) = nI n) (hn2 : n ≤ 200) (hog : ∀ i, i < c → ¬ og i < 0 ∧ (og i).toNatClampNeg < 48) (hlf : ∀ f, f < 48 → ¬ lf f < 0 ∧ (lf f).toNatClampNeg ≤ 200) (hg : ax_g h m = some (.inr (11, fs))) (z12 : fs[12]? = some (.ref a12)) (z14 : fs[14]? = some (.ref a14)) (z15 : fs[15]? = some (.ref a15)) (z20 : fs[20]? = some (.int (nI c))) (z30 : fs[30]? = some (.ref a30)) (z31 : fs[31]? = some (.ref a31)) (g12 : ax_g h a12 = some (.inl (0, 48, .inl og))) (g14 : ax_g h a14 = some (.inl (1, 9600, .inl ff))) (g15 : ax_g h a15 = some (.inl (0, 48, .inl lf))) (g30 : ax_g h a30 = some (.inl (1, 4800, .inl pf))) (g31 : ax_g h a31 = some (.inl (0, 24, .inl qf))) : ax_M L xs 194 fr lo [.ref m, .int (nI w), .int (nI e)] h (fun r h' => r = some (.int (mfnd ff pf lf og (400 * w + 200 * e) n c 0)) ∧ h' = h) := by
  have key : ∀ (k i : Nat), i + k = c → ax_A (ax_step L xs) ((194, 2, fr, lo), [(0, .ref m), (1, .int (nI w)), (2, .int (nI e)), (3, .int (nI i))], [], h) (fun r h' => r = some (.int (mfnd ff pf lf og (400 * w + 200 * e) n k i)) ∧ h' = h) := by
    intro k
    induction k with
    | zero =>
      intro i hi
      have e0 : i = c := by omega
      subst e0
      refine ar_iload_n 3 d_194_2 rfl rfl ?_
      refine ar_aload_n 4 d_194_3 rfl rfl ?_
      refine ar_getf 7 d_194_4 rfl (ci := 11) (k := 20) rfl hg z20 ?_
      refine ar_icmp_ge 38 10 d_194_7 (by decide) rfl (fun _ => ?_) (fun c => absurd (Int32.le_refl _) c)
      refine ar_iconst 39 (v := -1) d_194_38 rfl (by decide) ?_
      exact ar_iret d_194_39 rfl rfl (⟨rfl, rfl⟩)
    | succ k ih =>
      intro i hi
      have hic : i < c := by omega
      obtain ⟨o0, o1⟩ := hog i hic
      have oe := nI_cl o0
      obtain ⟨l0, l1⟩ := hlf _ o1
      refine ar_iload_n 3 d_194_2 rfl rfl ?_
      refine ar_aload_n 4 d_194_3 rfl rfl ?_
      refine ar_getf 7 d_194_4 rfl (ci := 11) (k := 20) rfl hg z20 ?_
      refine ar_icmp_ge 38 10 d_194_7 (by decide) rfl (fun c => absurd c (nI_ge hic (by omega))) (fun _ => ?_)
      refine ar_aload_n 11 d_194_10 rfl rfl ?_
      refine ar_aload_n 12 d_194_11 rfl rfl ?_
      refine ar_getf 15 d_194_12 rfl (ci := 11) (k := 12) rfl hg z12 ?_
      refine ar_iload_n 16 d_194_15 rfl rfl ?_
      refine ar_iald 17 d_194_16 rfl g12 (nI_in (by omega) (by omega)) ?_
      refine ar_top (x' := nI (og i).toNatClampNeg) (by rw [nI_clamp (by omega)]; exact oe) ?_
      refine ar_iload_n 18 d_194_17 rfl rfl ?_
      refine ar_iload_n 19 d_194_18 rfl rfl ?_
      refine ar_call (r := []) (na := 0) (kd := 0) (cm := 195) (fr2 := fr - 1) (lo2 := lo - 28) 22 d_194_19 (ar_hoV (as := [.int (nI (og i).toNatClampNeg), .int (nI w), .int (nI e)]) rfl rfl rfl hg) rfl (by omega) (show lo - 28 + (19 + 9) = lo by omega) (Nat.le_of_ble_eq_true rfl) (Nat.le_of_ble_eq_true rfl) (n_195 (n := n) (k := (lf (og i).toNatClampNeg).toNatClampNeg) o1 hw he hn hn2 (nI_cl l0) l1 hg z14 z15 z30 z31 g14 g15 g30 g31) ?_
      intro v hh hq
      obtain ⟨rfl, ehh⟩ := hq
      rw [ehh]
      clear ehh
      refine ar_if_ne 32 25 d_194_22 (by decide) rfl (fun c1 => ?_) (fun c1 => ?_)
      · refine ar_iinc 35 [(0, .ref m), (1, .int (nI w)), (2, .int (nI e)), (3, .int (nI (i + 1)))] d_194_32 rfl rfl (nI_1 i) (by decide) rfl ?_
        refine ar_goto 2 d_194_35 (by decide) ?_
        rw [show mfnd ff pf lf og (400 * w + 200 * e) n (k + 1) i = mfnd ff pf lf og (400 * w + 200 * e) n k (i + 1) from if_neg c1]
        exact ih (i + 1) (by omega)
      · refine ar_aload_n 26 d_194_25 rfl rfl ?_
        refine ar_getf 29 d_194_26 rfl (ci := 11) (k := 12) rfl hg z12 ?_
        refine ar_iload_n 30 d_194_29 rfl rfl ?_
        refine ar_iald 31 d_194_30 rfl g12 (nI_in (by omega) (by omega)) ?_
        refine ar_top (x' := og i) (by rw [nI_clamp (by omega)]) ?_
        exact ar_iret d_194_31 rfl rfl (⟨by rw [show mfnd ff pf lf og (400 * w + 200 * e) n (k + 1) i = og i from if_pos (Decidable.not_not.mp c1)], rfl⟩)
  show ax_A (ax_step L xs) ((194, 0, fr, lo), [(0, .ref m), (1, .int (nI w)), (2, .int (nI e))], [], h) _
  refine ar_iconst 1 (v := 0) d_194_0 rfl (by decide) ?_
  refine ar_istore_n 2 [(0, .ref m), (1, .int (nI w)), (2, .int (nI e)), (3, .int 0)] d_194_1 rfl (by decide) rfl ?_
  exact key c 0 (by omega)
def lvN (x : Int32) : Nat → Nat → Nat → (Nat → Int32) → Nat
  | 0, _, c, _ => c
  | k + 1, i, c, og => if og i = x then lvN x k (i + 1) c og else lvN x k (i + 1) (c + 1) (upd og c (og i))
def lvF (x : Int32) : Nat → Nat → Nat → (Nat → Int32) → (Nat → Int32)
  | 0, _, _, og => og
  | k + 1, i, c, og => if og i = x then lvF x k (i + 1) c og else lvF x k (i + 1) (c + 1) (upd og c (og i))
theorem nlp_203 {L : Nat} {xs : Nat → Int32} {fr lo m n sl a12 c : Nat} {fs : List Value} {x : Int32} {post : ax_Po} (hc : c ≤ 48) (hl : fs.length = 39) (z12 : fs[12]? = some (.ref a12)) (z20 : fs[20]? = some (.int (nI c))) : ∀ (k i d : Nat) (h : ax_H) (og : Nat → Int32), i + k = c → d ≤ i → ax_hs h [(m, .inr (11, fs)), (a12, .inl (0, 48, .inl (og)))] → h.1 = n → h.2.1 = sl → (∀ h', ax_hs h' [(m, .inr (11, fs)), (a12, .inl (0, 48, .inl (lvF x k i d og)))] → h'.1 = n → h'.2.1 = sl → ax_fr (fun x => x ∈ [a12]) h h' → ax_A (ax_step L xs) ((203, 46, fr, lo), [(0, .ref m), (1, .int x), (2, .int (nI (lvN x k i d og))), (3, .int (nI c))], [], h') post) → ax_A (ax_step L xs) ((203, 4, fr, lo), [(0, .ref m), (1, .int x), (2, .int (nI d)), (3, .int (nI i))], [], h) post := by
  intro k
  induction k with
  | zero =>
    intro i d h og hi hd hF hn hs kk
    have e : i = c := by omega
    subst e
    refine ar_iload_n 5 d_203_4 rfl rfl ?_
    refine ar_aload_n 6 d_203_5 rfl rfl ?_
    refine ar_getf 9 d_203_6 rfl (ci := 11) (k := 20) rfl (hF.at 0 rfl) z20 ?_
    refine ar_icmp_ge 46 12 d_203_9 (by decide) rfl (fun _ => ?_) (fun c => absurd (Int32.le_refl _) c)
    exact kk h hF hn hs ax_fr.rf
  | succ k ih =>
    intro i d h og hi hd hF hn hs kk
    have hic : i < c := by omega
    refine ar_iload_n 5 d_203_4 rfl rfl ?_
    refine ar_aload_n 6 d_203_5 rfl rfl ?_
    refine ar_getf 9 d_203_6 rfl (ci := 11) (k := 20) rfl (hF.at 0 rfl) z20 ?_
    refine ar_icmp_ge 46 12 d_203_9 (by decide) rfl (fun c => absurd c (nI_ge hic (by omega))) (fun _ => ?_)
    refine ar_aload_n 13 d_203_12 rfl rfl ?_
    refine ar_getf 16 d_203_13 rfl (ci := 11) (k := 12) rfl (hF.at 0 rfl) z12 ?_
    refine ar_iload_n 17 d_203_16 rfl rfl ?_
    refine ar_iald 18 d_203_17 rfl (hF.at 1 rfl) (nI_in (by omega) (by omega)) ?_
    refine ar_top (x' := og i) (by rw [nI_clamp (by omega)]) ?_
    refine ar_iload_n 19 d_203_18 rfl rfl ?_
    refine ar_icmp_ne 25 22 d_203_19 (by decide) rfl (fun c1 => ?_) (fun c1 => ?_)
    · have hbase : h.1 = n := hn
      have hbasl : h.2.1 = sl := hs
      have hf : ax_fr (fun x => x ∈ [a12]) h h := ax_fr.rf
      refine ar_aload_n 26 d_203_25 rfl rfl ?_
      refine ar_getf 29 d_203_26 rfl (ci := 11) (k := 12) rfl (hF.at 0 rfl) z12 ?_
      refine ar_iload_n 30 d_203_29 rfl rfl ?_
      refine ar_aload_n 31 d_203_30 rfl rfl ?_
      refine ar_getf 34 d_203_31 rfl (ci := 11) (k := 12) rfl (hF.at 0 rfl) z12 ?_
      refine ar_iload_n 35 d_203_34 rfl rfl ?_
      refine ar_iald 36 d_203_35 rfl (hF.at 1 rfl) (nI_in (by omega) (by omega)) ?_
      refine ar_top (x' := og i) (by rw [nI_clamp (by omega)]) ?_
      refine ar_iast 37 d_203_36 rfl (hF.at 1 rfl) (nI_in (by omega) (by omega)) ?_
      replace hF : ax_hs (ax_put h a12 (.inl (0, 48, .inl (upd og (nI d).toNatClampNeg (og i))))) [(m, .inr (11, fs)), (a12, .inl (0, 48, .inl (upd og (nI d).toNatClampNeg (og i))))] := hF.put 1 _ rfl rfl
      replace hf := hf.put (a := a12) (c := .inl (0, 48, .inl (upd og (nI d).toNatClampNeg (og i)))) (by simp)
      replace hn : (ax_put h a12 (.inl (0, 48, .inl (upd og (nI d).toNatClampNeg (og i))))).1 = n := hn
      replace hs : (ax_put h a12 (.inl (0, 48, .inl (upd og (nI d).toNatClampNeg (og i))))).2.1 = sl := hs
      generalize ax_put h a12 (.inl (0, 48, .inl (upd og (nI d).toNatClampNeg (og i)))) = h1 at hF hf hn hs ⊢
      refine ar_iinc 40 [(0, .ref m), (1, .int x), (2, .int (nI (d + 1))), (3, .int (nI i))] d_203_37 rfl rfl (nI_1 d) (by decide) rfl ?_
      refine ar_iinc 43 [(0, .ref m), (1, .int x), (2, .int (nI (d + 1))), (3, .int (nI (i + 1)))] d_203_40 rfl rfl (nI_1 i) (by decide) rfl ?_
      refine ar_goto 4 d_203_43 (by decide) ?_
      rw [nI_clamp (show d < 2 ^ 31 by omega)] at hF
      rw [show lvN x (k + 1) i d og = lvN x k (i + 1) (d + 1) (upd og d (og i)) from if_neg c1, show lvF x (k + 1) i d og = lvF x k (i + 1) (d + 1) (upd og d (og i)) from if_neg c1] at kk
      exact ih (i + 1) (d + 1) h1 _ (by omega) (by omega) hF hn hs (fun h' j1 j2 j3 j4 => kk h' j1 j2 j3 (hf.tr j4))
    · have c2 := Decidable.not_not.mp c1
      refine ar_goto 40 d_203_22 (by decide) ?_
      refine ar_iinc 43 [(0, .ref m), (1, .int x), (2, .int (nI d)), (3, .int (nI (i + 1)))] d_203_40 rfl rfl (nI_1 i) (by decide) rfl ?_
      refine ar_goto 4 d_203_43 (by decide) ?_
      rw [show lvN x (k + 1) i d og = lvN x k (i + 1) d og from if_pos c2, show lvF x (k + 1) i d og = lvF x k (i + 1) d og from if_pos c2] at kk
      exact ih (i + 1) d h og (by omega) (by omega) hF hn hs kk
theorem n_203 {L : Nat} {xs : Nat → Int32} {fr lo m n sl : Nat} {h : ax_H} {fs : List Value} {a12 c : Nat} {og : Nat → Int32} {x : Int32} (hc : c ≤ 48) (hl : fs.length = 39) (z12 : fs[12]? = some (.ref a12)) (z20 : fs[20]? = some (.int (nI c))) (hF : ax_hs h [(m, .inr (11, fs)), (a12, .inl (0, 48, .inl og))]) (hn : h.1 = n) (hs : h.2.1 = sl) (hn0 : 0 < n) : ax_M L xs 203 fr lo [.ref m, .int x] h (fun r h' => ∃ fs', r = none ∧ fs'.length = 39 ∧ fs'[20]? = some (.int (nI (lvN x c 0 0 og))) ∧ (∀ k, k ≠ 20 → fs'[k]? = fs[k]?) ∧ ax_hs h' [(m, .inr (11, fs')), (a12, .inl (0, 48, .inl (lvF x c 0 0 og)))] ∧ h'.1 = n ∧ h'.2.1 = sl ∧ ax_fr (fun x => x ∈ [m, a12]) h h') := by
  show ax_A (ax_step L xs) ((203, 0, fr, lo), [(0, .ref m), (1, .int x)], [], h) _
  have hbase : h.1 = n := hn
  have hbasl : h.2.1 = sl := hs
  have hf : ax_fr (fun x => x ∈ [m, a12]) h h := ax_fr.rf
  have hO : ∀ k, k ≠ 20 → fs[k]? = fs[k]? := fun _ _ => rfl
  refine ar_iconst 1 (v := 0) d_203_0 rfl (by decide) ?_
  refine ar_istore_n 2 [(0, .ref m), (1, .int x), (2, .int 0)] d_203_1 rfl (by decide) rfl ?_
  refine ar_iconst 3 (v := 0) d_203_2 rfl (by decide) ?_
  refine ar_istore_n 4 [(0, .ref m), (1, .int x), (2, .int 0), (3, .int 0)] d_203_3 rfl (by decide) rfl ?_
  refine nlp_203 hc hl z12 z20 c 0 0 h og (by omega) (by omega) hF hn hs (fun h' hF hn hs qf => ?_)
  replace hf := hf.tr (qf.mono (by intro x hx; simp at hx; subst hx; simp))
  clear qf
  refine ar_aload_n 47 d_203_46 rfl rfl ?_
  refine ar_iload_n 48 d_203_47 rfl rfl ?_
  refine ar_putf 51 (fs.set 20 (.int (nI (lvN x c 0 0 og)))) d_203_48 rfl (ci := 11) (k := 20) rfl rfl (hF.at 0 rfl) (by rw [hl]; decide) rfl rfl rfl ?_
  replace hF : ax_hs (ax_put h' m (.inr (11, (fs.set 20 (.int (nI (lvN x c 0 0 og))))))) [(m, .inr (11, (fs.set 20 (.int (nI (lvN x c 0 0 og)))))), (a12, .inl (0, 48, .inl (lvF x c 0 0 og)))] := hF.put 0 _ rfl rfl
  replace hf := hf.put (a := m) (c := .inr (11, (fs.set 20 (.int (nI (lvN x c 0 0 og)))))) (by simp)
  replace hn : (ax_put h' m (.inr (11, (fs.set 20 (.int (nI (lvN x c 0 0 og))))))).1 = n := hn
  replace hs : (ax_put h' m (.inr (11, (fs.set 20 (.int (nI (lvN x c 0 0 og))))))).2.1 = sl := hs
  generalize ax_put h' m (.inr (11, (fs.set 20 (.int (nI (lvN x c 0 0 og)))))) = h1 at hF hf hn hs ⊢
  replace z12 : (fs.set 20 (.int (nI (lvN x c 0 0 og))))[12]? = some (.ref a12) := (List.getElem?_set_ne (by decide)).trans z12
  replace z20 : (fs.set 20 (.int (nI (lvN x c 0 0 og))))[20]? = some (.int (nI (lvN x c 0 0 og))) := List.getElem?_set_self (by rw [hl]; decide)
  replace hO : ∀ k, k ≠ 20 → (fs.set 20 (.int (nI (lvN x c 0 0 og))))[k]? = fs[k]? := fun k y20 => (List.getElem?_set_ne (Ne.symm y20)).trans (hO k y20)
  replace hl : (fs.set 20 (.int (nI (lvN x c 0 0 og)))).length = 39 := (List.length_set ..).trans hl
  generalize (fs.set 20 (.int (nI (lvN x c 0 0 og)))) = fs1 at hF hl hO z12 z20 ⊢
  exact ar_ret d_203_51 rfl (⟨_, rfl, hl, z20, hO, hF, hn, hs, hf⟩)
/-- how many NODES stand before NODE x in GROUP y -/
def rkS (y x : Int32) : Nat → Nat → Nat → Nat
  | 0, _, r => r
  | k + 1, i, r => if drw y x < drw y (nI i) ∨ (drw y (nI i) = drw y x ∧ nI i < x) then rkS y x k (i + 1) (r + 1) else rkS y x k (i + 1) r
theorem n_212 {L : Nat} {xs : Nat → Int32} {fr lo m : Nat} {h : ax_H} {fs : List Value} {a16 f e N G d : Nat} {jf : Nat → Int32} {x : Int32} (hfr : 1 ≤ fr) (hlo : 40 ≤ lo) (hf : f < 48) (he : e < 19) (hd : jf f = nI d) (hd2 : d < 512) (hG : 0 < G) (hG2 : G ≤ 16) (hN : N ≤ 6) (hg : ax_g h m = some (.inr (11, fs))) (z0 : fs[0]? = some (.int (nI N))) (z2 : fs[2]? = some (.int (nI G))) (z16 : fs[16]? = some (.ref a16)) (g16 : ax_g h a16 = some (.inl (0, 48, .inl jf))) : ax_M L xs 212 fr lo [.ref m, .int (nI f), .int (nI e), .int x] h (fun r h' => r = some (.int (nI (rkS (nI ((d * 31 + e * 7) % G)) x N 0 0))) ∧ h' = h) := by
  have key : ∀ (k i y : Nat), i + k = N → ax_A (ax_step L xs) ((212, 27, fr, lo), [(0, .ref m), (1, .int (nI f)), (2, .int (nI e)), (3, .int x), (4, .int (nI ((d * 31 + e * 7) % G))), (5, .int (nI y)), (6, .int (nI i))], [], h) (fun r h' => r = some (.int (nI (rkS (nI ((d * 31 + e * 7) % G)) x k i y))) ∧ h' = h) := by
    intro k
    induction k with
    | zero =>
      intro i y hi
      have e0 : i = N := by omega
      subst e0
      refine ar_iload 29 d_212_27 rfl rfl ?_
      refine ar_aload_n 30 d_212_29 rfl rfl ?_
      refine ar_getf 33 d_212_30 rfl (ci := 11) (k := 0) rfl hg z0 ?_
      refine ar_icmp_ge 83 36 d_212_33 (by decide) rfl (fun _ => ?_) (fun c => absurd (Int32.le_refl _) c)
      refine ar_iload 85 d_212_83 rfl rfl ?_
      exact ar_iret d_212_85 rfl rfl (⟨rfl, rfl⟩)
    | succ k ih =>
      intro i y hi
      have hic : i < N := by omega
      refine ar_iload 29 d_212_27 rfl rfl ?_
      refine ar_aload_n 30 d_212_29 rfl rfl ?_
      refine ar_getf 33 d_212_30 rfl (ci := 11) (k := 0) rfl hg z0 ?_
      refine ar_icmp_ge 83 36 d_212_33 (by decide) rfl (fun c => absurd c (nI_ge hic (by omega))) (fun _ => ?_)
      refine ar_iload 38 d_212_36 rfl rfl ?_
      refine ar_iload 40 d_212_38 rfl rfl ?_
      refine ar_call (r := []) (na := 0) (kd := 0) (cm := 213) (fr2 := fr - 1) (lo2 := lo - 22) 43 d_212_40 (ar_hoS (as := [.int (nI ((d * 31 + e * 7) % G)), .int (nI i)]) rfl rfl rfl) rfl (by omega) (show lo - 22 + (19 + 3) = lo by omega) (Nat.le_of_ble_eq_true rfl) (Nat.le_of_ble_eq_true rfl) (n_213) ?_
      intro v hh hq
      obtain ⟨rfl, ehh⟩ := hq
      rw [ehh]
      clear ehh
      refine ar_iload 45 d_212_43 rfl rfl ?_
      refine ar_iload_n 46 d_212_45 rfl rfl ?_
      refine ar_call (r := [.int (drw (nI ((d * 31 + e * 7) % G)) (nI i))]) (na := 0) (kd := 0) (cm := 213) (fr2 := fr - 1) (lo2 := lo - 22) 49 d_212_46 (ar_hoS (as := [.int (nI ((d * 31 + e * 7) % G)), .int x]) rfl rfl rfl) rfl (by omega) (show lo - 22 + (19 + 3) = lo by omega) (Nat.le_of_ble_eq_true rfl) (Nat.le_of_ble_eq_true rfl) (n_213) ?_
      intro v hh hq
      obtain ⟨rfl, ehh⟩ := hq
      rw [ehh]
      clear ehh
      refine ar_icmp_gt 74 52 d_212_49 (by decide) rfl (fun c1 => ?_) (fun c1 => ?_)
      · refine ar_iinc 77 [(0, .ref m), (1, .int (nI f)), (2, .int (nI e)), (3, .int x), (4, .int (nI ((d * 31 + e * 7) % G))), (5, .int (nI (y + 1))), (6, .int (nI i))] d_212_74 rfl rfl (nI_1 y) (by decide) rfl ?_
        refine ar_iinc 80 [(0, .ref m), (1, .int (nI f)), (2, .int (nI e)), (3, .int x), (4, .int (nI ((d * 31 + e * 7) % G))), (5, .int (nI (y + 1))), (6, .int (nI (i + 1)))] d_212_77 rfl rfl (nI_1 i) (by decide) rfl ?_
        refine ar_goto 27 d_212_80 (by decide) ?_
        rw [show rkS (nI ((d * 31 + e * 7) % G)) x (k + 1) i y = rkS (nI ((d * 31 + e * 7) % G)) x k (i + 1) (y + 1) from if_pos (Or.inl c1)]
        exact ih (i + 1) (y + 1) (by omega)
      · refine ar_iload 54 d_212_52 rfl rfl ?_
        refine ar_iload 56 d_212_54 rfl rfl ?_
        refine ar_call (r := []) (na := 0) (kd := 0) (cm := 213) (fr2 := fr - 1) (lo2 := lo - 22) 59 d_212_56 (ar_hoS (as := [.int (nI ((d * 31 + e * 7) % G)), .int (nI i)]) rfl rfl rfl) rfl (by omega) (show lo - 22 + (19 + 3) = lo by omega) (Nat.le_of_ble_eq_true rfl) (Nat.le_of_ble_eq_true rfl) (n_213) ?_
        intro v hh hq
        obtain ⟨rfl, ehh⟩ := hq
        rw [ehh]
        clear ehh
        refine ar_iload 61 d_212_59 rfl rfl ?_
        refine ar_iload_n 62 d_212_61 rfl rfl ?_
        refine ar_call (r := [.int (drw (nI ((d * 31 + e * 7) % G)) (nI i))]) (na := 0) (kd := 0) (cm := 213) (fr2 := fr - 1) (lo2 := lo - 22) 65 d_212_62 (ar_hoS (as := [.int (nI ((d * 31 + e * 7) % G)), .int x]) rfl rfl rfl) rfl (by omega) (show lo - 22 + (19 + 3) = lo by omega) (Nat.le_of_ble_eq_true rfl) (Nat.le_of_ble_eq_true rfl) (n_213) ?_
        intro v hh hq
        obtain ⟨rfl, ehh⟩ := hq
        rw [ehh]
        clear ehh
        refine ar_icmp_ne 77 68 d_212_65 (by decide) rfl (fun c2 => ?_) (fun c2 => ?_)
        · refine ar_iinc 80 [(0, .ref m), (1, .int (nI f)), (2, .int (nI e)), (3, .int x), (4, .int (nI ((d * 31 + e * 7) % G))), (5, .int (nI y)), (6, .int (nI (i + 1)))] d_212_77 rfl rfl (nI_1 i) (by decide) rfl ?_
          refine ar_goto 27 d_212_80 (by decide) ?_
          rw [show rkS (nI ((d * 31 + e * 7) % G)) x (k + 1) i y = rkS (nI ((d * 31 + e * 7) % G)) x k (i + 1) y from if_neg (fun z => z.elim c1 (fun q => c2 q.1))]
          exact ih (i + 1) y (by omega)
        · refine ar_iload 70 d_212_68 rfl rfl ?_
          refine ar_iload_n 71 d_212_70 rfl rfl ?_
          refine ar_icmp_ge 77 74 d_212_71 (by decide) rfl (fun c3 => ?_) (fun c3 => ?_)
          · refine ar_iinc 80 [(0, .ref m), (1, .int (nI f)), (2, .int (nI e)), (3, .int x), (4, .int (nI ((d * 31 + e * 7) % G))), (5, .int (nI y)), (6, .int (nI (i + 1)))] d_212_77 rfl rfl (nI_1 i) (by decide) rfl ?_
            refine ar_goto 27 d_212_80 (by decide) ?_
            rw [show rkS (nI ((d * 31 + e * 7) % G)) x (k + 1) i y = rkS (nI ((d * 31 + e * 7) % G)) x k (i + 1) y from if_neg (fun z => z.elim c1 (fun q => absurd q.2 (Int32.not_lt.mpr c3)))]
            exact ih (i + 1) y (by omega)
          · refine ar_iinc 77 [(0, .ref m), (1, .int (nI f)), (2, .int (nI e)), (3, .int x), (4, .int (nI ((d * 31 + e * 7) % G))), (5, .int (nI (y + 1))), (6, .int (nI i))] d_212_74 rfl rfl (nI_1 y) (by decide) rfl ?_
            refine ar_iinc 80 [(0, .ref m), (1, .int (nI f)), (2, .int (nI e)), (3, .int x), (4, .int (nI ((d * 31 + e * 7) % G))), (5, .int (nI (y + 1))), (6, .int (nI (i + 1)))] d_212_77 rfl rfl (nI_1 i) (by decide) rfl ?_
            refine ar_goto 27 d_212_80 (by decide) ?_
            rw [show rkS (nI ((d * 31 + e * 7) % G)) x (k + 1) i y = rkS (nI ((d * 31 + e * 7) % G)) x k (i + 1) (y + 1) from if_pos (Or.inr ⟨Decidable.not_not.mp c2, Int32.not_le.mp c3⟩)]
            exact ih (i + 1) (y + 1) (by omega)
  show ax_A (ax_step L xs) ((212, 0, fr, lo), [(0, .ref m), (1, .int (nI f)), (2, .int (nI e)), (3, .int x)], [], h) _
  refine ar_aload_n 1 d_212_0 rfl rfl ?_
  refine ar_getf 4 d_212_1 rfl (ci := 11) (k := 16) rfl hg z16 ?_
  refine ar_iload_n 5 d_212_4 rfl rfl ?_
  refine ar_iald 6 d_212_5 rfl g16 (nI_in (by omega) (by omega)) ?_
  refine ar_top (x' := nI d) (by rw [nI_clamp (by omega)]; exact hd) ?_
  refine ar_bipush 8 (v := 31) d_212_6 rfl (by decide) ?_
  refine ar_imul 9 d_212_8 rfl ?_
  refine ar_top (x' := nI (d * 31)) (pk_mul d 31) ?_
  refine ar_iload_n 10 d_212_9 rfl rfl ?_
  refine ar_bipush 12 (v := 7) d_212_10 rfl (by decide) ?_
  refine ar_imul 13 d_212_12 rfl ?_
  refine ar_top (x' := nI (e * 7)) (pk_mul e 7) ?_
  refine ar_iadd 14 d_212_13 rfl ?_
  refine ar_top (x' := nI (d * 31 + e * 7)) (nI_add _ _) ?_
  refine ar_aload_n 15 d_212_14 rfl rfl ?_
  refine ar_getf 18 d_212_15 rfl (ci := 11) (k := 2) rfl hg z2 ?_
  refine ar_irem 19 d_212_18 rfl (nI_nz9 (by omega) (by omega)) ?_
  refine ar_top (x' := nI ((d * 31 + e * 7) % G)) (pk_rem (by omega) (by omega) (by omega)) ?_
  refine ar_istore 21 [(0, .ref m), (1, .int (nI f)), (2, .int (nI e)), (3, .int x), (4, .int (nI ((d * 31 + e * 7) % G)))] d_212_19 rfl (by decide) rfl ?_
  refine ar_iconst 22 (v := 0) d_212_21 rfl (by decide) ?_
  refine ar_istore 24 [(0, .ref m), (1, .int (nI f)), (2, .int (nI e)), (3, .int x), (4, .int (nI ((d * 31 + e * 7) % G))), (5, .int 0)] d_212_22 rfl (by decide) rfl ?_
  refine ar_iconst 25 (v := 0) d_212_24 rfl (by decide) ?_
  refine ar_istore 27 [(0, .ref m), (1, .int (nI f)), (2, .int (nI e)), (3, .int x), (4, .int (nI ((d * 31 + e * 7) % G))), (5, .int 0), (6, .int 0)] d_212_25 rfl (by decide) rfl ?_
  exact key N 0 0 (by omega)


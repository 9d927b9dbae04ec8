/-! Table, exactly: renew, setName, copyName, add, remove -/
theorem c_115 {L : Nat} {xs : Nat → Int32} {fr lo : Nat} {h : ax_H} {n sl : Nat} {tb a1 a2 a3 a4 a5 a6 a7 : Nat} {g fl an : Int32} {kn : Int64} {a : Nat} {x : Int32} {vf hf_ : Nat → Int32} (ha : a < 961) (hF : ax_hs h [(tb, .inr (6, [.int g, .ref a1, .ref a2, .ref a3, .ref a4, .ref a5, .ref a6, .ref a7, .long kn, .int fl, .int an])), (a6, .inl (0, 961, .inl vf)), (a7, .inl (0, 961, .inl hf_))]) (hn : h.1 = n) (hs : h.2.1 = sl) (hn0 : 0 < n) : ax_M L xs 115 fr lo [.ref tb, .int (nI a), .int x] h (fun r h' => r = none ∧ ax_hs h' [(tb, .inr (6, [.int g, .ref a1, .ref a2, .ref a3, .ref a4, .ref a5, .ref a6, .ref a7, .long kn, .int fl, .int an])), (a6, .inl (0, 961, .inl (upd vf a x))), (a7, .inl (0, 961, .inl (upd hf_ a 0)))] ∧ h'.1 = n ∧ h'.2.1 = sl ∧ ax_fr (fun x => x ∈ [a6, a7]) h h') := by
  show ax_A (ax_step L xs) ((115, 0, fr, lo), [(0, .ref tb), (1, .int (nI a)), (2, .int x)], [], h) _
  have hbase : h.1 = n := hn
  have hbasl : h.2.1 = sl := hs
  have hf : ax_fr (fun x => x ∈ [a6, a7]) h h := ax_fr.rf
  refine ar_aload_n 1 d_115_0 rfl rfl ?_
  refine ar_getf 4 d_115_1 rfl (ci := 6) (k := 6) rfl (hF.at 0 rfl) rfl ?_
  refine ar_iload_n 5 d_115_4 rfl rfl ?_
  refine ar_iload_n 6 d_115_5 rfl rfl ?_
  refine ar_iast 7 d_115_6 rfl (hF.at 1 rfl) (nI_in (by omega) (by omega)) ?_
  replace hF : ax_hs (ax_put h a6 (.inl (0, 961, .inl (upd vf (nI a).toNatClampNeg x)))) [(tb, .inr (6, [.int g, .ref a1, .ref a2, .ref a3, .ref a4, .ref a5, .ref a6, .ref a7, .long kn, .int fl, .int an])), (a6, .inl (0, 961, .inl (upd vf (nI a).toNatClampNeg x))), (a7, .inl (0, 961, .inl hf_))] := hF.put 1 _ rfl rfl
  replace hf := hf.put (a := a6) (c := .inl (0, 961, .inl (upd vf (nI a).toNatClampNeg x))) (by simp)
  replace hn : (ax_put h a6 (.inl (0, 961, .inl (upd vf (nI a).toNatClampNeg x)))).1 = n := hn
  replace hs : (ax_put h a6 (.inl (0, 961, .inl (upd vf (nI a).toNatClampNeg x)))).2.1 = sl := hs
  generalize ax_put h a6 (.inl (0, 961, .inl (upd vf (nI a).toNatClampNeg x))) = h1 at hF hf hn hs ⊢
  refine ar_aload_n 8 d_115_7 rfl rfl ?_
  refine ar_getf 11 d_115_8 rfl (ci := 6) (k := 7) rfl (hF.at 0 rfl) rfl ?_
  refine ar_iload_n 12 d_115_11 rfl rfl ?_
  refine ar_iconst 13 (v := 0) d_115_12 rfl (by decide) ?_
  refine ar_iast 14 d_115_13 rfl (hF.at 2 rfl) (nI_in (by omega) (by omega)) ?_
  replace hF : ax_hs (ax_put h1 a7 (.inl (0, 961, .inl (upd hf_ (nI a).toNatClampNeg 0)))) [(tb, .inr (6, [.int g, .ref a1, .ref a2, .ref a3, .ref a4, .ref a5, .ref a6, .ref a7, .long kn, .int fl, .int an])), (a6, .inl (0, 961, .inl (upd vf (nI a).toNatClampNeg x))), (a7, .inl (0, 961, .inl (upd hf_ (nI a).toNatClampNeg 0)))] := hF.put 2 _ rfl rfl
  replace hf := hf.put (a := a7) (c := .inl (0, 961, .inl (upd hf_ (nI a).toNatClampNeg 0))) (by simp)
  replace hn : (ax_put h1 a7 (.inl (0, 961, .inl (upd hf_ (nI a).toNatClampNeg 0)))).1 = n := hn
  replace hs : (ax_put h1 a7 (.inl (0, 961, .inl (upd hf_ (nI a).toNatClampNeg 0)))).2.1 = sl := hs
  generalize ax_put h1 a7 (.inl (0, 961, .inl (upd hf_ (nI a).toNatClampNeg 0))) = h2 at hF hf hn hs ⊢
  rw [nI_clamp (show a < 2 ^ 31 by omega)] at hF
  exact ar_ret d_115_14 rfl (⟨rfl, hF, hn, hs, hf⟩)
theorem c_86 {L : Nat} {xs : Nat → Int32} {fr lo : Nat} {h : ax_H} {n sl : Nat} {tb a1 a2 a3 a4 a5 a6 a7 : Nat} {g fl an : Int32} {kn : Int64} {b N f p : Nat} {x : Int32} {nf mf wf : Nat → Int32} (hfr : 1 ≤ fr) (hlo : 30 ≤ lo) (hf0 : f < 48) (hN : N < 2 ^ 31) (hp : p + 50 ≤ N) (hF : ax_hs h [(tb, .inr (6, [.int g, .ref a1, .ref a2, .ref a3, .ref a4, .ref a5, .ref a6, .ref a7, .long kn, .int fl, .int an])), (a3, .inl (0, 48, .inl nf)), (a4, .inl (0, 2400, .inl mf)), (b, .inl (0, N, .inl wf))]) (hn : h.1 = n) (hs : h.2.1 = sl) (hn0 : 0 < n) : ax_M L xs 86 fr lo [.ref tb, .int (nI f), .ref b, .int (nI p), .int x] h (fun r h' => r = none ∧ ax_hs h' [(tb, .inr (6, [.int g, .ref a1, .ref a2, .ref a3, .ref a4, .ref a5, .ref a6, .ref a7, .long kn, .int fl, .int an])), (a3, .inl (0, 48, .inl (upd nf f x))), (a4, .inl (0, 2400, .inl (va_cpy wf mf p (f * 50) 50))), (b, .inl (0, N, .inl wf))] ∧ h'.1 = n ∧ h'.2.1 = sl ∧ ax_fr (fun x => x ∈ [a3, a4]) h h') := by
  show ax_A (ax_step L xs) ((86, 0, fr, lo), [(0, .ref tb), (1, .int (nI f)), (2, .ref b), (3, .int (nI p)), (4, .int x)], [], h) _
  have hbase : h.1 = n := hn
  have hbasl : h.2.1 = sl := hs
  have hf : ax_fr (fun x => x ∈ [a3, a4]) h h := ax_fr.rf
  refine ar_aload_n 1 d_86_0 rfl rfl ?_
  refine ar_iload_n 2 d_86_1 rfl rfl ?_
  refine ar_aload_n 3 d_86_2 rfl rfl ?_
  refine ar_getf 6 d_86_3 rfl (ci := 6) (k := 4) rfl (hF.at 0 rfl) rfl ?_
  refine ar_iload_n 7 d_86_6 rfl rfl ?_
  refine ar_bipush 9 (v := 50) d_86_7 rfl (by decide) ?_
  refine ar_imul 10 d_86_9 rfl ?_
  refine ar_top (x' := nI (f * 50)) (pk_mul f 50) ?_
  refine ar_bipush 12 (v := 50) d_86_10 rfl (by decide) ?_
  refine ar_copy 15 d_86_12 rfl rfl (by omega) (by show 0 + (nativeFrameWords "java/lang/System" "arraycopy" 5 + 11) ≤ lo; rw [nfw_copy]; omega) (hF.at 3 rfl) (hF.at 2 rfl) (Int32.not_lt.mpr (nI_le (Nat.zero_le _) (by omega))) (Int32.not_lt.mpr (nI_le (Nat.zero_le _) (by omega))) (by decide) (by rw [nI_clamp (by omega)]; show p + 50 ≤ N; omega) (by rw [nI_clamp (by omega)]; show f * 50 + 50 ≤ 2400; omega) ?_
  replace hF : ax_hs (ax_put h a4 (.inl (0, 2400, .inl (va_cpy wf mf ((nI p).toNatClampNeg) ((nI (f * 50)).toNatClampNeg) ((50 : Int32).toNatClampNeg))))) [(tb, .inr (6, [.int g, .ref a1, .ref a2, .ref a3, .ref a4, .ref a5, .ref a6, .ref a7, .long kn, .int fl, .int an])), (a3, .inl (0, 48, .inl nf)), (a4, .inl (0, 2400, .inl (va_cpy wf mf ((nI p).toNatClampNeg) ((nI (f * 50)).toNatClampNeg) ((50 : Int32).toNatClampNeg)))), (b, .inl (0, N, .inl wf))] := hF.put 2 _ rfl rfl
  replace hf := hf.put (a := a4) (c := .inl (0, 2400, .inl (va_cpy wf mf ((nI p).toNatClampNeg) ((nI (f * 50)).toNatClampNeg) ((50 : Int32).toNatClampNeg)))) (by simp)
  replace hn : (ax_put h a4 (.inl (0, 2400, .inl (va_cpy wf mf ((nI p).toNatClampNeg) ((nI (f * 50)).toNatClampNeg) ((50 : Int32).toNatClampNeg))))).1 = n := hn
  replace hs : (ax_put h a4 (.inl (0, 2400, .inl (va_cpy wf mf ((nI p).toNatClampNeg) ((nI (f * 50)).toNatClampNeg) ((50 : Int32).toNatClampNeg))))).2.1 = sl := hs
  generalize ax_put h a4 (.inl (0, 2400, .inl (va_cpy wf mf ((nI p).toNatClampNeg) ((nI (f * 50)).toNatClampNeg) ((50 : Int32).toNatClampNeg)))) = h1 at hF hf hn hs ⊢
  refine ar_aload_n 16 d_86_15 rfl rfl ?_
  refine ar_getf 19 d_86_16 rfl (ci := 6) (k := 3) rfl (hF.at 0 rfl) rfl ?_
  refine ar_iload_n 20 d_86_19 rfl rfl ?_
  refine ar_iload 22 d_86_20 rfl rfl ?_
  refine ar_iast 23 d_86_22 rfl (hF.at 1 rfl) (nI_in (by omega) (by omega)) ?_
  replace hF : ax_hs (ax_put h1 a3 (.inl (0, 48, .inl (upd nf (nI f).toNatClampNeg x)))) [(tb, .inr (6, [.int g, .ref a1, .ref a2, .ref a3, .ref a4, .ref a5, .ref a6, .ref a7, .long kn, .int fl, .int an])), (a3, .inl (0, 48, .inl (upd nf (nI f).toNatClampNeg x))), (a4, .inl (0, 2400, .inl (va_cpy wf mf ((nI p).toNatClampNeg) ((nI (f * 50)).toNatClampNeg) ((50 : Int32).toNatClampNeg)))), (b, .inl (0, N, .inl wf))] := hF.put 1 _ rfl rfl
  replace hf := hf.put (a := a3) (c := .inl (0, 48, .inl (upd nf (nI f).toNatClampNeg x))) (by simp)
  replace hn : (ax_put h1 a3 (.inl (0, 48, .inl (upd nf (nI f).toNatClampNeg x)))).1 = n := hn
  replace hs : (ax_put h1 a3 (.inl (0, 48, .inl (upd nf (nI f).toNatClampNeg x)))).2.1 = sl := hs
  generalize ax_put h1 a3 (.inl (0, 48, .inl (upd nf (nI f).toNatClampNeg x))) = h2 at hF hf hn hs ⊢
  rw [nI_clamp (show p < 2 ^ 31 by omega), nI_clamp (show f * 50 < 2 ^ 31 by omega), nI_clamp (show f < 2 ^ 31 by omega)] at hF
  exact ar_ret d_86_23 rfl (⟨rfl, hF, hn, hs, hf⟩)
theorem c_103 {L : Nat} {xs : Nat → Int32} {fr lo : Nat} {h : ax_H} {n sl : Nat} {tb a1 a2 a3 a4 a5 a6 a7 : Nat} {g fl an : Int32} {kn : Int64} {b N f p : Nat} {mf wf : Nat → Int32} (hfr : 1 ≤ fr) (hlo : 30 ≤ lo) (hf0 : f < 48) (hN : N < 2 ^ 31) (hp : p + 50 ≤ N) (hF : ax_hs h [(tb, .inr (6, [.int g, .ref a1, .ref a2, .ref a3, .ref a4, .ref a5, .ref a6, .ref a7, .long kn, .int fl, .int an])), (a4, .inl (0, 2400, .inl mf)), (b, .inl (0, N, .inl wf))]) (hn : h.1 = n) (hs : h.2.1 = sl) (hn0 : 0 < n) : ax_M L xs 103 fr lo [.ref tb, .int (nI f), .ref b, .int (nI p)] h (fun r h' => r = none ∧ ax_hs h' [(tb, .inr (6, [.int g, .ref a1, .ref a2, .ref a3, .ref a4, .ref a5, .ref a6, .ref a7, .long kn, .int fl, .int an])), (a4, .inl (0, 2400, .inl mf)), (b, .inl (0, N, .inl (va_cpy mf wf (f * 50) p 50)))] ∧ h'.1 = n ∧ h'.2.1 = sl ∧ ax_fr (fun x => x ∈ [b]) h h') := by
  show ax_A (ax_step L xs) ((103, 0, fr, lo), [(0, .ref tb), (1, .int (nI f)), (2, .ref b), (3, .int (nI p))], [], h) _
  have hbase : h.1 = n := hn
  have hbasl : h.2.1 = sl := hs
  have hf : ax_fr (fun x => x ∈ [b]) h h := ax_fr.rf
  refine ar_aload_n 1 d_103_0 rfl rfl ?_
  refine ar_getf 4 d_103_1 rfl (ci := 6) (k := 4) rfl (hF.at 0 rfl) rfl ?_
  refine ar_iload_n 5 d_103_4 rfl rfl ?_
  refine ar_bipush 7 (v := 50) d_103_5 rfl (by decide) ?_
  refine ar_imul 8 d_103_7 rfl ?_
  refine ar_top (x' := nI (f * 50)) (pk_mul f 50) ?_
  refine ar_aload_n 9 d_103_8 rfl rfl ?_
  refine ar_iload_n 10 d_103_9 rfl rfl ?_
  refine ar_bipush 12 (v := 50) d_103_10 rfl (by decide) ?_
  refine ar_copy 15 d_103_12 rfl rfl (by omega) (by show 0 + (nativeFrameWords "java/lang/System" "arraycopy" 5 + 11) ≤ lo; rw [nfw_copy]; omega) (hF.at 1 rfl) (hF.at 2 rfl) (Int32.not_lt.mpr (nI_le (Nat.zero_le _) (by omega))) (Int32.not_lt.mpr (nI_le (Nat.zero_le _) (by omega))) (by decide) (by rw [nI_clamp (by omega)]; show f * 50 + 50 ≤ 2400; omega) (by rw [nI_clamp (by omega)]; show p + 50 ≤ N; omega) ?_
  replace hF : ax_hs (ax_put h b (.inl (0, N, .inl (va_cpy mf wf ((nI (f * 50)).toNatClampNeg) ((nI p).toNatClampNeg) ((50 : Int32).toNatClampNeg))))) [(tb, .inr (6, [.int g, .ref a1, .ref a2, .ref a3, .ref a4, .ref a5, .ref a6, .ref a7, .long kn, .int fl, .int an])), (a4, .inl (0, 2400, .inl mf)), (b, .inl (0, N, .inl (va_cpy mf wf ((nI (f * 50)).toNatClampNeg) ((nI p).toNatClampNeg) ((50 : Int32).toNatClampNeg))))] := hF.put 2 _ rfl rfl
  replace hf := hf.put (a := b) (c := .inl (0, N, .inl (va_cpy mf wf ((nI (f * 50)).toNatClampNeg) ((nI p).toNatClampNeg) ((50 : Int32).toNatClampNeg)))) (by simp)
  replace hn : (ax_put h b (.inl (0, N, .inl (va_cpy mf wf ((nI (f * 50)).toNatClampNeg) ((nI p).toNatClampNeg) ((50 : Int32).toNatClampNeg))))).1 = n := hn
  replace hs : (ax_put h b (.inl (0, N, .inl (va_cpy mf wf ((nI (f * 50)).toNatClampNeg) ((nI p).toNatClampNeg) ((50 : Int32).toNatClampNeg))))).2.1 = sl := hs
  generalize ax_put h b (.inl (0, N, .inl (va_cpy mf wf ((nI (f * 50)).toNatClampNeg) ((nI p).toNatClampNeg) ((50 : Int32).toNatClampNeg)))) = h1 at hF hf hn hs ⊢
  rw [nI_clamp (show p < 2 ^ 31 by omega), nI_clamp (show f * 50 < 2 ^ 31 by omega)] at hF
  exact ar_ret d_103_15 rfl (⟨rfl, hF, hn, hs, hf⟩)
def addF (jf : Nat → Int32) : Nat → Nat → Nat
  | 0, i => i
  | k + 1, i => if jf i < 0 then i else addF jf k (i + 1)
theorem addF_le (jf : Nat → Int32) : ∀ (k i : Nat), i ≤ addF jf k i ∧ addF jf k i ≤ i + k
  | 0, i => ⟨Nat.le_refl _, Nat.le_refl _⟩
  | k + 1, i => by
    have ih := addF_le jf k (i + 1)
    unfold addF
    split <;> omega
theorem c_106 {L : Nat} {xs : Nat → Int32} {fr lo : Nat} {h : ax_H} {n sl : Nat} {tb a1 a2 a3 a4 a5 a6 a7 : Nat} {g fl an : Int32} {kn : Int64} {d : Nat} {jf fo : Nat → Int32} (hd : d < 512) (hF : ax_hs h [(tb, .inr (6, [.int g, .ref a1, .ref a2, .ref a3, .ref a4, .ref a5, .ref a6, .ref a7, .long kn, .int fl, .int an])), (a1, .inl (0, 48, .inl jf)), (a5, .inl (0, 512, .inl fo))]) (hn : h.1 = n) (hs : h.2.1 = sl) (hn0 : 0 < n) : ax_M L xs 106 fr lo [.ref tb, .int (nI d)] h (fun r h' => r = some (.int (nI (addF jf 47 0))) ∧ ax_hs h' [(tb, .inr (6, [.int g, .ref a1, .ref a2, .ref a3, .ref a4, .ref a5, .ref a6, .ref a7, .long (kn ||| (1 <<< ((nI (addF jf 47 0)).toInt64 &&& 63))), .int (fl + 1), .int an])), (a1, .inl (0, 48, .inl (upd jf (addF jf 47 0) (nI d)))), (a5, .inl (0, 512, .inl (upd fo d (nI (addF jf 47 0)))))] ∧ h'.1 = n ∧ h'.2.1 = sl ∧ ax_fr (fun x => x ∈ [tb, a1, a5]) h h') := by
  have key : ∀ (k i : Nat), i + k = 47 → ax_A (ax_step L xs) ((106, 2, fr, lo), [(0, .ref tb), (1, .int (nI d)), (2, .int (nI i))], [], h) (fun r h' => r = some (.int (nI (addF jf k i))) ∧ ax_hs h' [(tb, .inr (6, [.int g, .ref a1, .ref a2, .ref a3, .ref a4, .ref a5, .ref a6, .ref a7, .long (kn ||| (1 <<< ((nI (addF jf k i)).toInt64 &&& 63))), .int (fl + 1), .int an])), (a1, .inl (0, 48, .inl (upd jf (addF jf k i) (nI d)))), (a5, .inl (0, 512, .inl (upd fo d (nI (addF jf k i)))))] ∧ h'.1 = n ∧ h'.2.1 = sl ∧ ax_fr (fun x => x ∈ [tb, a1, a5]) h h') := by
    intro k
    induction k with
    | zero =>
      intro i hi
      have e0 : i = 47 := by omega
      subst e0
      show ax_A (ax_step L xs) ((106, 2, fr, lo), [(0, .ref tb), (1, .int (nI d)), (2, .int (nI 47))], [], h) (fun r h' => r = some (.int (nI 47)) ∧ ax_hs h' [(tb, .inr (6, [.int g, .ref a1, .ref a2, .ref a3, .ref a4, .ref a5, .ref a6, .ref a7, .long (kn ||| (1 <<< ((nI 47).toInt64 &&& 63))), .int (fl + 1), .int an])), (a1, .inl (0, 48, .inl (upd jf 47 (nI d)))), (a5, .inl (0, 512, .inl (upd fo d (nI 47))))] ∧ h'.1 = n ∧ h'.2.1 = sl ∧ ax_fr (fun x => x ∈ [tb, a1, a5]) h h')
      refine ar_iload_n 3 d_106_2 rfl rfl ?_
      refine ar_bipush 5 (v := 47) d_106_3 rfl (by decide) ?_
      refine ar_top (x' := nI 47) rfl ?_
      refine ar_icmp_ge 23 8 d_106_5 (by decide) rfl (fun _ => ?_) (fun c => absurd (Int32.le_refl _) c)
      have hbase : h.1 = n := hn
      have hbasl : h.2.1 = sl := hs
      have hf : ax_fr (fun x => x ∈ [tb, a1, a5]) h h := ax_fr.rf
      refine ar_aload_n 24 d_106_23 rfl rfl ?_
      refine ar_getf 27 d_106_24 rfl (ci := 6) (k := 1) rfl (hF.at 0 rfl) rfl ?_
      refine ar_iload_n 28 d_106_27 rfl rfl ?_
      refine ar_iload_n 29 d_106_28 rfl rfl ?_
      refine ar_iast 30 d_106_29 rfl (hF.at 1 rfl) (nI_in (by omega) (by omega)) ?_
      replace hF : ax_hs (ax_put h a1 (.inl (0, 48, .inl (upd jf (nI 47).toNatClampNeg (nI d))))) [(tb, .inr (6, [.int g, .ref a1, .ref a2, .ref a3, .ref a4, .ref a5, .ref a6, .ref a7, .long kn, .int fl, .int an])), (a1, .inl (0, 48, .inl (upd jf (nI 47).toNatClampNeg (nI d)))), (a5, .inl (0, 512, .inl fo))] := hF.put 1 _ rfl rfl
      replace hf := hf.put (a := a1) (c := .inl (0, 48, .inl (upd jf (nI 47).toNatClampNeg (nI d)))) (by simp)
      replace hn : (ax_put h a1 (.inl (0, 48, .inl (upd jf (nI 47).toNatClampNeg (nI d))))).1 = n := hn
      replace hs : (ax_put h a1 (.inl (0, 48, .inl (upd jf (nI 47).toNatClampNeg (nI d))))).2.1 = sl := hs
      generalize ax_put h a1 (.inl (0, 48, .inl (upd jf (nI 47).toNatClampNeg (nI d)))) = h1 at hF hf hn hs ⊢
      refine ar_aload_n 31 d_106_30 rfl rfl ?_
      refine ar_getf 34 d_106_31 rfl (ci := 6) (k := 5) rfl (hF.at 0 rfl) rfl ?_
      refine ar_iload_n 35 d_106_34 rfl rfl ?_
      refine ar_iload_n 36 d_106_35 rfl rfl ?_
      refine ar_iast 37 d_106_36 rfl (hF.at 2 rfl) (nI_in (by omega) (by omega)) ?_
      replace hF : ax_hs (ax_put h1 a5 (.inl (0, 512, .inl (upd fo (nI d).toNatClampNeg (nI 47))))) [(tb, .inr (6, [.int g, .ref a1, .ref a2, .ref a3, .ref a4, .ref a5, .ref a6, .ref a7, .long kn, .int fl, .int an])), (a1, .inl (0, 48, .inl (upd jf (nI 47).toNatClampNeg (nI d)))), (a5, .inl (0, 512, .inl (upd fo (nI d).toNatClampNeg (nI 47))))] := hF.put 2 _ rfl rfl
      replace hf := hf.put (a := a5) (c := .inl (0, 512, .inl (upd fo (nI d).toNatClampNeg (nI 47)))) (by simp)
      replace hn : (ax_put h1 a5 (.inl (0, 512, .inl (upd fo (nI d).toNatClampNeg (nI 47))))).1 = n := hn
      replace hs : (ax_put h1 a5 (.inl (0, 512, .inl (upd fo (nI d).toNatClampNeg (nI 47))))).2.1 = sl := hs
      generalize ax_put h1 a5 (.inl (0, 512, .inl (upd fo (nI d).toNatClampNeg (nI 47)))) = h2 at hF hf hn hs ⊢
      refine ar_aload_n 38 d_106_37 rfl rfl ?_
      refine ar_dup 39 d_106_38 rfl rfl ?_
      refine ar_getf 42 d_106_39 rfl (ci := 6) (k := 8) rfl (hF.at 0 rfl) rfl ?_
      refine ar_lconst 43 (v := 1) d_106_42 rfl (by decide) ?_
      refine ar_iload_n 44 d_106_43 rfl rfl ?_
      refine ar_lshl 45 d_106_44 rfl ?_
      refine ar_lor 46 d_106_45 rfl ?_
      refine ar_putf 49 [.int g, .ref a1, .ref a2, .ref a3, .ref a4, .ref a5, .ref a6, .ref a7, .long (kn ||| (1 <<< ((nI 47).toInt64 &&& 63))), .int fl, .int an] d_106_46 rfl (ci := 6) (k := 8) rfl rfl (hF.at 0 rfl) (Nat.le_of_ble_eq_true rfl) rfl rfl rfl ?_
      replace hF : ax_hs (ax_put h2 tb (.inr (6, [.int g, .ref a1, .ref a2, .ref a3, .ref a4, .ref a5, .ref a6, .ref a7, .long (kn ||| (1 <<< ((nI 47).toInt64 &&& 63))), .int fl, .int an]))) [(tb, .inr (6, [.int g, .ref a1, .ref a2, .ref a3, .ref a4, .ref a5, .ref a6, .ref a7, .long (kn ||| (1 <<< ((nI 47).toInt64 &&& 63))), .int fl, .int an])), (a1, .inl (0, 48, .inl (upd jf (nI 47).toNatClampNeg (nI d)))), (a5, .inl (0, 512, .inl (upd fo (nI d).toNatClampNeg (nI 47))))] := hF.put 0 _ rfl rfl
      replace hf := hf.put (a := tb) (c := .inr (6, [.int g, .ref a1, .ref a2, .ref a3, .ref a4, .ref a5, .ref a6, .ref a7, .long (kn ||| (1 <<< ((nI 47).toInt64 &&& 63))), .int fl, .int an])) (by simp)
      replace hn : (ax_put h2 tb (.inr (6, [.int g, .ref a1, .ref a2, .ref a3, .ref a4, .ref a5, .ref a6, .ref a7, .long (kn ||| (1 <<< ((nI 47).toInt64 &&& 63))), .int fl, .int an]))).1 = n := hn
      replace hs : (ax_put h2 tb (.inr (6, [.int g, .ref a1, .ref a2, .ref a3, .ref a4, .ref a5, .ref a6, .ref a7, .long (kn ||| (1 <<< ((nI 47).toInt64 &&& 63))), .int fl, .int an]))).2.1 = sl := hs
      generalize ax_put h2 tb (.inr (6, [.int g, .ref a1, .ref a2, .ref a3, .ref a4, .ref a5, .ref a6, .ref a7, .long (kn ||| (1 <<< ((nI 47).toInt64 &&& 63))), .int fl, .int an])) = h3 at hF hf hn hs ⊢
      refine ar_aload_n 50 d_106_49 rfl rfl ?_
      refine ar_dup 51 d_106_50 rfl rfl ?_
      refine ar_getf 54 d_106_51 rfl (ci := 6) (k := 9) rfl (hF.at 0 rfl) rfl ?_
      refine ar_iconst 55 (v := 1) d_106_54 rfl (by decide) ?_
      refine ar_iadd 56 d_106_55 rfl ?_
      refine ar_putf 59 [.int g, .ref a1, .ref a2, .ref a3, .ref a4, .ref a5, .ref a6, .ref a7, .long (kn ||| (1 <<< ((nI 47).toInt64 &&& 63))), .int (fl + 1), .int an] d_106_56 rfl (ci := 6) (k := 9) rfl rfl (hF.at 0 rfl) (Nat.le_of_ble_eq_true rfl) rfl rfl rfl ?_
      replace hF : ax_hs (ax_put h3 tb (.inr (6, [.int g, .ref a1, .ref a2, .ref a3, .ref a4, .ref a5, .ref a6, .ref a7, .long (kn ||| (1 <<< ((nI 47).toInt64 &&& 63))), .int (fl + 1), .int an]))) [(tb, .inr (6, [.int g, .ref a1, .ref a2, .ref a3, .ref a4, .ref a5, .ref a6, .ref a7, .long (kn ||| (1 <<< ((nI 47).toInt64 &&& 63))), .int (fl + 1), .int an])), (a1, .inl (0, 48, .inl (upd jf (nI 47).toNatClampNeg (nI d)))), (a5, .inl (0, 512, .inl (upd fo (nI d).toNatClampNeg (nI 47))))] := hF.put 0 _ rfl rfl
      replace hf := hf.put (a := tb) (c := .inr (6, [.int g, .ref a1, .ref a2, .ref a3, .ref a4, .ref a5, .ref a6, .ref a7, .long (kn ||| (1 <<< ((nI 47).toInt64 &&& 63))), .int (fl + 1), .int an])) (by simp)
      replace hn : (ax_put h3 tb (.inr (6, [.int g, .ref a1, .ref a2, .ref a3, .ref a4, .ref a5, .ref a6, .ref a7, .long (kn ||| (1 <<< ((nI 47).toInt64 &&& 63))), .int (fl + 1), .int an]))).1 = n := hn
      replace hs : (ax_put h3 tb (.inr (6, [.int g, .ref a1, .ref a2, .ref a3, .ref a4, .ref a5, .ref a6, .ref a7, .long (kn ||| (1 <<< ((nI 47).toInt64 &&& 63))), .int (fl + 1), .int an]))).2.1 = sl := hs
      generalize ax_put h3 tb (.inr (6, [.int g, .ref a1, .ref a2, .ref a3, .ref a4, .ref a5, .ref a6, .ref a7, .long (kn ||| (1 <<< ((nI 47).toInt64 &&& 63))), .int (fl + 1), .int an])) = h4 at hF hf hn hs ⊢
      refine ar_iload_n 60 d_106_59 rfl rfl ?_
      rw [nI_clamp (show 47 < 2 ^ 31 by omega), nI_clamp (show d < 2 ^ 31 by omega)] at hF
      exact ar_iret d_106_60 rfl rfl (⟨rfl, hF, hn, hs, hf⟩)
    | succ k ih =>
      intro i hi
      have hi9 : i < 47 := by omega
      refine ar_iload_n 3 d_106_2 rfl rfl ?_
      refine ar_bipush 5 (v := 47) d_106_3 rfl (by decide) ?_
      refine ar_top (x' := nI 47) rfl ?_
      refine ar_icmp_ge 23 8 d_106_5 (by decide) rfl (fun c => absurd c (nI_ge hi9 (by omega))) (fun _ => ?_)
      refine ar_aload_n 9 d_106_8 rfl rfl ?_
      refine ar_getf 12 d_106_9 rfl (ci := 6) (k := 1) rfl (hF.at 0 rfl) rfl ?_
      refine ar_iload_n 13 d_106_12 rfl rfl ?_
      refine ar_iald 14 d_106_13 rfl (hF.at 1 rfl) (nI_in (by omega) (by omega)) ?_
      refine ar_top (x' := jf i) (by rw [nI_clamp (by omega)]) ?_
      refine ar_if_lt 23 17 d_106_14 (by decide) rfl (fun c1 => ?_) (fun c1 => ?_)
      · rw [show addF jf (k + 1) i = i from if_pos c1]
        have hbase : h.1 = n := hn
        have hbasl : h.2.1 = sl := hs
        have hf : ax_fr (fun x => x ∈ [tb, a1, a5]) h h := ax_fr.rf
        refine ar_aload_n 24 d_106_23 rfl rfl ?_
        refine ar_getf 27 d_106_24 rfl (ci := 6) (k := 1) rfl (hF.at 0 rfl) rfl ?_
        refine ar_iload_n 28 d_106_27 rfl rfl ?_
        refine ar_iload_n 29 d_106_28 rfl rfl ?_
        refine ar_iast 30 d_106_29 rfl (hF.at 1 rfl) (nI_in (by omega) (by omega)) ?_
        replace hF : ax_hs (ax_put h a1 (.inl (0, 48, .inl (upd jf (nI i).toNatClampNeg (nI d))))) [(tb, .inr (6, [.int g, .ref a1, .ref a2, .ref a3, .ref a4, .ref a5, .ref a6, .ref a7, .long kn, .int fl, .int an])), (a1, .inl (0, 48, .inl (upd jf (nI i).toNatClampNeg (nI d)))), (a5, .inl (0, 512, .inl fo))] := hF.put 1 _ rfl rfl
        replace hf := hf.put (a := a1) (c := .inl (0, 48, .inl (upd jf (nI i).toNatClampNeg (nI d)))) (by simp)
        replace hn : (ax_put h a1 (.inl (0, 48, .inl (upd jf (nI i).toNatClampNeg (nI d))))).1 = n := hn
        replace hs : (ax_put h a1 (.inl (0, 48, .inl (upd jf (nI i).toNatClampNeg (nI d))))).2.1 = sl := hs
        generalize ax_put h a1 (.inl (0, 48, .inl (upd jf (nI i).toNatClampNeg (nI d)))) = h1 at hF hf hn hs ⊢
        refine ar_aload_n 31 d_106_30 rfl rfl ?_
        refine ar_getf 34 d_106_31 rfl (ci := 6) (k := 5) rfl (hF.at 0 rfl) rfl ?_
        refine ar_iload_n 35 d_106_34 rfl rfl ?_
        refine ar_iload_n 36 d_106_35 rfl rfl ?_
        refine ar_iast 37 d_106_36 rfl (hF.at 2 rfl) (nI_in (by omega) (by omega)) ?_
        replace hF : ax_hs (ax_put h1 a5 (.inl (0, 512, .inl (upd fo (nI d).toNatClampNeg (nI i))))) [(tb, .inr (6, [.int g, .ref a1, .ref a2, .ref a3, .ref a4, .ref a5, .ref a6, .ref a7, .long kn, .int fl, .int an])), (a1, .inl (0, 48, .inl (upd jf (nI i).toNatClampNeg (nI d)))), (a5, .inl (0, 512, .inl (upd fo (nI d).toNatClampNeg (nI i))))] := hF.put 2 _ rfl rfl
        replace hf := hf.put (a := a5) (c := .inl (0, 512, .inl (upd fo (nI d).toNatClampNeg (nI i)))) (by simp)
        replace hn : (ax_put h1 a5 (.inl (0, 512, .inl (upd fo (nI d).toNatClampNeg (nI i))))).1 = n := hn
        replace hs : (ax_put h1 a5 (.inl (0, 512, .inl (upd fo (nI d).toNatClampNeg (nI i))))).2.1 = sl := hs
        generalize ax_put h1 a5 (.inl (0, 512, .inl (upd fo (nI d).toNatClampNeg (nI i)))) = h2 at hF hf hn hs ⊢
        refine ar_aload_n 38 d_106_37 rfl rfl ?_
        refine ar_dup 39 d_106_38 rfl rfl ?_
        refine ar_getf 42 d_106_39 rfl (ci := 6) (k := 8) rfl (hF.at 0 rfl) rfl ?_
        refine ar_lconst 43 (v := 1) d_106_42 rfl (by decide) ?_
        refine ar_iload_n 44 d_106_43 rfl rfl ?_
        refine ar_lshl 45 d_106_44 rfl ?_
        refine ar_lor 46 d_106_45 rfl ?_
        refine ar_putf 49 [.int g, .ref a1, .ref a2, .ref a3, .ref a4, .ref a5, .ref a6, .ref a7, .long (kn ||| (1 <<< ((nI i).toInt64 &&& 63))), .int fl, .int an] d_106_46 rfl (ci := 6) (k := 8) rfl rfl (hF.at 0 rfl) (Nat.le_of_ble_eq_true rfl) rfl rfl rfl ?_
        replace hF : ax_hs (ax_put h2 tb (.inr (6, [.int g, .ref a1, .ref a2, .ref a3, .ref a4, .ref a5, .ref a6, .ref a7, .long (kn ||| (1 <<< ((nI i).toInt64 &&& 63))), .int fl, .int an]))) [(tb, .inr (6, [.int g, .ref a1, .ref a2, .ref a3, .ref a4, .ref a5, .ref a6, .ref a7, .long (kn ||| (1 <<< ((nI i).toInt64 &&& 63))), .int fl, .int an])), (a1, .inl (0, 48, .inl (upd jf (nI i).toNatClampNeg (nI d)))), (a5, .inl (0, 512, .inl (upd fo (nI d).toNatClampNeg (nI i))))] := hF.put 0 _ rfl rfl
        replace hf := hf.put (a := tb) (c := .inr (6, [.int g, .ref a1, .ref a2, .ref a3, .ref a4, .ref a5, .ref a6, .ref a7, .long (kn ||| (1 <<< ((nI i).toInt64 &&& 63))), .int fl, .int an])) (by simp)
        replace hn : (ax_put h2 tb (.inr (6, [.int g, .ref a1, .ref a2, .ref a3, .ref a4, .ref a5, .ref a6, .ref a7, .long (kn ||| (1 <<< ((nI i).toInt64 &&& 63))), .int fl, .int an]))).1 = n := hn
        replace hs : (ax_put h2 tb (.inr (6, [.int g, .ref a1, .ref a2, .ref a3, .ref a4, .ref a5, .ref a6, .ref a7, .long (kn ||| (1 <<< ((nI i).toInt64 &&& 63))), .int fl, .int an]))).2.1 = sl := hs
        generalize ax_put h2 tb (.inr (6, [.int g, .ref a1, .ref a2, .ref a3, .ref a4, .ref a5, .ref a6, .ref a7, .long (kn ||| (1 <<< ((nI i).toInt64 &&& 63))), .int fl, .int an])) = h3 at hF hf hn hs ⊢
        refine ar_aload_n 50 d_106_49 rfl rfl ?_
        refine ar_dup 51 d_106_50 rfl rfl ?_
        refine ar_getf 54 d_106_51 rfl (ci := 6) (k := 9) rfl (hF.at 0 rfl) rfl ?_
        refine ar_iconst 55 (v := 1) d_106_54 rfl (by decide) ?_
        refine ar_iadd 56 d_106_55 rfl ?_
        refine ar_putf 59 [.int g, .ref a1, .ref a2, .ref a3, .ref a4, .ref a5, .ref a6, .ref a7, .long (kn ||| (1 <<< ((nI i).toInt64 &&& 63))), .int (fl + 1), .int an] d_106_56 rfl (ci := 6) (k := 9) rfl rfl (hF.at 0 rfl) (Nat.le_of_ble_eq_true rfl) rfl rfl rfl ?_
        replace hF : ax_hs (ax_put h3 tb (.inr (6, [.int g, .ref a1, .ref a2, .ref a3, .ref a4, .ref a5, .ref a6, .ref a7, .long (kn ||| (1 <<< ((nI i).toInt64 &&& 63))), .int (fl + 1), .int an]))) [(tb, .inr (6, [.int g, .ref a1, .ref a2, .ref a3, .ref a4, .ref a5, .ref a6, .ref a7, .long (kn ||| (1 <<< ((nI i).toInt64 &&& 63))), .int (fl + 1), .int an])), (a1, .inl (0, 48, .inl (upd jf (nI i).toNatClampNeg (nI d)))), (a5, .inl (0, 512, .inl (upd fo (nI d).toNatClampNeg (nI i))))] := hF.put 0 _ rfl rfl
        replace hf := hf.put (a := tb) (c := .inr (6, [.int g, .ref a1, .ref a2, .ref a3, .ref a4, .ref a5, .ref a6, .ref a7, .long (kn ||| (1 <<< ((nI i).toInt64 &&& 63))), .int (fl + 1), .int an])) (by simp)
        replace hn : (ax_put h3 tb (.inr (6, [.int g, .ref a1, .ref a2, .ref a3, .ref a4, .ref a5, .ref a6, .ref a7, .long (kn ||| (1 <<< ((nI i).toInt64 &&& 63))), .int (fl + 1), .int an]))).1 = n := hn
        replace hs : (ax_put h3 tb (.inr (6, [.int g, .ref a1, .ref a2, .ref a3, .ref a4, .ref a5, .ref a6, .ref a7, .long (kn ||| (1 <<< ((nI i).toInt64 &&& 63))), .int (fl + 1), .int an]))).2.1 = sl := hs
        generalize ax_put h3 tb (.inr (6, [.int g, .ref a1, .ref a2, .ref a3, .ref a4, .ref a5, .ref a6, .ref a7, .long (kn ||| (1 <<< ((nI i).toInt64 &&& 63))), .int (fl + 1), .int an])) = h4 at hF hf hn hs ⊢
        refine ar_iload_n 60 d_106_59 rfl rfl ?_
        rw [nI_clamp (show i < 2 ^ 31 by omega), nI_clamp (show d < 2 ^ 31 by omega)] at hF
        exact ar_iret d_106_60 rfl rfl (⟨rfl, hF, hn, hs, hf⟩)
      · refine ar_iinc 20 [(0, .ref tb), (1, .int (nI d)), (2, .int (nI (i + 1)))] d_106_17 rfl rfl (nI_1 i) (by decide) rfl ?_
        refine ar_goto 2 d_106_20 (by decide) ?_
        rw [show addF jf (k + 1) i = addF jf k (i + 1) from if_neg c1]
        exact ih (i + 1) (by omega)
  show ax_A (ax_step L xs) ((106, 0, fr, lo), [(0, .ref tb), (1, .int (nI d))], [], h) _
  refine ar_iconst 1 (v := 0) d_106_0 rfl (by decide) ?_
  refine ar_istore_n 2 [(0, .ref tb), (1, .int (nI d)), (2, .int 0)] d_106_1 rfl (by decide) rfl ?_
  exact key 47 0 (by omega)
theorem c_111 {L : Nat} {xs : Nat → Int32} {fr lo : Nat} {h : ax_H} {n sl : Nat} {tb a1 a2 a3 a4 a5 a6 a7 : Nat} {g fl an : Int32} {kn : Int64} {f : Nat} {jf zf fo vf : Nat → Int32} (hfr : 2 ≤ fr) (hlo : 60 ≤ lo) (hf0 : f < 48) (hj0 : ¬ jf f < 0) (hj1 : (jf f).toNatClampNeg < 512) (hF : ax_hs h [(tb, .inr (6, [.int g, .ref a1, .ref a2, .ref a3, .ref a4, .ref a5, .ref a6, .ref a7, .long kn, .int fl, .int an])), (a1, .inl (0, 48, .inl jf)), (a2, .inl (0, 48, .inl zf)), (a5, .inl (0, 512, .inl fo)), (a6, .inl (0, 961, .inl vf))]) (hn : h.1 = n) (hs : h.2.1 = sl) (hn0 : 0 < n) : ax_M L xs 111 fr lo [.ref tb, .int (nI f)] h (fun r h' => r = none ∧ ax_hs h' [(tb, .inr (6, [.int g, .ref a1, .ref a2, .ref a3, .ref a4, .ref a5, .ref a6, .ref a7, .long (kn &&& ((1 <<< ((nI f).toInt64 &&& 63)) ^^^ (-1))), .int (fl - 1), .int an])), (a1, .inl (0, 48, .inl (upd jf f (-1)))), (a2, .inl (0, 48, .inl (upd zf f 0))), (a5, .inl (0, 512, .inl (upd fo (jf f).toNatClampNeg (-1)))), (a6, .inl (0, 961, .inl (ax_fill vf (f * 20) ((f + 1) * 20) (-1))))] ∧ h'.1 = n ∧ h'.2.1 = sl ∧ ax_fr (fun x => x ∈ [tb, a1, a2, a5, a6]) h h') := by
  show ax_A (ax_step L xs) ((111, 0, fr, lo), [(0, .ref tb), (1, .int (nI f))], [], h) _
  have hbase : h.1 = n := hn
  have hbasl : h.2.1 = sl := hs
  have hf : ax_fr (fun x => x ∈ [tb, a1, a2, a5, a6]) h h := ax_fr.rf
  refine ar_aload_n 1 d_111_0 rfl rfl ?_
  refine ar_getf 4 d_111_1 rfl (ci := 6) (k := 5) rfl (hF.at 0 rfl) rfl ?_
  refine ar_aload_n 5 d_111_4 rfl rfl ?_
  refine ar_getf 8 d_111_5 rfl (ci := 6) (k := 1) rfl (hF.at 0 rfl) rfl ?_
  refine ar_iload_n 9 d_111_8 rfl rfl ?_
  refine ar_iald 10 d_111_9 rfl (hF.at 1 rfl) (nI_in (by omega) (by omega)) ?_
  refine ar_top (x' := jf f) (by rw [nI_clamp (by omega)]) ?_
  refine ar_iconst 11 (v := -1) d_111_10 rfl (by decide) ?_
  refine ar_iast 12 d_111_11 rfl (hF.at 3 rfl) (by rw [nI_cl hj0]; exact nI_in hj1 (by omega)) ?_
  replace hF : ax_hs (ax_put h a5 (.inl (0, 512, .inl (upd fo (jf f).toNatClampNeg (-1))))) [(tb, .inr (6, [.int g, .ref a1, .ref a2, .ref a3, .ref a4, .ref a5, .ref a6, .ref a7, .long kn, .int fl, .int an])), (a1, .inl (0, 48, .inl jf)), (a2, .inl (0, 48, .inl zf)), (a5, .inl (0, 512, .inl (upd fo (jf f).toNatClampNeg (-1)))), (a6, .inl (0, 961, .inl vf))] := hF.put 3 _ rfl rfl
  replace hf := hf.put (a := a5) (c := .inl (0, 512, .inl (upd fo (jf f).toNatClampNeg (-1)))) (by simp)
  replace hn : (ax_put h a5 (.inl (0, 512, .inl (upd fo (jf f).toNatClampNeg (-1))))).1 = n := hn
  replace hs : (ax_put h a5 (.inl (0, 512, .inl (upd fo (jf f).toNatClampNeg (-1))))).2.1 = sl := hs
  generalize ax_put h a5 (.inl (0, 512, .inl (upd fo (jf f).toNatClampNeg (-1)))) = h1 at hF hf hn hs ⊢
  refine ar_aload_n 13 d_111_12 rfl rfl ?_
  refine ar_getf 16 d_111_13 rfl (ci := 6) (k := 1) rfl (hF.at 0 rfl) rfl ?_
  refine ar_iload_n 17 d_111_16 rfl rfl ?_
  refine ar_iconst 18 (v := -1) d_111_17 rfl (by decide) ?_
  refine ar_iast 19 d_111_18 rfl (hF.at 1 rfl) (nI_in (by omega) (by omega)) ?_
  replace hF : ax_hs (ax_put h1 a1 (.inl (0, 48, .inl (upd jf (nI f).toNatClampNeg (-1))))) [(tb, .inr (6, [.int g, .ref a1, .ref a2, .ref a3, .ref a4, .ref a5, .ref a6, .ref a7, .long kn, .int fl, .int an])), (a1, .inl (0, 48, .inl (upd jf (nI f).toNatClampNeg (-1)))), (a2, .inl (0, 48, .inl zf)), (a5, .inl (0, 512, .inl (upd fo (jf f).toNatClampNeg (-1)))), (a6, .inl (0, 961, .inl vf))] := hF.put 1 _ rfl rfl
  replace hf := hf.put (a := a1) (c := .inl (0, 48, .inl (upd jf (nI f).toNatClampNeg (-1)))) (by simp)
  replace hn : (ax_put h1 a1 (.inl (0, 48, .inl (upd jf (nI f).toNatClampNeg (-1))))).1 = n := hn
  replace hs : (ax_put h1 a1 (.inl (0, 48, .inl (upd jf (nI f).toNatClampNeg (-1))))).2.1 = sl := hs
  generalize ax_put h1 a1 (.inl (0, 48, .inl (upd jf (nI f).toNatClampNeg (-1)))) = h2 at hF hf hn hs ⊢
  refine ar_aload_n 20 d_111_19 rfl rfl ?_
  refine ar_getf 23 d_111_20 rfl (ci := 6) (k := 2) rfl (hF.at 0 rfl) rfl ?_
  refine ar_iload_n 24 d_111_23 rfl rfl ?_
  refine ar_iconst 25 (v := 0) d_111_24 rfl (by decide) ?_
  refine ar_iast 26 d_111_25 rfl (hF.at 2 rfl) (nI_in (by omega) (by omega)) ?_
  replace hF : ax_hs (ax_put h2 a2 (.inl (0, 48, .inl (upd zf (nI f).toNatClampNeg 0)))) [(tb, .inr (6, [.int g, .ref a1, .ref a2, .ref a3, .ref a4, .ref a5, .ref a6, .ref a7, .long kn, .int fl, .int an])), (a1, .inl (0, 48, .inl (upd jf (nI f).toNatClampNeg (-1)))), (a2, .inl (0, 48, .inl (upd zf (nI f).toNatClampNeg 0))), (a5, .inl (0, 512, .inl (upd fo (jf f).toNatClampNeg (-1)))), (a6, .inl (0, 961, .inl vf))] := hF.put 2 _ rfl rfl
  replace hf := hf.put (a := a2) (c := .inl (0, 48, .inl (upd zf (nI f).toNatClampNeg 0))) (by simp)
  replace hn : (ax_put h2 a2 (.inl (0, 48, .inl (upd zf (nI f).toNatClampNeg 0)))).1 = n := hn
  replace hs : (ax_put h2 a2 (.inl (0, 48, .inl (upd zf (nI f).toNatClampNeg 0)))).2.1 = sl := hs
  generalize ax_put h2 a2 (.inl (0, 48, .inl (upd zf (nI f).toNatClampNeg 0))) = h3 at hF hf hn hs ⊢
  refine ar_aload_n 27 d_111_26 rfl rfl ?_
  refine ar_getf 30 d_111_27 rfl (ci := 6) (k := 6) rfl (hF.at 0 rfl) rfl ?_
  refine ar_iload_n 31 d_111_30 rfl rfl ?_
  refine ar_bipush 33 (v := 20) d_111_31 rfl (by decide) ?_
  refine ar_imul 34 d_111_33 rfl ?_
  refine ar_top (x' := nI (f * 20)) (pk_mul f 20) ?_
  refine ar_iload_n 35 d_111_34 rfl rfl ?_
  refine ar_iconst 36 (v := 1) d_111_35 rfl (by decide) ?_
  refine ar_iadd 37 d_111_36 rfl ?_
  refine ar_top (x' := nI (f + 1)) (nI_1 f) ?_
  refine ar_bipush 39 (v := 20) d_111_37 rfl (by decide) ?_
  refine ar_imul 40 d_111_39 rfl ?_
  refine ar_top (x' := nI ((f + 1) * 20)) (pk_mul (f + 1) 20) ?_
  refine ar_iconst 41 (v := -1) d_111_40 rfl (by decide) ?_
  refine ar_call (r := []) (na := 0) (kd := 0) (cm := 27) (fr2 := fr - 1) (lo2 := lo - 24) 44 d_111_41 (ar_hoS (as := [.ref a6, .int (nI (f * 20)), .int (nI ((f + 1) * 20)), .int (-1)]) rfl rfl rfl) rfl (by omega) (show lo - 24 + (19 + 5) = lo by omega) (Nat.le_of_ble_eq_true rfl) (Nat.le_of_ble_eq_true rfl) (c_27 (by omega) (by omega) (hF.at 4 rfl) (by decide) (by omega) (by omega)) ?_
  intro v hh hq
  obtain ⟨rfl, rfl⟩ := hq
  replace hF : ax_hs (ax_put h3 a6 (.inl (0, 961, .inl (ax_fill vf (f * 20) ((f + 1) * 20) (-1))))) [(tb, .inr (6, [.int g, .ref a1, .ref a2, .ref a3, .ref a4, .ref a5, .ref a6, .ref a7, .long kn, .int fl, .int an])), (a1, .inl (0, 48, .inl (upd jf (nI f).toNatClampNeg (-1)))), (a2, .inl (0, 48, .inl (upd zf (nI f).toNatClampNeg 0))), (a5, .inl (0, 512, .inl (upd fo (jf f).toNatClampNeg (-1)))), (a6, .inl (0, 961, .inl (ax_fill vf (f * 20) ((f + 1) * 20) (-1))))] := hF.put 4 _ rfl rfl
  replace hf := hf.put (a := a6) (c := .inl (0, 961, .inl (ax_fill vf (f * 20) ((f + 1) * 20) (-1)))) (by simp)
  replace hn : (ax_put h3 a6 (.inl (0, 961, .inl (ax_fill vf (f * 20) ((f + 1) * 20) (-1))))).1 = n := hn
  replace hs : (ax_put h3 a6 (.inl (0, 961, .inl (ax_fill vf (f * 20) ((f + 1) * 20) (-1))))).2.1 = sl := hs
  generalize ax_put h3 a6 (.inl (0, 961, .inl (ax_fill vf (f * 20) ((f + 1) * 20) (-1)))) = h4 at hF hf hn hs ⊢
  refine ar_aload_n 45 d_111_44 rfl rfl ?_
  refine ar_dup 46 d_111_45 rfl rfl ?_
  refine ar_getf 49 d_111_46 rfl (ci := 6) (k := 8) rfl (hF.at 0 rfl) rfl ?_
  refine ar_lconst 50 (v := 1) d_111_49 rfl (by decide) ?_
  refine ar_iload_n 51 d_111_50 rfl rfl ?_
  refine ar_lshl 52 d_111_51 rfl ?_
  refine ar_ldc2_w 55 d_111_52 rfl (v := -1) rfl ?_
  refine ar_lxor 56 d_111_55 rfl ?_
  refine ar_land 57 d_111_56 rfl ?_
  refine ar_putf 60 [.int g, .ref a1, .ref a2, .ref a3, .ref a4, .ref a5, .ref a6, .ref a7, .long (kn &&& ((1 <<< ((nI f).toInt64 &&& 63)) ^^^ (-1))), .int fl, .int an] d_111_57 rfl (ci := 6) (k := 8) rfl rfl (hF.at 0 rfl) (Nat.le_of_ble_eq_true rfl) rfl rfl rfl ?_
  replace hF : ax_hs (ax_put h4 tb (.inr (6, [.int g, .ref a1, .ref a2, .ref a3, .ref a4, .ref a5, .ref a6, .ref a7, .long (kn &&& ((1 <<< ((nI f).toInt64 &&& 63)) ^^^ (-1))), .int fl, .int an]))) [(tb, .inr (6, [.int g, .ref a1, .ref a2, .ref a3, .ref a4, .ref a5, .ref a6, .ref a7, .long (kn &&& ((1 <<< ((nI f).toInt64 &&& 63)) ^^^ (-1))), .int fl, .int an])), (a1, .inl (0, 48, .inl (upd jf (nI f).toNatClampNeg (-1)))), (a2, .inl (0, 48, .inl (upd zf (nI f).toNatClampNeg 0))), (a5, .inl (0, 512, .inl (upd fo (jf f).toNatClampNeg (-1)))), (a6, .inl (0, 961, .inl (ax_fill vf (f * 20) ((f + 1) * 20) (-1))))] := hF.put 0 _ rfl rfl
  replace hf := hf.put (a := tb) (c := .inr (6, [.int g, .ref a1, .ref a2, .ref a3, .ref a4, .ref a5, .ref a6, .ref a7, .long (kn &&& ((1 <<< ((nI f).toInt64 &&& 63)) ^^^ (-1))), .int fl, .int an])) (by simp)
  replace hn : (ax_put h4 tb (.inr (6, [.int g, .ref a1, .ref a2, .ref a3, .ref a4, .ref a5, .ref a6, .ref a7, .long (kn &&& ((1 <<< ((nI f).toInt64 &&& 63)) ^^^ (-1))), .int fl, .int an]))).1 = n := hn
  replace hs : (ax_put h4 tb (.inr (6, [.int g, .ref a1, .ref a2, .ref a3, .ref a4, .ref a5, .ref a6, .ref a7, .long (kn &&& ((1 <<< ((nI f).toInt64 &&& 63)) ^^^ (-1))), .int fl, .int an]))).2.1 = sl := hs
  generalize ax_put h4 tb (.inr (6, [.int g, .ref a1, .ref a2, .ref a3, .ref a4, .ref a5, .ref a6, .ref a7, .long (kn &&& ((1 <<< ((nI f).toInt64 &&& 63)) ^^^ (-1))), .int fl, .int an])) = h5 at hF hf hn hs ⊢
  refine ar_aload_n 61 d_111_60 rfl rfl ?_
  refine ar_dup 62 d_111_61 rfl rfl ?_
  refine ar_getf 65 d_111_62 rfl (ci := 6) (k := 9) rfl (hF.at 0 rfl) rfl ?_
  refine ar_iconst 66 (v := 1) d_111_65 rfl (by decide) ?_
  refine ar_isub 67 d_111_66 rfl ?_
  refine ar_putf 70 [.int g, .ref a1, .ref a2, .ref a3, .ref a4, .ref a5, .ref a6, .ref a7, .long (kn &&& ((1 <<< ((nI f).toInt64 &&& 63)) ^^^ (-1))), .int (fl - 1), .int an] d_111_67 rfl (ci := 6) (k := 9) rfl rfl (hF.at 0 rfl) (Nat.le_of_ble_eq_true rfl) rfl rfl rfl ?_
  replace hF : ax_hs (ax_put h5 tb (.inr (6, [.int g, .ref a1, .ref a2, .ref a3, .ref a4, .ref a5, .ref a6, .ref a7, .long (kn &&& ((1 <<< ((nI f).toInt64 &&& 63)) ^^^ (-1))), .int (fl - 1), .int an]))) [(tb, .inr (6, [.int g, .ref a1, .ref a2, .ref a3, .ref a4, .ref a5, .ref a6, .ref a7, .long (kn &&& ((1 <<< ((nI f).toInt64 &&& 63)) ^^^ (-1))), .int (fl - 1), .int an])), (a1, .inl (0, 48, .inl (upd jf (nI f).toNatClampNeg (-1)))), (a2, .inl (0, 48, .inl (upd zf (nI f).toNatClampNeg 0))), (a5, .inl (0, 512, .inl (upd fo (jf f).toNatClampNeg (-1)))), (a6, .inl (0, 961, .inl (ax_fill vf (f * 20) ((f + 1) * 20) (-1))))] := hF.put 0 _ rfl rfl
  replace hf := hf.put (a := tb) (c := .inr (6, [.int g, .ref a1, .ref a2, .ref a3, .ref a4, .ref a5, .ref a6, .ref a7, .long (kn &&& ((1 <<< ((nI f).toInt64 &&& 63)) ^^^ (-1))), .int (fl - 1), .int an])) (by simp)
  replace hn : (ax_put h5 tb (.inr (6, [.int g, .ref a1, .ref a2, .ref a3, .ref a4, .ref a5, .ref a6, .ref a7, .long (kn &&& ((1 <<< ((nI f).toInt64 &&& 63)) ^^^ (-1))), .int (fl - 1), .int an]))).1 = n := hn
  replace hs : (ax_put h5 tb (.inr (6, [.int g, .ref a1, .ref a2, .ref a3, .ref a4, .ref a5, .ref a6, .ref a7, .long (kn &&& ((1 <<< ((nI f).toInt64 &&& 63)) ^^^ (-1))), .int (fl - 1), .int an]))).2.1 = sl := hs
  generalize ax_put h5 tb (.inr (6, [.int g, .ref a1, .ref a2, .ref a3, .ref a4, .ref a5, .ref a6, .ref a7, .long (kn &&& ((1 <<< ((nI f).toInt64 &&& 63)) ^^^ (-1))), .int (fl - 1), .int an])) = h6 at hF hf hn hs ⊢
  rw [nI_clamp (show f < 2 ^ 31 by omega)] at hF
  exact ar_ret d_111_70 rfl (⟨rfl, hF, hn, hs, hf⟩)


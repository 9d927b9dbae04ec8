/-! post and take -/
def mg (kd fm tt ep st : Int32) : Nat → Int32 := fun i => match i with
  | 0 => kd
  | 1 => fm
  | 2 => tt
  | 3 => ep
  | 4 => st
  | 5 => -1
  | _ => 0
theorem va_up_s {α : Type} (f : Nat → α) (k : Nat) (v : α) : va_up f k v k = v := if_pos rfl
theorem va_up_n {α : Type} (f : Nat → α) {k j : Nat} (v : α) (h : j ≠ k) : va_up f k v j = f j := if_neg h
theorem NT.setM {h h' : ax_H} {nt w cnt cnt' t m : Nat} {p : Nat → Nat} {M B : Nat → Nat → Int32} {u : Nat → Int32} (hN : NT h nt w cnt p t M B) (hm : m < 130) (hc : cnt' ≤ 128) (hf : ax_fr (fun x => x ∈ [nt, w + 1 + 2 * m]) h h') (g1 : ax_g h' nt = some (.inr (1, [.ref w, .int (nI cnt'), .ref (w + 1 + 2 * t), .ref (w + 3)]))) (g2 : ax_g h' (w + 1 + 2 * m) = some (ms_c u (w + 1 + 2 * m + 1))) : NT h' nt w cnt' p t (va_up M m u) B := by
  obtain ⟨⟨e1, e2, e3⟩, k2, ⟨f, k3, k4⟩, k5⟩ := hN
  refine ⟨⟨e1, hc, e3⟩, g1, ⟨f, hf.g k3 (by simp; omega), k4⟩, fun j hj => ⟨?_, hf.g (k5 j hj).2 (by simp; omega)⟩⟩
  by_cases hjm : j = m
  · subst hjm
    rw [va_up_s]
    exact g2
  · rw [va_up_n M u hjm]
    exact hf.g (k5 j hj).1 (by simp; omega)
theorem NTA.of {h h' : ax_H} {nt w m : Nat} (hm : m < 130) (hf : ax_fr (fun x => x ∈ [nt, w + 1 + 2 * m]) h h') : ax_fr (NTA nt w) h h' := hf.mono (fun x hx => by
  simp at hx
  rcases hx with rfl | rfl
  · exact Or.inl rfl
  · exact Or.inr (by omega))
theorem c_36 {L : Nat} {xs : Nat → Int32} {fr lo : Nat} {h : ax_H} {nt w cnt t : Nat} {p : Nat → Nat} {M B : Nat → Nat → Int32} {kd fm tt ep st : Int32} (hN : NT h nt w cnt p t M B) : ax_M L xs 36 fr lo [.ref nt, .int kd, .int fm, .int tt, .int ep, .int st] h (fun r h' => ∃ m, m < 130 ∧ r = some (.ref (w + 1 + 2 * m)) ∧ ax_fr (NTA nt w) h h' ∧ h'.1 = h.1 ∧ h'.2.1 = h.2.1 ∧ ((cnt < 128 ∧ m = p cnt ∧ NT h' nt w (cnt + 1) p t (va_up M m (mg kd fm tt ep st)) B) ∨ (cnt = 128 ∧ m = 1 ∧ NT h' nt w cnt p t (va_up M m (mg kd fm tt ep st)) B))) := by
  obtain ⟨⟨e1, e2, e3, e4, e5, e6⟩, k2, ⟨f, k3, k4⟩, k5⟩ := id hN
  obtain ⟨n, hn⟩ : ∃ n, h.1 = n := ⟨_, rfl⟩
  obtain ⟨sl, hs⟩ : ∃ n, h.2.1 = n := ⟨_, rfl⟩
  by_cases hc : cnt < 128
  · obtain ⟨q1, q2, q3⟩ := e5 cnt hc
    have hF : ax_hs h [(nt, .inr (1, [.ref w, .int (nI cnt), .ref (w + 1 + 2 * t), .ref (w + 3)])), (w, .inl (3, 128, .inr (.inr (.inr (.inr f))))), (w + 1 + 2 * p cnt, .inr (2, [.int (M (p cnt) 0), .int (M (p cnt) 1), .int (M (p cnt) 2), .int (M (p cnt) 3), .int (M (p cnt) 4), .int (M (p cnt) 5), .int (M (p cnt) 6), .int (M (p cnt) 7), .ref (w + 1 + 2 * p cnt + 1)]))] := ax_hs.cons k2 (ax_hs.two k3 (k5 (p cnt) q1).1 (by omega)) (by intro q hq; simp at hq; rcases hq with rfl | rfl <;> dsimp only <;> omega)
    show ax_A (ax_step L xs) ((36, 0, fr, lo), [(0, .ref nt), (1, .int kd), (2, .int fm), (3, .int tt), (4, .int ep), (5, .int st)], [], h) _
    have hbase : h.1 = n := hn
    have hbasl : h.2.1 = sl := hs
    have hf : ax_fr (fun x => x ∈ [nt, w + 1 + 2 * p cnt]) h h := ax_fr.rf
    refine ar_aload_n 1 d_36_0 rfl rfl ?_
    refine ar_getf 4 d_36_1 rfl (ci := 1) (k := 3) rfl (hF.at 0 rfl) rfl ?_
    refine ar_astore 6 [(0, .ref nt), (1, .int kd), (2, .int fm), (3, .int tt), (4, .int ep), (5, .int st), (6, .ref (w + 3))] d_36_4 rfl (by decide) rfl ?_
    refine ar_aload_n 7 d_36_6 rfl rfl ?_
    refine ar_getf 10 d_36_7 rfl (ci := 1) (k := 1) rfl (hF.at 0 rfl) rfl ?_
    refine ar_aload_n 11 d_36_10 rfl rfl ?_
    refine ar_getf 14 d_36_11 rfl (ci := 1) (k := 0) rfl (hF.at 0 rfl) rfl ?_
    refine ar_alen 15 d_36_14 rfl (hF.at 1 rfl) (by decide) ?_
    refine ar_icmp_ge 39 18 d_36_15 (by decide) rfl (fun c => absurd c (nI_ge hc (show 128 < 2 ^ 31 by decide))) (fun _ => ?_)
    refine ar_aload_n 19 d_36_18 rfl rfl ?_
    refine ar_getf 22 d_36_19 rfl (ci := 1) (k := 0) rfl (hF.at 0 rfl) rfl ?_
    refine ar_aload_n 23 d_36_22 rfl rfl ?_
    refine ar_getf 26 d_36_23 rfl (ci := 1) (k := 1) rfl (hF.at 0 rfl) rfl ?_
    refine ar_aald 27 d_36_26 rfl (hF.at 1 rfl) rfl (vp_in_nI hc (show 128 < 2 ^ 31 by decide)) ?_
    refine ar_tv (v' := .ref (w + 1 + 2 * p cnt)) (by rw [nI_clamp (by omega), k4 cnt hc]; rfl) ?_
    refine ar_astore 29 [(0, .ref nt), (1, .int kd), (2, .int fm), (3, .int tt), (4, .int ep), (5, .int st), (6, .ref (w + 1 + 2 * p cnt))] d_36_27 rfl (by decide) rfl ?_
    refine ar_aload_n 30 d_36_29 rfl rfl ?_
    refine ar_dup 31 d_36_30 rfl rfl ?_
    refine ar_getf 34 d_36_31 rfl (ci := 1) (k := 1) rfl (hF.at 0 rfl) rfl ?_
    refine ar_iconst 35 (v := 1) d_36_34 rfl (by decide) ?_
    refine ar_iadd 36 d_36_35 rfl ?_
    refine ar_top (x' := nI (cnt + 1)) (nI_1 cnt) ?_
    refine ar_putf 39 [.ref w, .int (nI (cnt + 1)), .ref (w + 1 + 2 * t), .ref (w + 3)] d_36_36 rfl (ci := 1) (k := 1) rfl rfl (hF.at 0 rfl) (Nat.le_of_ble_eq_true rfl) rfl rfl rfl ?_
    replace hF : ax_hs (ax_put h nt (.inr (1, [.ref w, .int (nI (cnt + 1)), .ref (w + 1 + 2 * t), .ref (w + 3)]))) [(nt, .inr (1, [.ref w, .int (nI (cnt + 1)), .ref (w + 1 + 2 * t), .ref (w + 3)])), (w, .inl (3, 128, .inr (.inr (.inr (.inr f))))), (w + 1 + 2 * p cnt, .inr (2, [.int (M (p cnt) 0), .int (M (p cnt) 1), .int (M (p cnt) 2), .int (M (p cnt) 3), .int (M (p cnt) 4), .int (M (p cnt) 5), .int (M (p cnt) 6), .int (M (p cnt) 7), .ref (w + 1 + 2 * p cnt + 1)]))] := hF.put 0 _ rfl rfl
    replace hf := hf.put (a := nt) (c := .inr (1, [.ref w, .int (nI (cnt + 1)), .ref (w + 1 + 2 * t), .ref (w + 3)])) (by simp)
    replace hn : (ax_put h nt (.inr (1, [.ref w, .int (nI (cnt + 1)), .ref (w + 1 + 2 * t), .ref (w + 3)]))).1 = n := hn
    replace hs : (ax_put h nt (.inr (1, [.ref w, .int (nI (cnt + 1)), .ref (w + 1 + 2 * t), .ref (w + 3)]))).2.1 = sl := hs
    generalize ax_put h nt (.inr (1, [.ref w, .int (nI (cnt + 1)), .ref (w + 1 + 2 * t), .ref (w + 3)])) = h1 at hF hf hn hs ⊢
    refine ar_aload 41 d_36_39 rfl rfl ?_
    refine ar_iload_n 42 d_36_41 rfl rfl ?_
    refine ar_putf 45 [.int kd, .int (M (p cnt) 1), .int (M (p cnt) 2), .int (M (p cnt) 3), .int (M (p cnt) 4), .int (M (p cnt) 5), .int (M (p cnt) 6), .int (M (p cnt) 7), .ref (w + 1 + 2 * p cnt + 1)] d_36_42 rfl (ci := 2) (k := 0) rfl rfl (hF.at 2 rfl) (Nat.le_of_ble_eq_true rfl) rfl rfl rfl ?_
    replace hF : ax_hs (ax_put h1 (w + 1 + 2 * p cnt) (.inr (2, [.int kd, .int (M (p cnt) 1), .int (M (p cnt) 2), .int (M (p cnt) 3), .int (M (p cnt) 4), .int (M (p cnt) 5), .int (M (p cnt) 6), .int (M (p cnt) 7), .ref (w + 1 + 2 * p cnt + 1)]))) [(nt, .inr (1, [.ref w, .int (nI (cnt + 1)), .ref (w + 1 + 2 * t), .ref (w + 3)])), (w, .inl (3, 128, .inr (.inr (.inr (.inr f))))), (w + 1 + 2 * p cnt, .inr (2, [.int kd, .int (M (p cnt) 1), .int (M (p cnt) 2), .int (M (p cnt) 3), .int (M (p cnt) 4), .int (M (p cnt) 5), .int (M (p cnt) 6), .int (M (p cnt) 7), .ref (w + 1 + 2 * p cnt + 1)]))] := hF.put 2 _ rfl rfl
    replace hf := hf.put (a := w + 1 + 2 * p cnt) (c := .inr (2, [.int kd, .int (M (p cnt) 1), .int (M (p cnt) 2), .int (M (p cnt) 3), .int (M (p cnt) 4), .int (M (p cnt) 5), .int (M (p cnt) 6), .int (M (p cnt) 7), .ref (w + 1 + 2 * p cnt + 1)])) (by simp)
    replace hn : (ax_put h1 (w + 1 + 2 * p cnt) (.inr (2, [.int kd, .int (M (p cnt) 1), .int (M (p cnt) 2), .int (M (p cnt) 3), .int (M (p cnt) 4), .int (M (p cnt) 5), .int (M (p cnt) 6), .int (M (p cnt) 7), .ref (w + 1 + 2 * p cnt + 1)]))).1 = n := hn
    replace hs : (ax_put h1 (w + 1 + 2 * p cnt) (.inr (2, [.int kd, .int (M (p cnt) 1), .int (M (p cnt) 2), .int (M (p cnt) 3), .int (M (p cnt) 4), .int (M (p cnt) 5), .int (M (p cnt) 6), .int (M (p cnt) 7), .ref (w + 1 + 2 * p cnt + 1)]))).2.1 = sl := hs
    generalize ax_put h1 (w + 1 + 2 * p cnt) (.inr (2, [.int kd, .int (M (p cnt) 1), .int (M (p cnt) 2), .int (M (p cnt) 3), .int (M (p cnt) 4), .int (M (p cnt) 5), .int (M (p cnt) 6), .int (M (p cnt) 7), .ref (w + 1 + 2 * p cnt + 1)])) = h2 at hF hf hn hs ⊢
    refine ar_aload 47 d_36_45 rfl rfl ?_
    refine ar_iload_n 48 d_36_47 rfl rfl ?_
    refine ar_putf 51 [.int kd, .int fm, .int (M (p cnt) 2), .int (M (p cnt) 3), .int (M (p cnt) 4), .int (M (p cnt) 5), .int (M (p cnt) 6), .int (M (p cnt) 7), .ref (w + 1 + 2 * p cnt + 1)] d_36_48 rfl (ci := 2) (k := 1) rfl rfl (hF.at 2 rfl) (Nat.le_of_ble_eq_true rfl) rfl rfl rfl ?_
    replace hF : ax_hs (ax_put h2 (w + 1 + 2 * p cnt) (.inr (2, [.int kd, .int fm, .int (M (p cnt) 2), .int (M (p cnt) 3), .int (M (p cnt) 4), .int (M (p cnt) 5), .int (M (p cnt) 6), .int (M (p cnt) 7), .ref (w + 1 + 2 * p cnt + 1)]))) [(nt, .inr (1, [.ref w, .int (nI (cnt + 1)), .ref (w + 1 + 2 * t), .ref (w + 3)])), (w, .inl (3, 128, .inr (.inr (.inr (.inr f))))), (w + 1 + 2 * p cnt, .inr (2, [.int kd, .int fm, .int (M (p cnt) 2), .int (M (p cnt) 3), .int (M (p cnt) 4), .int (M (p cnt) 5), .int (M (p cnt) 6), .int (M (p cnt) 7), .ref (w + 1 + 2 * p cnt + 1)]))] := hF.put 2 _ rfl rfl
    replace hf := hf.put (a := w + 1 + 2 * p cnt) (c := .inr (2, [.int kd, .int fm, .int (M (p cnt) 2), .int (M (p cnt) 3), .int (M (p cnt) 4), .int (M (p cnt) 5), .int (M (p cnt) 6), .int (M (p cnt) 7), .ref (w + 1 + 2 * p cnt + 1)])) (by simp)
    replace hn : (ax_put h2 (w + 1 + 2 * p cnt) (.inr (2, [.int kd, .int fm, .int (M (p cnt) 2), .int (M (p cnt) 3), .int (M (p cnt) 4), .int (M (p cnt) 5), .int (M (p cnt) 6), .int (M (p cnt) 7), .ref (w + 1 + 2 * p cnt + 1)]))).1 = n := hn
    replace hs : (ax_put h2 (w + 1 + 2 * p cnt) (.inr (2, [.int kd, .int fm, .int (M (p cnt) 2), .int (M (p cnt) 3), .int (M (p cnt) 4), .int (M (p cnt) 5), .int (M (p cnt) 6), .int (M (p cnt) 7), .ref (w + 1 + 2 * p cnt + 1)]))).2.1 = sl := hs
    generalize ax_put h2 (w + 1 + 2 * p cnt) (.inr (2, [.int kd, .int fm, .int (M (p cnt) 2), .int (M (p cnt) 3), .int (M (p cnt) 4), .int (M (p cnt) 5), .int (M (p cnt) 6), .int (M (p cnt) 7), .ref (w + 1 + 2 * p cnt + 1)])) = h3 at hF hf hn hs ⊢
    refine ar_aload 53 d_36_51 rfl rfl ?_
    refine ar_iload_n 54 d_36_53 rfl rfl ?_
    refine ar_putf 57 [.int kd, .int fm, .int tt, .int (M (p cnt) 3), .int (M (p cnt) 4), .int (M (p cnt) 5), .int (M (p cnt) 6), .int (M (p cnt) 7), .ref (w + 1 + 2 * p cnt + 1)] d_36_54 rfl (ci := 2) (k := 2) rfl rfl (hF.at 2 rfl) (Nat.le_of_ble_eq_true rfl) rfl rfl rfl ?_
    replace hF : ax_hs (ax_put h3 (w + 1 + 2 * p cnt) (.inr (2, [.int kd, .int fm, .int tt, .int (M (p cnt) 3), .int (M (p cnt) 4), .int (M (p cnt) 5), .int (M (p cnt) 6), .int (M (p cnt) 7), .ref (w + 1 + 2 * p cnt + 1)]))) [(nt, .inr (1, [.ref w, .int (nI (cnt + 1)), .ref (w + 1 + 2 * t), .ref (w + 3)])), (w, .inl (3, 128, .inr (.inr (.inr (.inr f))))), (w + 1 + 2 * p cnt, .inr (2, [.int kd, .int fm, .int tt, .int (M (p cnt) 3), .int (M (p cnt) 4), .int (M (p cnt) 5), .int (M (p cnt) 6), .int (M (p cnt) 7), .ref (w + 1 + 2 * p cnt + 1)]))] := hF.put 2 _ rfl rfl
    replace hf := hf.put (a := w + 1 + 2 * p cnt) (c := .inr (2, [.int kd, .int fm, .int tt, .int (M (p cnt) 3), .int (M (p cnt) 4), .int (M (p cnt) 5), .int (M (p cnt) 6), .int (M (p cnt) 7), .ref (w + 1 + 2 * p cnt + 1)])) (by simp)
    replace hn : (ax_put h3 (w + 1 + 2 * p cnt) (.inr (2, [.int kd, .int fm, .int tt, .int (M (p cnt) 3), .int (M (p cnt) 4), .int (M (p cnt) 5), .int (M (p cnt) 6), .int (M (p cnt) 7), .ref (w + 1 + 2 * p cnt + 1)]))).1 = n := hn
    replace hs : (ax_put h3 (w + 1 + 2 * p cnt) (.inr (2, [.int kd, .int fm, .int tt, .int (M (p cnt) 3), .int (M (p cnt) 4), .int (M (p cnt) 5), .int (M (p cnt) 6), .int (M (p cnt) 7), .ref (w + 1 + 2 * p cnt + 1)]))).2.1 = sl := hs
    generalize ax_put h3 (w + 1 + 2 * p cnt) (.inr (2, [.int kd, .int fm, .int tt, .int (M (p cnt) 3), .int (M (p cnt) 4), .int (M (p cnt) 5), .int (M (p cnt) 6), .int (M (p cnt) 7), .ref (w + 1 + 2 * p cnt + 1)])) = h4 at hF hf hn hs ⊢
    refine ar_aload 59 d_36_57 rfl rfl ?_
    refine ar_iload 61 d_36_59 rfl rfl ?_
    refine ar_putf 64 [.int kd, .int fm, .int tt, .int ep, .int (M (p cnt) 4), .int (M (p cnt) 5), .int (M (p cnt) 6), .int (M (p cnt) 7), .ref (w + 1 + 2 * p cnt + 1)] d_36_61 rfl (ci := 2) (k := 3) rfl rfl (hF.at 2 rfl) (Nat.le_of_ble_eq_true rfl) rfl rfl rfl ?_
    replace hF : ax_hs (ax_put h4 (w + 1 + 2 * p cnt) (.inr (2, [.int kd, .int fm, .int tt, .int ep, .int (M (p cnt) 4), .int (M (p cnt) 5), .int (M (p cnt) 6), .int (M (p cnt) 7), .ref (w + 1 + 2 * p cnt + 1)]))) [(nt, .inr (1, [.ref w, .int (nI (cnt + 1)), .ref (w + 1 + 2 * t), .ref (w + 3)])), (w, .inl (3, 128, .inr (.inr (.inr (.inr f))))), (w + 1 + 2 * p cnt, .inr (2, [.int kd, .int fm, .int tt, .int ep, .int (M (p cnt) 4), .int (M (p cnt) 5), .int (M (p cnt) 6), .int (M (p cnt) 7), .ref (w + 1 + 2 * p cnt + 1)]))] := hF.put 2 _ rfl rfl
    replace hf := hf.put (a := w + 1 + 2 * p cnt) (c := .inr (2, [.int kd, .int fm, .int tt, .int ep, .int (M (p cnt) 4), .int (M (p cnt) 5), .int (M (p cnt) 6), .int (M (p cnt) 7), .ref (w + 1 + 2 * p cnt + 1)])) (by simp)
    replace hn : (ax_put h4 (w + 1 + 2 * p cnt) (.inr (2, [.int kd, .int fm, .int tt, .int ep, .int (M (p cnt) 4), .int (M (p cnt) 5), .int (M (p cnt) 6), .int (M (p cnt) 7), .ref (w + 1 + 2 * p cnt + 1)]))).1 = n := hn
    replace hs : (ax_put h4 (w + 1 + 2 * p cnt) (.inr (2, [.int kd, .int fm, .int tt, .int ep, .int (M (p cnt) 4), .int (M (p cnt) 5), .int (M (p cnt) 6), .int (M (p cnt) 7), .ref (w + 1 + 2 * p cnt + 1)]))).2.1 = sl := hs
    generalize ax_put h4 (w + 1 + 2 * p cnt) (.inr (2, [.int kd, .int fm, .int tt, .int ep, .int (M (p cnt) 4), .int (M (p cnt) 5), .int (M (p cnt) 6), .int (M (p cnt) 7), .ref (w + 1 + 2 * p cnt + 1)])) = h5 at hF hf hn hs ⊢
    refine ar_aload 66 d_36_64 rfl rfl ?_
    refine ar_iload 68 d_36_66 rfl rfl ?_
    refine ar_putf 71 [.int kd, .int fm, .int tt, .int ep, .int st, .int (M (p cnt) 5), .int (M (p cnt) 6), .int (M (p cnt) 7), .ref (w + 1 + 2 * p cnt + 1)] d_36_68 rfl (ci := 2) (k := 4) rfl rfl (hF.at 2 rfl) (Nat.le_of_ble_eq_true rfl) rfl rfl rfl ?_
    replace hF : ax_hs (ax_put h5 (w + 1 + 2 * p cnt) (.inr (2, [.int kd, .int fm, .int tt, .int ep, .int st, .int (M (p cnt) 5), .int (M (p cnt) 6), .int (M (p cnt) 7), .ref (w + 1 + 2 * p cnt + 1)]))) [(nt, .inr (1, [.ref w, .int (nI (cnt + 1)), .ref (w + 1 + 2 * t), .ref (w + 3)])), (w, .inl (3, 128, .inr (.inr (.inr (.inr f))))), (w + 1 + 2 * p cnt, .inr (2, [.int kd, .int fm, .int tt, .int ep, .int st, .int (M (p cnt) 5), .int (M (p cnt) 6), .int (M (p cnt) 7), .ref (w + 1 + 2 * p cnt + 1)]))] := hF.put 2 _ rfl rfl
    replace hf := hf.put (a := w + 1 + 2 * p cnt) (c := .inr (2, [.int kd, .int fm, .int tt, .int ep, .int st, .int (M (p cnt) 5), .int (M (p cnt) 6), .int (M (p cnt) 7), .ref (w + 1 + 2 * p cnt + 1)])) (by simp)
    replace hn : (ax_put h5 (w + 1 + 2 * p cnt) (.inr (2, [.int kd, .int fm, .int tt, .int ep, .int st, .int (M (p cnt) 5), .int (M (p cnt) 6), .int (M (p cnt) 7), .ref (w + 1 + 2 * p cnt + 1)]))).1 = n := hn
    replace hs : (ax_put h5 (w + 1 + 2 * p cnt) (.inr (2, [.int kd, .int fm, .int tt, .int ep, .int st, .int (M (p cnt) 5), .int (M (p cnt) 6), .int (M (p cnt) 7), .ref (w + 1 + 2 * p cnt + 1)]))).2.1 = sl := hs
    generalize ax_put h5 (w + 1 + 2 * p cnt) (.inr (2, [.int kd, .int fm, .int tt, .int ep, .int st, .int (M (p cnt) 5), .int (M (p cnt) 6), .int (M (p cnt) 7), .ref (w + 1 + 2 * p cnt + 1)])) = h6 at hF hf hn hs ⊢
    refine ar_aload 73 d_36_71 rfl rfl ?_
    refine ar_iconst 74 (v := -1) d_36_73 rfl (by decide) ?_
    refine ar_putf 77 [.int kd, .int fm, .int tt, .int ep, .int st, .int (-1), .int (M (p cnt) 6), .int (M (p cnt) 7), .ref (w + 1 + 2 * p cnt + 1)] d_36_74 rfl (ci := 2) (k := 5) rfl rfl (hF.at 2 rfl) (Nat.le_of_ble_eq_true rfl) rfl rfl rfl ?_
    replace hF : ax_hs (ax_put h6 (w + 1 + 2 * p cnt) (.inr (2, [.int kd, .int fm, .int tt, .int ep, .int st, .int (-1), .int (M (p cnt) 6), .int (M (p cnt) 7), .ref (w + 1 + 2 * p cnt + 1)]))) [(nt, .inr (1, [.ref w, .int (nI (cnt + 1)), .ref (w + 1 + 2 * t), .ref (w + 3)])), (w, .inl (3, 128, .inr (.inr (.inr (.inr f))))), (w + 1 + 2 * p cnt, .inr (2, [.int kd, .int fm, .int tt, .int ep, .int st, .int (-1), .int (M (p cnt) 6), .int (M (p cnt) 7), .ref (w + 1 + 2 * p cnt + 1)]))] := hF.put 2 _ rfl rfl
    replace hf := hf.put (a := w + 1 + 2 * p cnt) (c := .inr (2, [.int kd, .int fm, .int tt, .int ep, .int st, .int (-1), .int (M (p cnt) 6), .int (M (p cnt) 7), .ref (w + 1 + 2 * p cnt + 1)])) (by simp)
    replace hn : (ax_put h6 (w + 1 + 2 * p cnt) (.inr (2, [.int kd, .int fm, .int tt, .int ep, .int st, .int (-1), .int (M (p cnt) 6), .int (M (p cnt) 7), .ref (w + 1 + 2 * p cnt + 1)]))).1 = n := hn
    replace hs : (ax_put h6 (w + 1 + 2 * p cnt) (.inr (2, [.int kd, .int fm, .int tt, .int ep, .int st, .int (-1), .int (M (p cnt) 6), .int (M (p cnt) 7), .ref (w + 1 + 2 * p cnt + 1)]))).2.1 = sl := hs
    generalize ax_put h6 (w + 1 + 2 * p cnt) (.inr (2, [.int kd, .int fm, .int tt, .int ep, .int st, .int (-1), .int (M (p cnt) 6), .int (M (p cnt) 7), .ref (w + 1 + 2 * p cnt + 1)])) = h7 at hF hf hn hs ⊢
    refine ar_aload 79 d_36_77 rfl rfl ?_
    refine ar_iconst 80 (v := 0) d_36_79 rfl (by decide) ?_
    refine ar_putf 83 [.int kd, .int fm, .int tt, .int ep, .int st, .int (-1), .int 0, .int (M (p cnt) 7), .ref (w + 1 + 2 * p cnt + 1)] d_36_80 rfl (ci := 2) (k := 6) rfl rfl (hF.at 2 rfl) (Nat.le_of_ble_eq_true rfl) rfl rfl rfl ?_
    replace hF : ax_hs (ax_put h7 (w + 1 + 2 * p cnt) (.inr (2, [.int kd, .int fm, .int tt, .int ep, .int st, .int (-1), .int 0, .int (M (p cnt) 7), .ref (w + 1 + 2 * p cnt + 1)]))) [(nt, .inr (1, [.ref w, .int (nI (cnt + 1)), .ref (w + 1 + 2 * t), .ref (w + 3)])), (w, .inl (3, 128, .inr (.inr (.inr (.inr f))))), (w + 1 + 2 * p cnt, .inr (2, [.int kd, .int fm, .int tt, .int ep, .int st, .int (-1), .int 0, .int (M (p cnt) 7), .ref (w + 1 + 2 * p cnt + 1)]))] := hF.put 2 _ rfl rfl
    replace hf := hf.put (a := w + 1 + 2 * p cnt) (c := .inr (2, [.int kd, .int fm, .int tt, .int ep, .int st, .int (-1), .int 0, .int (M (p cnt) 7), .ref (w + 1 + 2 * p cnt + 1)])) (by simp)
    replace hn : (ax_put h7 (w + 1 + 2 * p cnt) (.inr (2, [.int kd, .int fm, .int tt, .int ep, .int st, .int (-1), .int 0, .int (M (p cnt) 7), .ref (w + 1 + 2 * p cnt + 1)]))).1 = n := hn
    replace hs : (ax_put h7 (w + 1 + 2 * p cnt) (.inr (2, [.int kd, .int fm, .int tt, .int ep, .int st, .int (-1), .int 0, .int (M (p cnt) 7), .ref (w + 1 + 2 * p cnt + 1)]))).2.1 = sl := hs
    generalize ax_put h7 (w + 1 + 2 * p cnt) (.inr (2, [.int kd, .int fm, .int tt, .int ep, .int st, .int (-1), .int 0, .int (M (p cnt) 7), .ref (w + 1 + 2 * p cnt + 1)])) = h8 at hF hf hn hs ⊢
    refine ar_aload 85 d_36_83 rfl rfl ?_
    refine ar_iconst 86 (v := 0) d_36_85 rfl (by decide) ?_
    refine ar_putf 89 [.int kd, .int fm, .int tt, .int ep, .int st, .int (-1), .int 0, .int 0, .ref (w + 1 + 2 * p cnt + 1)] d_36_86 rfl (ci := 2) (k := 7) rfl rfl (hF.at 2 rfl) (Nat.le_of_ble_eq_true rfl) rfl rfl rfl ?_
    replace hF : ax_hs (ax_put h8 (w + 1 + 2 * p cnt) (.inr (2, [.int kd, .int fm, .int tt, .int ep, .int st, .int (-1), .int 0, .int 0, .ref (w + 1 + 2 * p cnt + 1)]))) [(nt, .inr (1, [.ref w, .int (nI (cnt + 1)), .ref (w + 1 + 2 * t), .ref (w + 3)])), (w, .inl (3, 128, .inr (.inr (.inr (.inr f))))), (w + 1 + 2 * p cnt, .inr (2, [.int kd, .int fm, .int tt, .int ep, .int st, .int (-1), .int 0, .int 0, .ref (w + 1 + 2 * p cnt + 1)]))] := hF.put 2 _ rfl rfl
    replace hf := hf.put (a := w + 1 + 2 * p cnt) (c := .inr (2, [.int kd, .int fm, .int tt, .int ep, .int st, .int (-1), .int 0, .int 0, .ref (w + 1 + 2 * p cnt + 1)])) (by simp)
    replace hn : (ax_put h8 (w + 1 + 2 * p cnt) (.inr (2, [.int kd, .int fm, .int tt, .int ep, .int st, .int (-1), .int 0, .int 0, .ref (w + 1 + 2 * p cnt + 1)]))).1 = n := hn
    replace hs : (ax_put h8 (w + 1 + 2 * p cnt) (.inr (2, [.int kd, .int fm, .int tt, .int ep, .int st, .int (-1), .int 0, .int 0, .ref (w + 1 + 2 * p cnt + 1)]))).2.1 = sl := hs
    generalize ax_put h8 (w + 1 + 2 * p cnt) (.inr (2, [.int kd, .int fm, .int tt, .int ep, .int st, .int (-1), .int 0, .int 0, .ref (w + 1 + 2 * p cnt + 1)])) = h9 at hF hf hn hs ⊢
    refine ar_aload 91 d_36_89 rfl rfl ?_
    refine ar_aret d_36_91 rfl (Or.inl ⟨_, rfl⟩) ⟨p cnt, q1, rfl, NTA.of q1 hf, by omega, by omega, Or.inl ⟨hc, rfl, ?_⟩⟩
    exact hN.setM q1 (by omega) hf (hF.at 0 rfl) (hF.at 2 rfl)
  · have hc8 : cnt = 128 := by omega
    have hF : ax_hs h [(nt, .inr (1, [.ref w, .int (nI cnt), .ref (w + 1 + 2 * t), .ref (w + 3)])), (w, .inl (3, 128, .inr (.inr (.inr (.inr f))))), (w + 3, .inr (2, [.int (M 1 0), .int (M 1 1), .int (M 1 2), .int (M 1 3), .int (M 1 4), .int (M 1 5), .int (M 1 6), .int (M 1 7), .ref (w + 3 + 1)]))] := ax_hs.cons k2 (ax_hs.two k3 (k5 1 (by decide)).1 (by omega)) (by intro q hq; simp at hq; rcases hq with rfl | rfl <;> dsimp only <;> omega)
    show ax_A (ax_step L xs) ((36, 0, fr, lo), [(0, .ref nt), (1, .int kd), (2, .int fm), (3, .int tt), (4, .int ep), (5, .int st)], [], h) _
    have hbase : h.1 = n := hn
    have hbasl : h.2.1 = sl := hs
    have hf : ax_fr (fun x => x ∈ [nt, w + 3]) h h := ax_fr.rf
    refine ar_aload_n 1 d_36_0 rfl rfl ?_
    refine ar_getf 4 d_36_1 rfl (ci := 1) (k := 3) rfl (hF.at 0 rfl) rfl ?_
    refine ar_astore 6 [(0, .ref nt), (1, .int kd), (2, .int fm), (3, .int tt), (4, .int ep), (5, .int st), (6, .ref (w + 3))] d_36_4 rfl (by decide) rfl ?_
    refine ar_aload_n 7 d_36_6 rfl rfl ?_
    refine ar_getf 10 d_36_7 rfl (ci := 1) (k := 1) rfl (hF.at 0 rfl) rfl ?_
    refine ar_aload_n 11 d_36_10 rfl rfl ?_
    refine ar_getf 14 d_36_11 rfl (ci := 1) (k := 0) rfl (hF.at 0 rfl) rfl ?_
    refine ar_alen 15 d_36_14 rfl (hF.at 1 rfl) (by decide) ?_
    refine ar_icmp_ge 39 18 d_36_15 (by decide) rfl (fun _ => ?_) (fun c => absurd (by rw [hc8]; exact nI_le (Nat.le_refl _) (show 128 < 2 ^ 31 by decide)) c)
    refine ar_aload 41 d_36_39 rfl rfl ?_
    refine ar_iload_n 42 d_36_41 rfl rfl ?_
    refine ar_putf 45 [.int kd, .int (M 1 1), .int (M 1 2), .int (M 1 3), .int (M 1 4), .int (M 1 5), .int (M 1 6), .int (M 1 7), .ref (w + 3 + 1)] d_36_42 rfl (ci := 2) (k := 0) rfl rfl (hF.at 2 rfl) (Nat.le_of_ble_eq_true rfl) rfl rfl rfl ?_
    replace hF : ax_hs (ax_put h (w + 3) (.inr (2, [.int kd, .int (M 1 1), .int (M 1 2), .int (M 1 3), .int (M 1 4), .int (M 1 5), .int (M 1 6), .int (M 1 7), .ref (w + 3 + 1)]))) [(nt, .inr (1, [.ref w, .int (nI cnt), .ref (w + 1 + 2 * t), .ref (w + 3)])), (w, .inl (3, 128, .inr (.inr (.inr (.inr f))))), (w + 3, .inr (2, [.int kd, .int (M 1 1), .int (M 1 2), .int (M 1 3), .int (M 1 4), .int (M 1 5), .int (M 1 6), .int (M 1 7), .ref (w + 3 + 1)]))] := hF.put 2 _ rfl rfl
    replace hf := hf.put (a := w + 3) (c := .inr (2, [.int kd, .int (M 1 1), .int (M 1 2), .int (M 1 3), .int (M 1 4), .int (M 1 5), .int (M 1 6), .int (M 1 7), .ref (w + 3 + 1)])) (by simp)
    replace hn : (ax_put h (w + 3) (.inr (2, [.int kd, .int (M 1 1), .int (M 1 2), .int (M 1 3), .int (M 1 4), .int (M 1 5), .int (M 1 6), .int (M 1 7), .ref (w + 3 + 1)]))).1 = n := hn
    replace hs : (ax_put h (w + 3) (.inr (2, [.int kd, .int (M 1 1), .int (M 1 2), .int (M 1 3), .int (M 1 4), .int (M 1 5), .int (M 1 6), .int (M 1 7), .ref (w + 3 + 1)]))).2.1 = sl := hs
    generalize ax_put h (w + 3) (.inr (2, [.int kd, .int (M 1 1), .int (M 1 2), .int (M 1 3), .int (M 1 4), .int (M 1 5), .int (M 1 6), .int (M 1 7), .ref (w + 3 + 1)])) = h1 at hF hf hn hs ⊢
    refine ar_aload 47 d_36_45 rfl rfl ?_
    refine ar_iload_n 48 d_36_47 rfl rfl ?_
    refine ar_putf 51 [.int kd, .int fm, .int (M 1 2), .int (M 1 3), .int (M 1 4), .int (M 1 5), .int (M 1 6), .int (M 1 7), .ref (w + 3 + 1)] d_36_48 rfl (ci := 2) (k := 1) rfl rfl (hF.at 2 rfl) (Nat.le_of_ble_eq_true rfl) rfl rfl rfl ?_
    replace hF : ax_hs (ax_put h1 (w + 3) (.inr (2, [.int kd, .int fm, .int (M 1 2), .int (M 1 3), .int (M 1 4), .int (M 1 5), .int (M 1 6), .int (M 1 7), .ref (w + 3 + 1)]))) [(nt, .inr (1, [.ref w, .int (nI cnt), .ref (w + 1 + 2 * t), .ref (w + 3)])), (w, .inl (3, 128, .inr (.inr (.inr (.inr f))))), (w + 3, .inr (2, [.int kd, .int fm, .int (M 1 2), .int (M 1 3), .int (M 1 4), .int (M 1 5), .int (M 1 6), .int (M 1 7), .ref (w + 3 + 1)]))] := hF.put 2 _ rfl rfl
    replace hf := hf.put (a := w + 3) (c := .inr (2, [.int kd, .int fm, .int (M 1 2), .int (M 1 3), .int (M 1 4), .int (M 1 5), .int (M 1 6), .int (M 1 7), .ref (w + 3 + 1)])) (by simp)
    replace hn : (ax_put h1 (w + 3) (.inr (2, [.int kd, .int fm, .int (M 1 2), .int (M 1 3), .int (M 1 4), .int (M 1 5), .int (M 1 6), .int (M 1 7), .ref (w + 3 + 1)]))).1 = n := hn
    replace hs : (ax_put h1 (w + 3) (.inr (2, [.int kd, .int fm, .int (M 1 2), .int (M 1 3), .int (M 1 4), .int (M 1 5), .int (M 1 6), .int (M 1 7), .ref (w + 3 + 1)]))).2.1 = sl := hs
    generalize ax_put h1 (w + 3) (.inr (2, [.int kd, .int fm, .int (M 1 2), .int (M 1 3), .int (M 1 4), .int (M 1 5), .int (M 1 6), .int (M 1 7), .ref (w + 3 + 1)])) = h2 at hF hf hn hs ⊢
    refine ar_aload 53 d_36_51 rfl rfl ?_
    refine ar_iload_n 54 d_36_53 rfl rfl ?_
    refine ar_putf 57 [.int kd, .int fm, .int tt, .int (M 1 3), .int (M 1 4), .int (M 1 5), .int (M 1 6), .int (M 1 7), .ref (w + 3 + 1)] d_36_54 rfl (ci := 2) (k := 2) rfl rfl (hF.at 2 rfl) (Nat.le_of_ble_eq_true rfl) rfl rfl rfl ?_
    replace hF : ax_hs (ax_put h2 (w + 3) (.inr (2, [.int kd, .int fm, .int tt, .int (M 1 3), .int (M 1 4), .int (M 1 5), .int (M 1 6), .int (M 1 7), .ref (w + 3 + 1)]))) [(nt, .inr (1, [.ref w, .int (nI cnt), .ref (w + 1 + 2 * t), .ref (w + 3)])), (w, .inl (3, 128, .inr (.inr (.inr (.inr f))))), (w + 3, .inr (2, [.int kd, .int fm, .int tt, .int (M 1 3), .int (M 1 4), .int (M 1 5), .int (M 1 6), .int (M 1 7), .ref (w + 3 + 1)]))] := hF.put 2 _ rfl rfl
    replace hf := hf.put (a := w + 3) (c := .inr (2, [.int kd, .int fm, .int tt, .int (M 1 3), .int (M 1 4), .int (M 1 5), .int (M 1 6), .int (M 1 7), .ref (w + 3 + 1)])) (by simp)
    replace hn : (ax_put h2 (w + 3) (.inr (2, [.int kd, .int fm, .int tt, .int (M 1 3), .int (M 1 4), .int (M 1 5), .int (M 1 6), .int (M 1 7), .ref (w + 3 + 1)]))).1 = n := hn
    replace hs : (ax_put h2 (w + 3) (.inr (2, [.int kd, .int fm, .int tt, .int (M 1 3), .int (M 1 4), .int (M 1 5), .int (M 1 6), .int (M 1 7), .ref (w + 3 + 1)]))).2.1 = sl := hs
    generalize ax_put h2 (w + 3) (.inr (2, [.int kd, .int fm, .int tt, .int (M 1 3), .int (M 1 4), .int (M 1 5), .int (M 1 6), .int (M 1 7), .ref (w + 3 + 1)])) = h3 at hF hf hn hs ⊢
    refine ar_aload 59 d_36_57 rfl rfl ?_
    refine ar_iload 61 d_36_59 rfl rfl ?_
    refine ar_putf 64 [.int kd, .int fm, .int tt, .int ep, .int (M 1 4), .int (M 1 5), .int (M 1 6), .int (M 1 7), .ref (w + 3 + 1)] d_36_61 rfl (ci := 2) (k := 3) rfl rfl (hF.at 2 rfl) (Nat.le_of_ble_eq_true rfl) rfl rfl rfl ?_
    replace hF : ax_hs (ax_put h3 (w + 3) (.inr (2, [.int kd, .int fm, .int tt, .int ep, .int (M 1 4), .int (M 1 5), .int (M 1 6), .int (M 1 7), .ref (w + 3 + 1)]))) [(nt, .inr (1, [.ref w, .int (nI cnt), .ref (w + 1 + 2 * t), .ref (w + 3)])), (w, .inl (3, 128, .inr (.inr (.inr (.inr f))))), (w + 3, .inr (2, [.int kd, .int fm, .int tt, .int ep, .int (M 1 4), .int (M 1 5), .int (M 1 6), .int (M 1 7), .ref (w + 3 + 1)]))] := hF.put 2 _ rfl rfl
    replace hf := hf.put (a := w + 3) (c := .inr (2, [.int kd, .int fm, .int tt, .int ep, .int (M 1 4), .int (M 1 5), .int (M 1 6), .int (M 1 7), .ref (w + 3 + 1)])) (by simp)
    replace hn : (ax_put h3 (w + 3) (.inr (2, [.int kd, .int fm, .int tt, .int ep, .int (M 1 4), .int (M 1 5), .int (M 1 6), .int (M 1 7), .ref (w + 3 + 1)]))).1 = n := hn
    replace hs : (ax_put h3 (w + 3) (.inr (2, [.int kd, .int fm, .int tt, .int ep, .int (M 1 4), .int (M 1 5), .int (M 1 6), .int (M 1 7), .ref (w + 3 + 1)]))).2.1 = sl := hs
    generalize ax_put h3 (w + 3) (.inr (2, [.int kd, .int fm, .int tt, .int ep, .int (M 1 4), .int (M 1 5), .int (M 1 6), .int (M 1 7), .ref (w + 3 + 1)])) = h4 at hF hf hn hs ⊢
    refine ar_aload 66 d_36_64 rfl rfl ?_
    refine ar_iload 68 d_36_66 rfl rfl ?_
    refine ar_putf 71 [.int kd, .int fm, .int tt, .int ep, .int st, .int (M 1 5), .int (M 1 6), .int (M 1 7), .ref (w + 3 + 1)] d_36_68 rfl (ci := 2) (k := 4) rfl rfl (hF.at 2 rfl) (Nat.le_of_ble_eq_true rfl) rfl rfl rfl ?_
    replace hF : ax_hs (ax_put h4 (w + 3) (.inr (2, [.int kd, .int fm, .int tt, .int ep, .int st, .int (M 1 5), .int (M 1 6), .int (M 1 7), .ref (w + 3 + 1)]))) [(nt, .inr (1, [.ref w, .int (nI cnt), .ref (w + 1 + 2 * t), .ref (w + 3)])), (w, .inl (3, 128, .inr (.inr (.inr (.inr f))))), (w + 3, .inr (2, [.int kd, .int fm, .int tt, .int ep, .int st, .int (M 1 5), .int (M 1 6), .int (M 1 7), .ref (w + 3 + 1)]))] := hF.put 2 _ rfl rfl
    replace hf := hf.put (a := w + 3) (c := .inr (2, [.int kd, .int fm, .int tt, .int ep, .int st, .int (M 1 5), .int (M 1 6), .int (M 1 7), .ref (w + 3 + 1)])) (by simp)
    replace hn : (ax_put h4 (w + 3) (.inr (2, [.int kd, .int fm, .int tt, .int ep, .int st, .int (M 1 5), .int (M 1 6), .int (M 1 7), .ref (w + 3 + 1)]))).1 = n := hn
    replace hs : (ax_put h4 (w + 3) (.inr (2, [.int kd, .int fm, .int tt, .int ep, .int st, .int (M 1 5), .int (M 1 6), .int (M 1 7), .ref (w + 3 + 1)]))).2.1 = sl := hs
    generalize ax_put h4 (w + 3) (.inr (2, [.int kd, .int fm, .int tt, .int ep, .int st, .int (M 1 5), .int (M 1 6), .int (M 1 7), .ref (w + 3 + 1)])) = h5 at hF hf hn hs ⊢
    refine ar_aload 73 d_36_71 rfl rfl ?_
    refine ar_iconst 74 (v := -1) d_36_73 rfl (by decide) ?_
    refine ar_putf 77 [.int kd, .int fm, .int tt, .int ep, .int st, .int (-1), .int (M 1 6), .int (M 1 7), .ref (w + 3 + 1)] d_36_74 rfl (ci := 2) (k := 5) rfl rfl (hF.at 2 rfl) (Nat.le_of_ble_eq_true rfl) rfl rfl rfl ?_
    replace hF : ax_hs (ax_put h5 (w + 3) (.inr (2, [.int kd, .int fm, .int tt, .int ep, .int st, .int (-1), .int (M 1 6), .int (M 1 7), .ref (w + 3 + 1)]))) [(nt, .inr (1, [.ref w, .int (nI cnt), .ref (w + 1 + 2 * t), .ref (w + 3)])), (w, .inl (3, 128, .inr (.inr (.inr (.inr f))))), (w + 3, .inr (2, [.int kd, .int fm, .int tt, .int ep, .int st, .int (-1), .int (M 1 6), .int (M 1 7), .ref (w + 3 + 1)]))] := hF.put 2 _ rfl rfl
    replace hf := hf.put (a := w + 3) (c := .inr (2, [.int kd, .int fm, .int tt, .int ep, .int st, .int (-1), .int (M 1 6), .int (M 1 7), .ref (w + 3 + 1)])) (by simp)
    replace hn : (ax_put h5 (w + 3) (.inr (2, [.int kd, .int fm, .int tt, .int ep, .int st, .int (-1), .int (M 1 6), .int (M 1 7), .ref (w + 3 + 1)]))).1 = n := hn
    replace hs : (ax_put h5 (w + 3) (.inr (2, [.int kd, .int fm, .int tt, .int ep, .int st, .int (-1), .int (M 1 6), .int (M 1 7), .ref (w + 3 + 1)]))).2.1 = sl := hs
    generalize ax_put h5 (w + 3) (.inr (2, [.int kd, .int fm, .int tt, .int ep, .int st, .int (-1), .int (M 1 6), .int (M 1 7), .ref (w + 3 + 1)])) = h6 at hF hf hn hs ⊢
    refine ar_aload 79 d_36_77 rfl rfl ?_
    refine ar_iconst 80 (v := 0) d_36_79 rfl (by decide) ?_
    refine ar_putf 83 [.int kd, .int fm, .int tt, .int ep, .int st, .int (-1), .int 0, .int (M 1 7), .ref (w + 3 + 1)] d_36_80 rfl (ci := 2) (k := 6) rfl rfl (hF.at 2 rfl) (Nat.le_of_ble_eq_true rfl) rfl rfl rfl ?_
    replace hF : ax_hs (ax_put h6 (w + 3) (.inr (2, [.int kd, .int fm, .int tt, .int ep, .int st, .int (-1), .int 0, .int (M 1 7), .ref (w + 3 + 1)]))) [(nt, .inr (1, [.ref w, .int (nI cnt), .ref (w + 1 + 2 * t), .ref (w + 3)])), (w, .inl (3, 128, .inr (.inr (.inr (.inr f))))), (w + 3, .inr (2, [.int kd, .int fm, .int tt, .int ep, .int st, .int (-1), .int 0, .int (M 1 7), .ref (w + 3 + 1)]))] := hF.put 2 _ rfl rfl
    replace hf := hf.put (a := w + 3) (c := .inr (2, [.int kd, .int fm, .int tt, .int ep, .int st, .int (-1), .int 0, .int (M 1 7), .ref (w + 3 + 1)])) (by simp)
    replace hn : (ax_put h6 (w + 3) (.inr (2, [.int kd, .int fm, .int tt, .int ep, .int st, .int (-1), .int 0, .int (M 1 7), .ref (w + 3 + 1)]))).1 = n := hn
    replace hs : (ax_put h6 (w + 3) (.inr (2, [.int kd, .int fm, .int tt, .int ep, .int st, .int (-1), .int 0, .int (M 1 7), .ref (w + 3 + 1)]))).2.1 = sl := hs
    generalize ax_put h6 (w + 3) (.inr (2, [.int kd, .int fm, .int tt, .int ep, .int st, .int (-1), .int 0, .int (M 1 7), .ref (w + 3 + 1)])) = h7 at hF hf hn hs ⊢
    refine ar_aload 85 d_36_83 rfl rfl ?_
    refine ar_iconst 86 (v := 0) d_36_85 rfl (by decide) ?_
    refine ar_putf 89 [.int kd, .int fm, .int tt, .int ep, .int st, .int (-1), .int 0, .int 0, .ref (w + 3 + 1)] d_36_86 rfl (ci := 2) (k := 7) rfl rfl (hF.at 2 rfl) (Nat.le_of_ble_eq_true rfl) rfl rfl rfl ?_
    replace hF : ax_hs (ax_put h7 (w + 3) (.inr (2, [.int kd, .int fm, .int tt, .int ep, .int st, .int (-1), .int 0, .int 0, .ref (w + 3 + 1)]))) [(nt, .inr (1, [.ref w, .int (nI cnt), .ref (w + 1 + 2 * t), .ref (w + 3)])), (w, .inl (3, 128, .inr (.inr (.inr (.inr f))))), (w + 3, .inr (2, [.int kd, .int fm, .int tt, .int ep, .int st, .int (-1), .int 0, .int 0, .ref (w + 3 + 1)]))] := hF.put 2 _ rfl rfl
    replace hf := hf.put (a := w + 3) (c := .inr (2, [.int kd, .int fm, .int tt, .int ep, .int st, .int (-1), .int 0, .int 0, .ref (w + 3 + 1)])) (by simp)
    replace hn : (ax_put h7 (w + 3) (.inr (2, [.int kd, .int fm, .int tt, .int ep, .int st, .int (-1), .int 0, .int 0, .ref (w + 3 + 1)]))).1 = n := hn
    replace hs : (ax_put h7 (w + 3) (.inr (2, [.int kd, .int fm, .int tt, .int ep, .int st, .int (-1), .int 0, .int 0, .ref (w + 3 + 1)]))).2.1 = sl := hs
    generalize ax_put h7 (w + 3) (.inr (2, [.int kd, .int fm, .int tt, .int ep, .int st, .int (-1), .int 0, .int 0, .ref (w + 3 + 1)])) = h8 at hF hf hn hs ⊢
    refine ar_aload 91 d_36_89 rfl rfl ?_
    refine ar_aret d_36_91 rfl (Or.inl ⟨_, rfl⟩) ⟨1, by decide, rfl, NTA.of (m := 1) (by decide) hf, by omega, by omega, Or.inr ⟨hc8, rfl, ?_⟩⟩
    exact hN.setM (m := 1) (by decide) e2 hf (hF.at 0 rfl) (hF.at 2 rfl)
/-- way[i] goes out, the last one comes to its place, and what was taken before to the last one's -/
def tk (p : Nat → Nat) (t c i : Nat) : Nat → Nat := fun j => if j = c then t else if j = i then p c else p j
theorem c_51 {L : Nat} {xs : Nat → Int32} {fr lo : Nat} {h : ax_H} {nt w cnt t i : Nat} {p : Nat → Nat} {M B : Nat → Nat → Int32} (hN : NT h nt w cnt p t M B) (hi : i < cnt) : ax_M L xs 51 fr lo [.ref nt, .int (nI i)] h (fun r h' => r = some (.ref (w + 1 + 2 * p i)) ∧ ax_fr (NTA nt w) h h' ∧ h'.1 = h.1 ∧ h'.2.1 = h.2.1 ∧ NT h' nt w (cnt - 1) (tk p t (cnt - 1) i) (p i) M B) := by
  obtain ⟨⟨e1, e2, e3, e4, e5, e6⟩, k2, ⟨f, k3, k4⟩, k5⟩ := id hN
  obtain ⟨n, hn⟩ : ∃ n, h.1 = n := ⟨_, rfl⟩
  obtain ⟨sl, hs⟩ : ∃ n, h.2.1 = n := ⟨_, rfl⟩
  obtain ⟨c, hcc⟩ : ∃ c, cnt = c + 1 := ⟨cnt - 1, by omega⟩
  subst hcc
  have hF : ax_hs h [(nt, .inr (1, [.ref w, .int (nI (c + 1)), .ref (w + 1 + 2 * t), .ref (w + 3)])), (w, .inl (3, 128, .inr (.inr (.inr (.inr f)))))] := ax_hs.two k2 k3 (by omega)
  show ax_A (ax_step L xs) ((51, 0, fr, lo), [(0, .ref nt), (1, .int (nI i))], [], h) _
  have hbase : h.1 = n := hn
  have hbasl : h.2.1 = sl := hs
  have hf : ax_fr (fun x => x ∈ [nt, w]) h h := ax_fr.rf
  refine ar_aload_n 1 d_51_0 rfl rfl ?_
  refine ar_getf 4 d_51_1 rfl (ci := 1) (k := 0) rfl (hF.at 0 rfl) rfl ?_
  refine ar_iload_n 5 d_51_4 rfl rfl ?_
  refine ar_aald 6 d_51_5 rfl (hF.at 1 rfl) rfl (vp_in_nI (by omega) (show 128 < 2 ^ 31 by decide)) ?_
  refine ar_tv (v' := .ref (w + 1 + 2 * p i)) (by rw [nI_clamp (by omega), k4 i (by omega)]; rfl) ?_
  refine ar_astore_n 7 [(0, .ref nt), (1, .int (nI i)), (2, .ref (w + 1 + 2 * p i))] d_51_6 rfl (by decide) rfl ?_
  refine ar_aload_n 8 d_51_7 rfl rfl ?_
  refine ar_dup 9 d_51_8 rfl rfl ?_
  refine ar_getf 12 d_51_9 rfl (ci := 1) (k := 1) rfl (hF.at 0 rfl) rfl ?_
  refine ar_iconst 13 (v := 1) d_51_12 rfl (by decide) ?_
  refine ar_isub 14 d_51_13 rfl ?_
  refine ar_top (x' := nI c) (nI_pred c) ?_
  refine ar_putf 17 [.ref w, .int (nI c), .ref (w + 1 + 2 * t), .ref (w + 3)] d_51_14 rfl (ci := 1) (k := 1) rfl rfl (hF.at 0 rfl) (Nat.le_of_ble_eq_true rfl) rfl rfl rfl ?_
  replace hF : ax_hs (ax_put h nt (.inr (1, [.ref w, .int (nI c), .ref (w + 1 + 2 * t), .ref (w + 3)]))) [(nt, .inr (1, [.ref w, .int (nI c), .ref (w + 1 + 2 * t), .ref (w + 3)])), (w, .inl (3, 128, .inr (.inr (.inr (.inr f)))))] := hF.put 0 _ rfl rfl
  replace hf := hf.put (a := nt) (c := .inr (1, [.ref w, .int (nI c), .ref (w + 1 + 2 * t), .ref (w + 3)])) (by simp)
  replace hn : (ax_put h nt (.inr (1, [.ref w, .int (nI c), .ref (w + 1 + 2 * t), .ref (w + 3)]))).1 = n := hn
  replace hs : (ax_put h nt (.inr (1, [.ref w, .int (nI c), .ref (w + 1 + 2 * t), .ref (w + 3)]))).2.1 = sl := hs
  generalize ax_put h nt (.inr (1, [.ref w, .int (nI c), .ref (w + 1 + 2 * t), .ref (w + 3)])) = h1 at hF hf hn hs ⊢
  refine ar_aload_n 18 d_51_17 rfl rfl ?_
  refine ar_getf 21 d_51_18 rfl (ci := 1) (k := 0) rfl (hF.at 0 rfl) rfl ?_
  refine ar_iload_n 22 d_51_21 rfl rfl ?_
  refine ar_aload_n 23 d_51_22 rfl rfl ?_
  refine ar_getf 26 d_51_23 rfl (ci := 1) (k := 0) rfl (hF.at 0 rfl) rfl ?_
  refine ar_aload_n 27 d_51_26 rfl rfl ?_
  refine ar_getf 30 d_51_27 rfl (ci := 1) (k := 1) rfl (hF.at 0 rfl) rfl ?_
  refine ar_aald 31 d_51_30 rfl (hF.at 1 rfl) rfl (vp_in_nI (by omega) (show 128 < 2 ^ 31 by decide)) ?_
  refine ar_tv (v' := .ref (w + 1 + 2 * p c)) (by rw [nI_clamp (by omega), k4 c (by omega)]; rfl) ?_
  have qc := e5 c (by omega)
  have qi := e5 i (by omega)
  refine ar_aast 32 d_51_31 rfl (hF.at 1 rfl) rfl (hf.g (k5 (p c) (by omega)).1 (by simp; omega)) (vp_in_nI (by omega) (show 128 < 2 ^ 31 by decide)) ?_
  replace hF : ax_hs (ax_put h1 w (.inl (3, 128, .inr (.inr (.inr (.inr (va_up f (nI i).toNatClampNeg (some (w + 1 + 2 * p c))))))))) [(nt, .inr (1, [.ref w, .int (nI c), .ref (w + 1 + 2 * t), .ref (w + 3)])), (w, .inl (3, 128, .inr (.inr (.inr (.inr (va_up f (nI i).toNatClampNeg (some (w + 1 + 2 * p c))))))))] := hF.put 1 _ rfl rfl
  replace hf := hf.put (a := w) (c := .inl (3, 128, .inr (.inr (.inr (.inr (va_up f (nI i).toNatClampNeg (some (w + 1 + 2 * p c)))))))) (by simp)
  replace hn : (ax_put h1 w (.inl (3, 128, .inr (.inr (.inr (.inr (va_up f (nI i).toNatClampNeg (some (w + 1 + 2 * p c))))))))).1 = n := hn
  replace hs : (ax_put h1 w (.inl (3, 128, .inr (.inr (.inr (.inr (va_up f (nI i).toNatClampNeg (some (w + 1 + 2 * p c))))))))).2.1 = sl := hs
  generalize ax_put h1 w (.inl (3, 128, .inr (.inr (.inr (.inr (va_up f (nI i).toNatClampNeg (some (w + 1 + 2 * p c)))))))) = h2 at hF hf hn hs ⊢
  refine ar_aload_n 33 d_51_32 rfl rfl ?_
  refine ar_getf 36 d_51_33 rfl (ci := 1) (k := 0) rfl (hF.at 0 rfl) rfl ?_
  refine ar_aload_n 37 d_51_36 rfl rfl ?_
  refine ar_getf 40 d_51_37 rfl (ci := 1) (k := 1) rfl (hF.at 0 rfl) rfl ?_
  refine ar_aload_n 41 d_51_40 rfl rfl ?_
  refine ar_getf 44 d_51_41 rfl (ci := 1) (k := 2) rfl (hF.at 0 rfl) rfl ?_
  refine ar_aast 45 d_51_44 rfl (hF.at 1 rfl) rfl (hf.g (k5 (t) (by omega)).1 (by simp; omega)) (vp_in_nI (by omega) (show 128 < 2 ^ 31 by decide)) ?_
  replace hF : ax_hs (ax_put h2 w (.inl (3, 128, .inr (.inr (.inr (.inr (va_up (va_up f (nI i).toNatClampNeg (some (w + 1 + 2 * p c))) (nI c).toNatClampNeg (some (w + 1 + 2 * t))))))))) [(nt, .inr (1, [.ref w, .int (nI c), .ref (w + 1 + 2 * t), .ref (w + 3)])), (w, .inl (3, 128, .inr (.inr (.inr (.inr (va_up (va_up f (nI i).toNatClampNeg (some (w + 1 + 2 * p c))) (nI c).toNatClampNeg (some (w + 1 + 2 * t))))))))] := hF.put 1 _ rfl rfl
  replace hf := hf.put (a := w) (c := .inl (3, 128, .inr (.inr (.inr (.inr (va_up (va_up f (nI i).toNatClampNeg (some (w + 1 + 2 * p c))) (nI c).toNatClampNeg (some (w + 1 + 2 * t)))))))) (by simp)
  replace hn : (ax_put h2 w (.inl (3, 128, .inr (.inr (.inr (.inr (va_up (va_up f (nI i).toNatClampNeg (some (w + 1 + 2 * p c))) (nI c).toNatClampNeg (some (w + 1 + 2 * t))))))))).1 = n := hn
  replace hs : (ax_put h2 w (.inl (3, 128, .inr (.inr (.inr (.inr (va_up (va_up f (nI i).toNatClampNeg (some (w + 1 + 2 * p c))) (nI c).toNatClampNeg (some (w + 1 + 2 * t))))))))).2.1 = sl := hs
  generalize ax_put h2 w (.inl (3, 128, .inr (.inr (.inr (.inr (va_up (va_up f (nI i).toNatClampNeg (some (w + 1 + 2 * p c))) (nI c).toNatClampNeg (some (w + 1 + 2 * t)))))))) = h3 at hF hf hn hs ⊢
  refine ar_aload_n 46 d_51_45 rfl rfl ?_
  refine ar_aload_n 47 d_51_46 rfl rfl ?_
  refine ar_putf 50 [.ref w, .int (nI c), .ref (w + 1 + 2 * p i), .ref (w + 3)] d_51_47 rfl (ci := 1) (k := 2) rfl rfl (hF.at 0 rfl) (Nat.le_of_ble_eq_true rfl) rfl rfl rfl ?_
  replace hF : ax_hs (ax_put h3 nt (.inr (1, [.ref w, .int (nI c), .ref (w + 1 + 2 * p i), .ref (w + 3)]))) [(nt, .inr (1, [.ref w, .int (nI c), .ref (w + 1 + 2 * p i), .ref (w + 3)])), (w, .inl (3, 128, .inr (.inr (.inr (.inr (va_up (va_up f (nI i).toNatClampNeg (some (w + 1 + 2 * p c))) (nI c).toNatClampNeg (some (w + 1 + 2 * t))))))))] := hF.put 0 _ rfl rfl
  replace hf := hf.put (a := nt) (c := .inr (1, [.ref w, .int (nI c), .ref (w + 1 + 2 * p i), .ref (w + 3)])) (by simp)
  replace hn : (ax_put h3 nt (.inr (1, [.ref w, .int (nI c), .ref (w + 1 + 2 * p i), .ref (w + 3)]))).1 = n := hn
  replace hs : (ax_put h3 nt (.inr (1, [.ref w, .int (nI c), .ref (w + 1 + 2 * p i), .ref (w + 3)]))).2.1 = sl := hs
  generalize ax_put h3 nt (.inr (1, [.ref w, .int (nI c), .ref (w + 1 + 2 * p i), .ref (w + 3)])) = h4 at hF hf hn hs ⊢
  refine ar_aload_n 51 d_51_50 rfl rfl ?_
  refine ar_aret d_51_51 rfl (Or.inl ⟨_, rfl⟩) ⟨rfl, hf.mono (fun x hx => by simp at hx; rcases hx with rfl | rfl; exact Or.inl rfl; exact Or.inr (by omega)), by omega, by omega, ?_⟩
  refine ⟨⟨e1, by omega, qi.1, qi.2.1, fun j hj => ?_, fun j k hj hk e => ?_⟩, hF.at 0 rfl, ⟨_, hF.at 1 rfl, fun j hj => ?_⟩, fun j hj => ⟨hf.g (k5 j hj).1 (by simp; omega), hf.g (k5 j hj).2 (by simp; omega)⟩⟩
  · show (if j = c then t else if j = i then p c else p j) < 130 ∧ (if j = c then t else if j = i then p c else p j) ≠ 1 ∧ (if j = c then t else if j = i then p c else p j) ≠ p i
    have qj := e5 j hj
    split
    · exact ⟨e3, e4, fun z => qi.2.2 z.symm⟩
    · next h1 =>
      split
      · next h2 => exact ⟨qc.1, qc.2.1, fun z => h1 (h2.trans (e6 c i (by omega) (by omega) z).symm)⟩
      · next h2 => exact ⟨qj.1, qj.2.1, fun z => h2 (e6 j i hj (by omega) z)⟩
  · have e' : (if j = c then t else if j = i then p c else p j) = (if k = c then t else if k = i then p c else p k) := e
    have qj := e5 j hj
    have qk := e5 k hk
    by_cases j1 : j = c <;> by_cases k1 : k = c
    · omega
    · rw [if_pos j1, if_neg k1] at e'
      split at e'
      · exact absurd e'.symm qc.2.2
      · exact absurd e'.symm qk.2.2
    · rw [if_neg j1, if_pos k1] at e'
      split at e'
      · exact absurd e' qc.2.2
      · exact absurd e' qj.2.2
    · rw [if_neg j1, if_neg k1] at e'
      by_cases j2 : j = i <;> by_cases k2 : k = i
      · omega
      · rw [if_pos j2, if_neg k2] at e'
        exact absurd (e6 c k (by omega) hk e').symm k1
      · rw [if_neg j2, if_pos k2] at e'
        exact absurd (e6 j c hj (by omega) e') j1
      · rw [if_neg j2, if_neg k2] at e'
        exact e6 j k hj hk e'
  · rw [nI_clamp (by omega), nI_clamp (by omega)]
    show (if j = c then some (w + 1 + 2 * t) else if j = i then some (w + 1 + 2 * p c) else f j) = some (w + 1 + 2 * (if j = c then t else if j = i then p c else p j))
    split
    · rfl
    · split
      · rfl
      · exact k4 j hj


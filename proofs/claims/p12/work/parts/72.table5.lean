/-! Table, exactly: readRecord, writeRecord, writeRoot -/
theorem c_85N {L : Nat} {xs : Nat → Int32} {fr lo : Nat} {h : ax_H} {tb a1 a2 a3 a4 a5 a6 a7 : Nat} {g fl an : Int32} {kn : Int64} {b N p : Nat} {wf : Nat → Int32} {it : Int32} (hfr : 1 ≤ fr) (hlo : 40 ≤ lo) (hN : N < 2 ^ 31) (hp : p + 128 ≤ N) (h77 : ∀ fr lo, ax_M L xs 77 fr lo [.ref tb, .int (wf (p + 1))] h (fun r h' => r = some (.int it) ∧ h' = h)) (hit : it < 0 ∨ ∃ a, a < 961 ∧ it = nI a ∧ (a % 20 ≠ 19 ∨ ¬ knB kn (a / 20) = 0)) (hF : ax_hs h [(tb, .inr (6, [.int g, .ref a1, .ref a2, .ref a3, .ref a4, .ref a5, .ref a6, .ref a7, .long kn, .int fl, .int an])), (b, .inl (0, N, .inl wf))]) : ax_M L xs 85 fr lo [.ref tb, .ref b, .int (nI p)] h (fun r h' => r = none ∧ h' = h) := by
  show ax_A (ax_step L xs) ((85, 0, fr, lo), [(0, .ref tb), (1, .ref b), (2, .int (nI p))], [], h) _
  refine ar_aload_n 1 d_85_0 rfl rfl ?_
  refine ar_aload_n 2 d_85_1 rfl rfl ?_
  refine ar_iload_n 3 d_85_2 rfl rfl ?_
  refine ar_iconst 4 (v := 1) d_85_3 rfl (by decide) ?_
  refine ar_iadd 5 d_85_4 rfl ?_
  refine ar_top (x' := nI (p + 1)) (nI_add p 1) ?_
  refine ar_iald 6 d_85_5 rfl (hF.at 1 rfl) (nI_in (by omega) (by omega)) ?_
  refine ar_top (x' := wf (p + 1)) (by rw [nI_clamp (by omega)]) ?_
  refine ar_call (r := []) (na := 0) (kd := 0) (cm := 77) (fr2 := fr - 1) (lo2 := lo - 23) 9 d_85_6 (ar_hoV (as := [.int (wf (p + 1))]) rfl rfl rfl (hF.at 0 rfl)) rfl (by omega) (show lo - 23 + (19 + 4) = lo by omega) (Nat.le_of_ble_eq_true rfl) (Nat.le_of_ble_eq_true rfl) (h77 _ _) ?_
  intro v hh hq
  obtain ⟨rfl, ehh⟩ := hq
  rw [ehh]
  clear ehh
  refine ar_istore_n 10 [(0, .ref tb), (1, .ref b), (2, .int (nI p)), (3, .int it)] d_85_9 rfl (by decide) rfl ?_
  refine ar_iload_n 11 d_85_10 rfl rfl ?_
  refine ar_if_lt 34 14 d_85_11 (by decide) rfl (fun c1 => ?_) (fun c1 => ?_)
  · exact ar_ret d_85_34 rfl (⟨rfl, rfl⟩)
  · obtain ⟨a, ha, rfl, hk⟩ := hit.resolve_left c1
    refine ar_iload_n 15 d_85_14 rfl rfl ?_
    refine ar_bipush 17 (v := 20) d_85_15 rfl (by decide) ?_
    refine ar_irem 18 d_85_17 rfl (by decide) ?_
    refine ar_top (x' := nI (a % 20)) (pk_rem (d := 20) (by omega) (by omega) (by omega)) ?_
    refine ar_bipush 20 (v := 19) d_85_18 rfl (by decide) ?_
    refine ar_top (x' := nI 19) rfl ?_
    refine ar_icmp_ne 34 23 d_85_20 (by decide) rfl (fun c2 => ?_) (fun c2 => ?_)
    · exact ar_ret d_85_34 rfl (⟨rfl, rfl⟩)
    · refine ar_aload_n 24 d_85_23 rfl rfl ?_
      refine ar_iload_n 25 d_85_24 rfl rfl ?_
      refine ar_bipush 27 (v := 20) d_85_25 rfl (by decide) ?_
      refine ar_idiv 28 d_85_27 rfl (by decide) ?_
      refine ar_top (x' := nI (a / 20)) (pk_div (d := 20) (by omega) (by omega) (by omega)) ?_
      refine ar_call (r := []) (na := 0) (kd := 0) (cm := 81) (fr2 := fr - 1) (lo2 := lo - 21) 31 d_85_28 (ar_hoV (as := [.int (nI (a / 20))]) rfl rfl rfl (hF.at 0 rfl)) rfl (by omega) (show lo - 21 + (19 + 2) = lo by omega) (Nat.le_of_ble_eq_true rfl) (Nat.le_of_ble_eq_true rfl) (c_81 (hF.at 0 rfl)) ?_
      intro v hh hq
      obtain ⟨rfl, ehh⟩ := hq
      rw [ehh]
      clear ehh
      refine ar_if_eq 35 34 d_85_31 (by decide) rfl (fun c => absurd c (by rw [if_neg (hk.resolve_left (fun z => c2 (fun q => z (nI_inj (by omega) (by omega) q))))]; decide)) (fun _ => ?_)
      exact ar_ret d_85_34 rfl (⟨rfl, rfl⟩)
theorem c_85Y {L : Nat} {xs : Nat → Int32} {fr lo : Nat} {h : ax_H} {n sl : Nat} {tb a1 a2 a3 a4 a5 a6 a7 : Nat} {g fl an : Int32} {kn : Int64} {b N p f : Nat} {zf nf mf vf wf : Nat → Int32} (hfr : 2 ≤ fr) (hlo : 70 ≤ lo) (hN : N < 2 ^ 31) (hp : p + 128 ≤ N) (hf0 : f < 48) (h77 : ∀ fr lo, ax_M L xs 77 fr lo [.ref tb, .int (wf (p + 1))] h (fun r h' => r = some (.int (nI (f * 20 + 19))) ∧ h' = h)) (hk : knB kn f = 0) (hF : ax_hs h [(tb, .inr (6, [.int g, .ref a1, .ref a2, .ref a3, .ref a4, .ref a5, .ref a6, .ref a7, .long kn, .int fl, .int an])), (a2, .inl (0, 48, .inl zf)), (a3, .inl (0, 48, .inl nf)), (a4, .inl (0, 2400, .inl mf)), (a6, .inl (0, 961, .inl vf)), (b, .inl (0, N, .inl wf))]) (hn : h.1 = n) (hs : h.2.1 = sl) (hn0 : 0 < n) : ax_M L xs 85 fr lo [.ref tb, .ref b, .int (nI p)] h (fun r h' => r = none ∧ ax_hs h' [(tb, .inr (6, [.int g, .ref a1, .ref a2, .ref a3, .ref a4, .ref a5, .ref a6, .ref a7, .long (kn ||| (1 <<< ((nI f).toInt64 &&& 63))), .int fl, .int an])), (a2, .inl (0, 48, .inl (upd zf f (wf (p + 15))))), (a3, .inl (0, 48, .inl (upd nf f (wf (p + 16))))), (a4, .inl (0, 2400, .inl (va_cpy wf mf (p + 17) (f * 50) 50))), (a6, .inl (0, 961, .inl (va_cpy wf vf (p + 67) (f * 20) 19))), (b, .inl (0, N, .inl wf))] ∧ h'.1 = n ∧ h'.2.1 = sl ∧ ax_fr (fun x => x ∈ [tb, a2, a3, a4, a6]) h h') := by
  show ax_A (ax_step L xs) ((85, 0, fr, lo), [(0, .ref tb), (1, .ref b), (2, .int (nI p))], [], h) _
  have hbase : h.1 = n := hn
  have hbasl : h.2.1 = sl := hs
  have hf : ax_fr (fun x => x ∈ [tb, a2, a3, a4, a6]) h h := ax_fr.rf
  refine ar_aload_n 1 d_85_0 rfl rfl ?_
  refine ar_aload_n 2 d_85_1 rfl rfl ?_
  refine ar_iload_n 3 d_85_2 rfl rfl ?_
  refine ar_iconst 4 (v := 1) d_85_3 rfl (by decide) ?_
  refine ar_iadd 5 d_85_4 rfl ?_
  refine ar_top (x' := nI (p + 1)) (nI_add p 1) ?_
  refine ar_iald 6 d_85_5 rfl (hF.at 5 rfl) (nI_in (by omega) (by omega)) ?_
  refine ar_top (x' := wf (p + 1)) (by rw [nI_clamp (by omega)]) ?_
  refine ar_call (r := []) (na := 0) (kd := 0) (cm := 77) (fr2 := fr - 1) (lo2 := lo - 23) 9 d_85_6 (ar_hoV (as := [.int (wf (p + 1))]) rfl rfl rfl (hF.at 0 rfl)) rfl (by omega) (show lo - 23 + (19 + 4) = lo by omega) (Nat.le_of_ble_eq_true rfl) (Nat.le_of_ble_eq_true rfl) (h77 _ _) ?_
  intro v hh hq
  obtain ⟨rfl, ehh⟩ := hq
  rw [ehh]
  clear ehh
  refine ar_istore_n 10 [(0, .ref tb), (1, .ref b), (2, .int (nI p)), (3, .int (nI (f * 20 + 19)))] d_85_9 rfl (by decide) rfl ?_
  refine ar_iload_n 11 d_85_10 rfl rfl ?_
  refine ar_if_lt 34 14 d_85_11 (by decide) rfl (fun c => absurd c (nI_pos (by omega))) (fun _ => ?_)
  refine ar_iload_n 15 d_85_14 rfl rfl ?_
  refine ar_bipush 17 (v := 20) d_85_15 rfl (by decide) ?_
  refine ar_irem 18 d_85_17 rfl (by decide) ?_
  refine ar_top (x' := nI 19) ((pk_rem (d := 20) (by omega) (by omega) (by omega)).trans (congrArg nI (by omega))) ?_
  refine ar_bipush 20 (v := 19) d_85_18 rfl (by decide) ?_
  refine ar_icmp_ne 34 23 d_85_20 (by decide) rfl (fun c => absurd c (fun z => z rfl)) (fun _ => ?_)
  refine ar_aload_n 24 d_85_23 rfl rfl ?_
  refine ar_iload_n 25 d_85_24 rfl rfl ?_
  refine ar_bipush 27 (v := 20) d_85_25 rfl (by decide) ?_
  refine ar_idiv 28 d_85_27 rfl (by decide) ?_
  refine ar_top (x' := nI f) ((pk_div (d := 20) (by omega) (by omega) (by omega)).trans (congrArg nI (by omega))) ?_
  refine ar_call (r := []) (na := 0) (kd := 0) (cm := 81) (fr2 := fr - 1) (lo2 := lo - 21) 31 d_85_28 (ar_hoV (as := [.int (nI f)]) rfl rfl rfl (hF.at 0 rfl)) rfl (by omega) (show lo - 21 + (19 + 2) = lo by omega) (Nat.le_of_ble_eq_true rfl) (Nat.le_of_ble_eq_true rfl) (c_81 (hF.at 0 rfl)) ?_
  intro v hh hq
  obtain ⟨rfl, ehh⟩ := hq
  rw [ehh]
  clear ehh
  refine ar_if_eq 35 34 d_85_31 (by decide) rfl (fun _ => ?_) (fun c => absurd (by rw [if_pos hk]) c)
  refine ar_iload_n 36 d_85_35 rfl rfl ?_
  refine ar_bipush 38 (v := 20) d_85_36 rfl (by decide) ?_
  refine ar_idiv 39 d_85_38 rfl (by decide) ?_
  refine ar_top (x' := nI f) ((pk_div (d := 20) (by omega) (by omega) (by omega)).trans (congrArg nI (by omega))) ?_
  refine ar_istore 41 [(0, .ref tb), (1, .ref b), (2, .int (nI p)), (3, .int (nI (f * 20 + 19))), (4, .int (nI f))] d_85_39 rfl (by decide) rfl ?_
  refine ar_iload_n 42 d_85_41 rfl rfl ?_
  refine ar_bipush 44 (v := 15) d_85_42 rfl (by decide) ?_
  refine ar_iadd 45 d_85_44 rfl ?_
  refine ar_top (x' := nI (p + 15)) (nI_add p 15) ?_
  refine ar_istore 47 [(0, .ref tb), (1, .ref b), (2, .int (nI p)), (3, .int (nI (f * 20 + 19))), (4, .int (nI f)), (5, .int (nI (p + 15)))] d_85_45 rfl (by decide) rfl ?_
  refine ar_aload_n 48 d_85_47 rfl rfl ?_
  refine ar_getf 51 d_85_48 rfl (ci := 6) (k := 2) rfl (hF.at 0 rfl) rfl ?_
  refine ar_iload 53 d_85_51 rfl rfl ?_
  refine ar_aload_n 54 d_85_53 rfl rfl ?_
  refine ar_iload 56 d_85_54 rfl rfl ?_
  refine ar_iald 57 d_85_56 rfl (hF.at 5 rfl) (nI_in (by omega) (by omega)) ?_
  refine ar_top (x' := wf (p + 15)) (by rw [nI_clamp (by omega)]) ?_
  refine ar_iast 58 d_85_57 rfl (hF.at 1 rfl) (nI_in (by omega) (by omega)) ?_
  replace hF : ax_hs (ax_put h a2 (.inl (0, 48, .inl (upd zf (nI f).toNatClampNeg (wf (p + 15)))))) [(tb, .inr (6, [.int g, .ref a1, .ref a2, .ref a3, .ref a4, .ref a5, .ref a6, .ref a7, .long kn, .int fl, .int an])), (a2, .inl (0, 48, .inl (upd zf (nI f).toNatClampNeg (wf (p + 15))))), (a3, .inl (0, 48, .inl nf)), (a4, .inl (0, 2400, .inl mf)), (a6, .inl (0, 961, .inl vf)), (b, .inl (0, N, .inl wf))] := hF.put 1 _ rfl rfl
  replace hf := hf.put (a := a2) (c := .inl (0, 48, .inl (upd zf (nI f).toNatClampNeg (wf (p + 15))))) (by simp)
  replace hn : (ax_put h a2 (.inl (0, 48, .inl (upd zf (nI f).toNatClampNeg (wf (p + 15)))))).1 = n := hn
  replace hs : (ax_put h a2 (.inl (0, 48, .inl (upd zf (nI f).toNatClampNeg (wf (p + 15)))))).2.1 = sl := hs
  generalize ax_put h a2 (.inl (0, 48, .inl (upd zf (nI f).toNatClampNeg (wf (p + 15))))) = h1 at hF hf hn hs ⊢
  refine ar_aload_n 59 d_85_58 rfl rfl ?_
  refine ar_iload 61 d_85_59 rfl rfl ?_
  refine ar_aload_n 62 d_85_61 rfl rfl ?_
  refine ar_iload 64 d_85_62 rfl rfl ?_
  refine ar_iconst 65 (v := 2) d_85_64 rfl (by decide) ?_
  refine ar_iadd 66 d_85_65 rfl ?_
  refine ar_top (x' := nI (p + 17)) (nI_add (p + 15) 2) ?_
  refine ar_aload_n 67 d_85_66 rfl rfl ?_
  refine ar_iload 69 d_85_67 rfl rfl ?_
  refine ar_iconst 70 (v := 1) d_85_69 rfl (by decide) ?_
  refine ar_iadd 71 d_85_70 rfl ?_
  refine ar_top (x' := nI (p + 16)) (nI_add (p + 15) 1) ?_
  refine ar_iald 72 d_85_71 rfl (hF.at 5 rfl) (nI_in (by omega) (by omega)) ?_
  refine ar_top (x' := wf (p + 16)) (by rw [nI_clamp (by omega)]) ?_
  refine ar_call (r := []) (na := 0) (kd := 0) (cm := 86) (fr2 := fr - 1) (lo2 := lo - 24) 75 d_85_72 (ar_hoV (as := [.int (nI f), .ref b, .int (nI (p + 17)), .int (wf (p + 16))]) rfl rfl rfl (hF.at 0 rfl)) rfl (by omega) (show lo - 24 + (19 + 5) = lo by omega) (Nat.le_of_ble_eq_true rfl) (Nat.le_of_ble_eq_true rfl) (c_86 (by omega) (by omega) hf0 hN (by omega) (hF.sub (F' := [(tb, .inr (6, [.int g, .ref a1, .ref a2, .ref a3, .ref a4, .ref a5, .ref a6, .ref a7, .long kn, .int fl, .int an])), (a3, .inl (0, 48, .inl nf)), (a4, .inl (0, 2400, .inl mf)), (b, .inl (0, N, .inl wf))]) [0, 2, 3, 5] rfl rfl) hn hs (by omega)) ?_
  intro v h2 hq
  obtain ⟨rfl, qF, qn, qs, qf⟩ := hq
  have qF : ax_hs h2 [(tb, .inr (6, [.int g, .ref a1, .ref a2, .ref a3, .ref a4, .ref a5, .ref a6, .ref a7, .long kn, .int fl, .int an])), (a3, .inl (0, 48, .inl (upd nf f (wf (p + 16))))), (a4, .inl (0, 2400, .inl (va_cpy wf mf (p + 17) (f * 50) 50))), (b, .inl (0, N, .inl wf))] := qF
  replace hF : ax_hs h2 [(a2, .inl (0, 48, .inl (upd zf (nI f).toNatClampNeg (wf (p + 15))))), (a6, .inl (0, 961, .inl vf)), (tb, .inr (6, [.int g, .ref a1, .ref a2, .ref a3, .ref a4, .ref a5, .ref a6, .ref a7, .long kn, .int fl, .int an])), (a3, .inl (0, 48, .inl (upd nf f (wf (p + 16))))), (a4, .inl (0, 2400, .inl (va_cpy wf mf (p + 17) (f * 50) 50))), (b, .inl (0, N, .inl wf))] := ax_hs.call (rest := [(a2, .inl (0, 48, .inl (upd zf (nI f).toNatClampNeg (wf (p + 15))))), (a6, .inl (0, 961, .inl vf))]) [0, 2, 3, 5] [1, 4] hF qf qF rfl rfl rfl [2, 3] rfl rfl [0, 2, 3, 5] (news := []) rfl rfl (fun _ z => absurd z List.not_mem_nil) rfl
  replace hf := hf.trC qf (by intro x hx hB; simp at hB; first | (rcases hB with rfl | rfl <;> first | omega | simp) | omega | simp [hB])
  replace hn : h2.1 = n := by omega
  replace hs : h2.2.1 = sl := by omega
  have qf0 := qf
  clear qF qn qs qf
  refine ar_aload_n 76 d_85_75 rfl rfl ?_
  refine ar_iload 78 d_85_76 rfl rfl ?_
  refine ar_iconst 79 (v := 2) d_85_78 rfl (by decide) ?_
  refine ar_iadd 80 d_85_79 rfl ?_
  refine ar_top (x' := nI (p + 17)) (nI_add (p + 15) 2) ?_
  refine ar_bipush 82 (v := 50) d_85_80 rfl (by decide) ?_
  refine ar_iadd 83 d_85_82 rfl ?_
  refine ar_top (x' := nI (p + 67)) (nI_add (p + 17) 50) ?_
  refine ar_aload_n 84 d_85_83 rfl rfl ?_
  refine ar_getf 87 d_85_84 rfl (ci := 6) (k := 6) rfl (hF.at 2 rfl) rfl ?_
  refine ar_iload 89 d_85_87 rfl rfl ?_
  refine ar_bipush 91 (v := 20) d_85_89 rfl (by decide) ?_
  refine ar_imul 92 d_85_91 rfl ?_
  refine ar_top (x' := nI (f * 20)) (pk_mul f 20) ?_
  refine ar_bipush 94 (v := 19) d_85_92 rfl (by decide) ?_
  refine ar_copy 97 d_85_94 rfl rfl (by omega) (by show 0 + (nativeFrameWords "java/lang/System" "arraycopy" 5 + 11) ≤ lo; rw [nfw_copy]; omega) (hF.at 5 rfl) (hF.at 1 rfl) (Int32.not_lt.mpr (nI_le (Nat.zero_le _) (by omega))) (Int32.not_lt.mpr (nI_le (Nat.zero_le _) (by omega))) (by decide) (by rw [nI_clamp (by omega)]; show p + 67 + 19 ≤ N; omega) (by rw [nI_clamp (by omega)]; show f * 20 + 19 ≤ 961; omega) ?_
  replace hF : ax_hs (ax_put h2 a6 (.inl (0, 961, .inl (va_cpy wf vf ((nI (p + 67)).toNatClampNeg) ((nI (f * 20)).toNatClampNeg) ((19 : Int32).toNatClampNeg))))) [(a2, .inl (0, 48, .inl (upd zf (nI f).toNatClampNeg (wf (p + 15))))), (a6, .inl (0, 961, .inl (va_cpy wf vf ((nI (p + 67)).toNatClampNeg) ((nI (f * 20)).toNatClampNeg) ((19 : Int32).toNatClampNeg)))), (tb, .inr (6, [.int g, .ref a1, .ref a2, .ref a3, .ref a4, .ref a5, .ref a6, .ref a7, .long kn, .int fl, .int an])), (a3, .inl (0, 48, .inl (upd nf f (wf (p + 16))))), (a4, .inl (0, 2400, .inl (va_cpy wf mf (p + 17) (f * 50) 50))), (b, .inl (0, N, .inl wf))] := hF.put 1 _ rfl rfl
  replace hf := hf.put (a := a6) (c := .inl (0, 961, .inl (va_cpy wf vf ((nI (p + 67)).toNatClampNeg) ((nI (f * 20)).toNatClampNeg) ((19 : Int32).toNatClampNeg)))) (by simp)
  replace hn : (ax_put h2 a6 (.inl (0, 961, .inl (va_cpy wf vf ((nI (p + 67)).toNatClampNeg) ((nI (f * 20)).toNatClampNeg) ((19 : Int32).toNatClampNeg))))).1 = n := hn
  replace hs : (ax_put h2 a6 (.inl (0, 961, .inl (va_cpy wf vf ((nI (p + 67)).toNatClampNeg) ((nI (f * 20)).toNatClampNeg) ((19 : Int32).toNatClampNeg))))).2.1 = sl := hs
  generalize ax_put h2 a6 (.inl (0, 961, .inl (va_cpy wf vf ((nI (p + 67)).toNatClampNeg) ((nI (f * 20)).toNatClampNeg) ((19 : Int32).toNatClampNeg)))) = h3 at hF hf hn hs ⊢
  refine ar_aload_n 98 d_85_97 rfl rfl ?_
  refine ar_dup 99 d_85_98 rfl rfl ?_
  refine ar_getf 102 d_85_99 rfl (ci := 6) (k := 8) rfl (hF.at 2 rfl) rfl ?_
  refine ar_lconst 103 (v := 1) d_85_102 rfl (by decide) ?_
  refine ar_iload 105 d_85_103 rfl rfl ?_
  refine ar_lshl 106 d_85_105 rfl ?_
  refine ar_lor 107 d_85_106 rfl ?_
  refine ar_putf 110 [.int g, .ref a1, .ref a2, .ref a3, .ref a4, .ref a5, .ref a6, .ref a7, .long (kn ||| (1 <<< ((nI f).toInt64 &&& 63))), .int fl, .int an] d_85_107 rfl (ci := 6) (k := 8) rfl rfl (hF.at 2 rfl) (Nat.le_of_ble_eq_true rfl) rfl rfl rfl ?_
  replace hF : ax_hs (ax_put h3 tb (.inr (6, [.int g, .ref a1, .ref a2, .ref a3, .ref a4, .ref a5, .ref a6, .ref a7, .long (kn ||| (1 <<< ((nI f).toInt64 &&& 63))), .int fl, .int an]))) [(a2, .inl (0, 48, .inl (upd zf (nI f).toNatClampNeg (wf (p + 15))))), (a6, .inl (0, 961, .inl (va_cpy wf vf ((nI (p + 67)).toNatClampNeg) ((nI (f * 20)).toNatClampNeg) ((19 : Int32).toNatClampNeg)))), (tb, .inr (6, [.int g, .ref a1, .ref a2, .ref a3, .ref a4, .ref a5, .ref a6, .ref a7, .long (kn ||| (1 <<< ((nI f).toInt64 &&& 63))), .int fl, .int an])), (a3, .inl (0, 48, .inl (upd nf f (wf (p + 16))))), (a4, .inl (0, 2400, .inl (va_cpy wf mf (p + 17) (f * 50) 50))), (b, .inl (0, N, .inl wf))] := hF.put 2 _ rfl rfl
  replace hf := hf.put (a := tb) (c := .inr (6, [.int g, .ref a1, .ref a2, .ref a3, .ref a4, .ref a5, .ref a6, .ref a7, .long (kn ||| (1 <<< ((nI f).toInt64 &&& 63))), .int fl, .int an])) (by simp)
  replace hn : (ax_put h3 tb (.inr (6, [.int g, .ref a1, .ref a2, .ref a3, .ref a4, .ref a5, .ref a6, .ref a7, .long (kn ||| (1 <<< ((nI f).toInt64 &&& 63))), .int fl, .int an]))).1 = n := hn
  replace hs : (ax_put h3 tb (.inr (6, [.int g, .ref a1, .ref a2, .ref a3, .ref a4, .ref a5, .ref a6, .ref a7, .long (kn ||| (1 <<< ((nI f).toInt64 &&& 63))), .int fl, .int an]))).2.1 = sl := hs
  generalize ax_put h3 tb (.inr (6, [.int g, .ref a1, .ref a2, .ref a3, .ref a4, .ref a5, .ref a6, .ref a7, .long (kn ||| (1 <<< ((nI f).toInt64 &&& 63))), .int fl, .int an])) = h4 at hF hf hn hs ⊢
  rw [nI_clamp (show f < 2 ^ 31 by omega), nI_clamp (show p + 67 < 2 ^ 31 by omega), nI_clamp (show f * 20 < 2 ^ 31 by omega)] at hF
  have hF9 : ax_hs _ [(tb, .inr (6, [.int g, .ref a1, .ref a2, .ref a3, .ref a4, .ref a5, .ref a6, .ref a7, .long (kn ||| (1 <<< ((nI f).toInt64 &&& 63))), .int fl, .int an])), (a2, .inl (0, 48, .inl (upd zf f (wf (p + 15))))), (a3, .inl (0, 48, .inl (upd nf f (wf (p + 16))))), (a4, .inl (0, 2400, .inl (va_cpy wf mf (p + 17) (f * 50) 50))), (a6, .inl (0, 961, .inl (va_cpy wf vf (p + 67) (f * 20) 19))), (b, .inl (0, N, .inl wf))] := hF.sub (F' := [(tb, .inr (6, [.int g, .ref a1, .ref a2, .ref a3, .ref a4, .ref a5, .ref a6, .ref a7, .long (kn ||| (1 <<< ((nI f).toInt64 &&& 63))), .int fl, .int an])), (a2, .inl (0, 48, .inl (upd zf f (wf (p + 15))))), (a3, .inl (0, 48, .inl (upd nf f (wf (p + 16))))), (a4, .inl (0, 2400, .inl (va_cpy wf mf (p + 17) (f * 50) 50))), (a6, .inl (0, 961, .inl (va_cpy wf vf (p + 67) (f * 20) 19))), (b, .inl (0, N, .inl wf))]) [2, 0, 3, 4, 1, 5] rfl rfl
  exact ar_ret d_85_110 rfl (⟨rfl, hF9, hn, hs, hf⟩)
def wrD (zf nf mf vf wf : Nat → Int32) (f p : Nat) : Nat → Int32 := va_cpy vf (va_cpy mf (upd (upd wf (p + 15) (zf f)) (p + 16) (nf f)) (f * 50) (p + 17) 50) (f * 20) (p + 67) 19
theorem c_118 {L : Nat} {xs : Nat → Int32} {fr lo : Nat} {h : ax_H} {n sl : Nat} {tb a1 a2 a3 a4 a5 a6 a7 : Nat} {g fl an : Int32} {kn : Int64} {b N p f : Nat} {zf nf mf vf wf : Nat → Int32} (hfr : 2 ≤ fr) (hlo : 70 ≤ lo) (hN : N < 2 ^ 31) (hp : p + 128 ≤ N) (hf0 : f < 48) (hF : ax_hs h [(tb, .inr (6, [.int g, .ref a1, .ref a2, .ref a3, .ref a4, .ref a5, .ref a6, .ref a7, .long kn, .int fl, .int an])), (a2, .inl (0, 48, .inl zf)), (a3, .inl (0, 48, .inl nf)), (a4, .inl (0, 2400, .inl mf)), (a6, .inl (0, 961, .inl vf)), (b, .inl (0, N, .inl wf))]) (hn : h.1 = n) (hs : h.2.1 = sl) (hn0 : 0 < n) : ax_M L xs 118 fr lo [.ref tb, .int (nI f), .ref b, .int (nI p)] h (fun r h' => r = none ∧ ax_hs h' [(tb, .inr (6, [.int g, .ref a1, .ref a2, .ref a3, .ref a4, .ref a5, .ref a6, .ref a7, .long kn, .int fl, .int an])), (a2, .inl (0, 48, .inl zf)), (a3, .inl (0, 48, .inl nf)), (a4, .inl (0, 2400, .inl mf)), (a6, .inl (0, 961, .inl vf)), (b, .inl (0, N, .inl (wrD zf nf mf vf wf f p)))] ∧ h'.1 = n ∧ h'.2.1 = sl ∧ ax_fr (fun x => x ∈ [b]) h h') := by
  show ax_A (ax_step L xs) ((118, 0, fr, lo), [(0, .ref tb), (1, .int (nI f)), (2, .ref b), (3, .int (nI p))], [], h) _
  have hbase : h.1 = n := hn
  have hbasl : h.2.1 = sl := hs
  have hf : ax_fr (fun x => x ∈ [b]) h h := ax_fr.rf
  refine ar_iload_n 1 d_118_0 rfl rfl ?_
  refine ar_bipush 3 (v := 15) d_118_1 rfl (by decide) ?_
  refine ar_iadd 4 d_118_3 rfl ?_
  refine ar_top (x' := nI (p + 15)) (nI_add p 15) ?_
  refine ar_istore 6 [(0, .ref tb), (1, .int (nI f)), (2, .ref b), (3, .int (nI p)), (4, .int (nI (p + 15)))] d_118_4 rfl (by decide) rfl ?_
  refine ar_aload_n 7 d_118_6 rfl rfl ?_
  refine ar_iload 9 d_118_7 rfl rfl ?_
  refine ar_aload_n 10 d_118_9 rfl rfl ?_
  refine ar_getf 13 d_118_10 rfl (ci := 6) (k := 2) rfl (hF.at 0 rfl) rfl ?_
  refine ar_iload_n 14 d_118_13 rfl rfl ?_
  refine ar_iald 15 d_118_14 rfl (hF.at 1 rfl) (nI_in (by omega) (by omega)) ?_
  refine ar_top (x' := zf f) (by rw [nI_clamp (by omega)]) ?_
  refine ar_iast 16 d_118_15 rfl (hF.at 5 rfl) (nI_in (by omega) (by omega)) ?_
  replace hF : ax_hs (ax_put h b (.inl (0, N, .inl (upd wf (nI (p + 15)).toNatClampNeg (zf f))))) [(tb, .inr (6, [.int g, .ref a1, .ref a2, .ref a3, .ref a4, .ref a5, .ref a6, .ref a7, .long kn, .int fl, .int an])), (a2, .inl (0, 48, .inl zf)), (a3, .inl (0, 48, .inl nf)), (a4, .inl (0, 2400, .inl mf)), (a6, .inl (0, 961, .inl vf)), (b, .inl (0, N, .inl (upd wf (nI (p + 15)).toNatClampNeg (zf f))))] := hF.put 5 _ rfl rfl
  replace hf := hf.put (a := b) (c := .inl (0, N, .inl (upd wf (nI (p + 15)).toNatClampNeg (zf f)))) (by simp)
  replace hn : (ax_put h b (.inl (0, N, .inl (upd wf (nI (p + 15)).toNatClampNeg (zf f))))).1 = n := hn
  replace hs : (ax_put h b (.inl (0, N, .inl (upd wf (nI (p + 15)).toNatClampNeg (zf f))))).2.1 = sl := hs
  generalize ax_put h b (.inl (0, N, .inl (upd wf (nI (p + 15)).toNatClampNeg (zf f)))) = h1 at hF hf hn hs ⊢
  refine ar_aload_n 17 d_118_16 rfl rfl ?_
  refine ar_iload 19 d_118_17 rfl rfl ?_
  refine ar_iconst 20 (v := 1) d_118_19 rfl (by decide) ?_
  refine ar_iadd 21 d_118_20 rfl ?_
  refine ar_top (x' := nI (p + 16)) (nI_add (p + 15) 1) ?_
  refine ar_aload_n 22 d_118_21 rfl rfl ?_
  refine ar_getf 25 d_118_22 rfl (ci := 6) (k := 3) rfl (hF.at 0 rfl) rfl ?_
  refine ar_iload_n 26 d_118_25 rfl rfl ?_
  refine ar_iald 27 d_118_26 rfl (hF.at 2 rfl) (nI_in (by omega) (by omega)) ?_
  refine ar_top (x' := nf f) (by rw [nI_clamp (by omega)]) ?_
  refine ar_iast 28 d_118_27 rfl (hF.at 5 rfl) (nI_in (by omega) (by omega)) ?_
  replace hF : ax_hs (ax_put h1 b (.inl (0, N, .inl (upd (upd wf (nI (p + 15)).toNatClampNeg (zf f)) (nI (p + 16)).toNatClampNeg (nf f))))) [(tb, .inr (6, [.int g, .ref a1, .ref a2, .ref a3, .ref a4, .ref a5, .ref a6, .ref a7, .long kn, .int fl, .int an])), (a2, .inl (0, 48, .inl zf)), (a3, .inl (0, 48, .inl nf)), (a4, .inl (0, 2400, .inl mf)), (a6, .inl (0, 961, .inl vf)), (b, .inl (0, N, .inl (upd (upd wf (nI (p + 15)).toNatClampNeg (zf f)) (nI (p + 16)).toNatClampNeg (nf f))))] := hF.put 5 _ rfl rfl
  replace hf := hf.put (a := b) (c := .inl (0, N, .inl (upd (upd wf (nI (p + 15)).toNatClampNeg (zf f)) (nI (p + 16)).toNatClampNeg (nf f)))) (by simp)
  replace hn : (ax_put h1 b (.inl (0, N, .inl (upd (upd wf (nI (p + 15)).toNatClampNeg (zf f)) (nI (p + 16)).toNatClampNeg (nf f))))).1 = n := hn
  replace hs : (ax_put h1 b (.inl (0, N, .inl (upd (upd wf (nI (p + 15)).toNatClampNeg (zf f)) (nI (p + 16)).toNatClampNeg (nf f))))).2.1 = sl := hs
  generalize ax_put h1 b (.inl (0, N, .inl (upd (upd wf (nI (p + 15)).toNatClampNeg (zf f)) (nI (p + 16)).toNatClampNeg (nf f)))) = h2 at hF hf hn hs ⊢
  refine ar_aload_n 29 d_118_28 rfl rfl ?_
  refine ar_iload_n 30 d_118_29 rfl rfl ?_
  refine ar_aload_n 31 d_118_30 rfl rfl ?_
  refine ar_iload 33 d_118_31 rfl rfl ?_
  refine ar_iconst 34 (v := 2) d_118_33 rfl (by decide) ?_
  refine ar_iadd 35 d_118_34 rfl ?_
  refine ar_top (x' := nI (p + 17)) (nI_add (p + 15) 2) ?_
  rw [nI_clamp (show p + 15 < 2 ^ 31 by omega), nI_clamp (show p + 16 < 2 ^ 31 by omega)] at hF
  refine ar_call (r := []) (na := 0) (kd := 0) (cm := 103) (fr2 := fr - 1) (lo2 := lo - 23) 38 d_118_35 (ar_hoV (as := [.int (nI f), .ref b, .int (nI (p + 17))]) rfl rfl rfl (hF.at 0 rfl)) rfl (by omega) (show lo - 23 + (19 + 4) = lo by omega) (Nat.le_of_ble_eq_true rfl) (Nat.le_of_ble_eq_true rfl) (c_103 (by omega) (by omega) hf0 hN (by omega) (hF.sub (F' := [(tb, .inr (6, [.int g, .ref a1, .ref a2, .ref a3, .ref a4, .ref a5, .ref a6, .ref a7, .long kn, .int fl, .int an])), (a4, .inl (0, 2400, .inl mf)), (b, .inl (0, N, .inl (upd (upd wf (p + 15) (zf f)) (p + 16) (nf f))))]) [0, 3, 5] rfl rfl) hn hs (by omega)) ?_
  intro v h3 hq
  obtain ⟨rfl, qF, qn, qs, qf⟩ := hq
  have qF : ax_hs h3 [(tb, .inr (6, [.int g, .ref a1, .ref a2, .ref a3, .ref a4, .ref a5, .ref a6, .ref a7, .long kn, .int fl, .int an])), (a4, .inl (0, 2400, .inl mf)), (b, .inl (0, N, .inl (va_cpy mf (upd (upd wf (p + 15) (zf f)) (p + 16) (nf f)) (f * 50) (p + 17) 50)))] := qF
  replace hF : ax_hs h3 [(a2, .inl (0, 48, .inl zf)), (a3, .inl (0, 48, .inl nf)), (a6, .inl (0, 961, .inl vf)), (tb, .inr (6, [.int g, .ref a1, .ref a2, .ref a3, .ref a4, .ref a5, .ref a6, .ref a7, .long kn, .int fl, .int an])), (a4, .inl (0, 2400, .inl mf)), (b, .inl (0, N, .inl (va_cpy mf (upd (upd wf (p + 15) (zf f)) (p + 16) (nf f)) (f * 50) (p + 17) 50)))] := ax_hs.call (rest := [(a2, .inl (0, 48, .inl zf)), (a3, .inl (0, 48, .inl nf)), (a6, .inl (0, 961, .inl vf))]) [0, 3, 5] [1, 2, 4] hF qf qF rfl rfl rfl [5] rfl rfl [0, 3, 5] (news := []) rfl rfl (fun _ z => absurd z List.not_mem_nil) rfl
  replace hf := hf.trC qf (by intro x hx hB; simp at hB; first | (rcases hB with rfl <;> first | omega | simp) | omega | simp [hB])
  replace hn : h3.1 = n := by omega
  replace hs : h3.2.1 = sl := by omega
  have qf0 := qf
  clear qF qn qs qf
  refine ar_aload_n 39 d_118_38 rfl rfl ?_
  refine ar_getf 42 d_118_39 rfl (ci := 6) (k := 6) rfl (hF.at 3 rfl) rfl ?_
  refine ar_iload_n 43 d_118_42 rfl rfl ?_
  refine ar_bipush 45 (v := 20) d_118_43 rfl (by decide) ?_
  refine ar_imul 46 d_118_45 rfl ?_
  refine ar_top (x' := nI (f * 20)) (pk_mul f 20) ?_
  refine ar_aload_n 47 d_118_46 rfl rfl ?_
  refine ar_iload 49 d_118_47 rfl rfl ?_
  refine ar_iconst 50 (v := 2) d_118_49 rfl (by decide) ?_
  refine ar_iadd 51 d_118_50 rfl ?_
  refine ar_top (x' := nI (p + 17)) (nI_add (p + 15) 2) ?_
  refine ar_bipush 53 (v := 50) d_118_51 rfl (by decide) ?_
  refine ar_iadd 54 d_118_53 rfl ?_
  refine ar_top (x' := nI (p + 67)) (nI_add (p + 17) 50) ?_
  refine ar_bipush 56 (v := 19) d_118_54 rfl (by decide) ?_
  refine ar_copy 59 d_118_56 rfl rfl (by omega) (by show 0 + (nativeFrameWords "java/lang/System" "arraycopy" 5 + 11) ≤ lo; rw [nfw_copy]; omega) (hF.at 2 rfl) (hF.at 5 rfl) (Int32.not_lt.mpr (nI_le (Nat.zero_le _) (by omega))) (Int32.not_lt.mpr (nI_le (Nat.zero_le _) (by omega))) (by decide) (by rw [nI_clamp (by omega)]; show f * 20 + 19 ≤ 961; omega) (by rw [nI_clamp (by omega)]; show p + 67 + 19 ≤ N; omega) ?_
  replace hF : ax_hs (ax_put h3 b (.inl (0, N, .inl (va_cpy vf (va_cpy mf (upd (upd wf (p + 15) (zf f)) (p + 16) (nf f)) (f * 50) (p + 17) 50) ((nI (f * 20)).toNatClampNeg) ((nI (p + 67)).toNatClampNeg) ((19 : Int32).toNatClampNeg))))) [(a2, .inl (0, 48, .inl zf)), (a3, .inl (0, 48, .inl nf)), (a6, .inl (0, 961, .inl vf)), (tb, .inr (6, [.int g, .ref a1, .ref a2, .ref a3, .ref a4, .ref a5, .ref a6, .ref a7, .long kn, .int fl, .int an])), (a4, .inl (0, 2400, .inl mf)), (b, .inl (0, N, .inl (va_cpy vf (va_cpy mf (upd (upd wf (p + 15) (zf f)) (p + 16) (nf f)) (f * 50) (p + 17) 50) ((nI (f * 20)).toNatClampNeg) ((nI (p + 67)).toNatClampNeg) ((19 : Int32).toNatClampNeg))))] := hF.put 5 _ rfl rfl
  replace hf := hf.put (a := b) (c := .inl (0, N, .inl (va_cpy vf (va_cpy mf (upd (upd wf (p + 15) (zf f)) (p + 16) (nf f)) (f * 50) (p + 17) 50) ((nI (f * 20)).toNatClampNeg) ((nI (p + 67)).toNatClampNeg) ((19 : Int32).toNatClampNeg)))) (by simp)
  replace hn : (ax_put h3 b (.inl (0, N, .inl (va_cpy vf (va_cpy mf (upd (upd wf (p + 15) (zf f)) (p + 16) (nf f)) (f * 50) (p + 17) 50) ((nI (f * 20)).toNatClampNeg) ((nI (p + 67)).toNatClampNeg) ((19 : Int32).toNatClampNeg))))).1 = n := hn
  replace hs : (ax_put h3 b (.inl (0, N, .inl (va_cpy vf (va_cpy mf (upd (upd wf (p + 15) (zf f)) (p + 16) (nf f)) (f * 50) (p + 17) 50) ((nI (f * 20)).toNatClampNeg) ((nI (p + 67)).toNatClampNeg) ((19 : Int32).toNatClampNeg))))).2.1 = sl := hs
  generalize ax_put h3 b (.inl (0, N, .inl (va_cpy vf (va_cpy mf (upd (upd wf (p + 15) (zf f)) (p + 16) (nf f)) (f * 50) (p + 17) 50) ((nI (f * 20)).toNatClampNeg) ((nI (p + 67)).toNatClampNeg) ((19 : Int32).toNatClampNeg)))) = h4 at hF hf hn hs ⊢
  rw [nI_clamp (show p + 67 < 2 ^ 31 by omega), nI_clamp (show f * 20 < 2 ^ 31 by omega)] at hF
  have hF9 : ax_hs _ [(tb, .inr (6, [.int g, .ref a1, .ref a2, .ref a3, .ref a4, .ref a5, .ref a6, .ref a7, .long kn, .int fl, .int an])), (a2, .inl (0, 48, .inl zf)), (a3, .inl (0, 48, .inl nf)), (a4, .inl (0, 2400, .inl mf)), (a6, .inl (0, 961, .inl vf)), (b, .inl (0, N, .inl (wrD zf nf mf vf wf f p)))] := hF.sub (F' := [(tb, .inr (6, [.int g, .ref a1, .ref a2, .ref a3, .ref a4, .ref a5, .ref a6, .ref a7, .long kn, .int fl, .int an])), (a2, .inl (0, 48, .inl zf)), (a3, .inl (0, 48, .inl nf)), (a4, .inl (0, 2400, .inl mf)), (a6, .inl (0, 961, .inl vf)), (b, .inl (0, N, .inl (wrD zf nf mf vf wf f p)))]) [3, 0, 1, 4, 2, 5] rfl rfl
  exact ar_ret d_118_59 rfl (⟨rfl, hF9, hn, hs, hf⟩)
def wrR (fo vf : Nat → Int32) (p : Nat) : Nat → Nat → Nat → (Nat → Int32) → (Nat → Int32)
  | 0, _, _, wf => wf
  | k + 1, i, m, wf => if 48 ≤ m then wf else if fo i < 0 then wrR fo vf p k (i + 1) m wf else wrR fo vf p k (i + 1) (m + 1) (upd (upd wf (p + 17 + 2 * m) (nI i)) (p + 18 + 2 * m) (vf ((fo i).toNatClampNeg * 20 + 19)))
theorem lp_122 {L : Nat} {xs : Nat → Int32} {fr lo n sl : Nat} {tb a1 a2 a3 a4 a5 a6 a7 : Nat} {g fl an : Int32} {kn : Int64} {b N p : Nat} {fo vf : Nat → Int32} {post : ax_Po} (hN : N < 2 ^ 31) (hp : p + 128 ≤ N) (hfo : ∀ i, i < 512 → (fo i).toNatClampNeg < 48) : ∀ (k i m : Nat) (h : ax_H) (wf : Nat → Int32), i + k = 512 → m ≤ 48 → ax_hs h [(tb, .inr (6, [.int g, .ref a1, .ref a2, .ref a3, .ref a4, .ref a5, .ref a6, .ref a7, .long kn, .int fl, .int an])), (a5, .inl (0, 512, .inl fo)), (a6, .inl (0, 961, .inl vf)), (b, .inl (0, N, .inl wf))] → h.1 = n → h.2.1 = sl → (∀ h', ax_hs h' [(tb, .inr (6, [.int g, .ref a1, .ref a2, .ref a3, .ref a4, .ref a5, .ref a6, .ref a7, .long kn, .int fl, .int an])), (a5, .inl (0, 512, .inl fo)), (a6, .inl (0, 961, .inl vf)), (b, .inl (0, N, .inl (wrR fo vf p k i m wf)))] → h'.1 = n → h'.2.1 = sl → ax_fr (fun x => x ∈ [b]) h h' → post none h') → ax_A (ax_step L xs) ((122, 27, fr, lo), [(0, .ref tb), (1, .ref b), (2, .int (nI p)), (3, .int (nI (p + 15))), (4, .int (nI m)), (5, .int (nI i))], [], h) post := by
  intro k
  induction k with
  | zero =>
    intro i m h wf hi hm hF hn hs kk
    have e : i = 512 := by omega
    subst e
    refine ar_iload 29 d_122_27 rfl rfl ?_
    refine ar_sipush 32 (v := 512) d_122_29 rfl (by decide) ?_
    refine ar_top (x' := nI 512) rfl ?_
    refine ar_icmp_ge 101 35 d_122_32 (by decide) rfl (fun _ => ?_) (fun c => absurd (Int32.le_refl _) c)
    exact ar_ret d_122_101 rfl (kk h hF hn hs ax_fr.rf)
  | succ k ih =>
    intro i m h wf hi hm hF hn hs kk
    have hi5 : i < 512 := by omega
    have hbase : h.1 = n := hn
    have hbasl : h.2.1 = sl := hs
    have hf : ax_fr (fun x => x ∈ [b]) h h := ax_fr.rf
    refine ar_iload 29 d_122_27 rfl rfl ?_
    refine ar_sipush 32 (v := 512) d_122_29 rfl (by decide) ?_
    refine ar_top (x' := nI 512) rfl ?_
    refine ar_icmp_ge 101 35 d_122_32 (by decide) rfl (fun c => absurd c (nI_ge hi5 (by omega))) (fun _ => ?_)
    refine ar_iload 37 d_122_35 rfl rfl ?_
    refine ar_bipush 39 (v := 48) d_122_37 rfl (by decide) ?_
    refine ar_top (x' := nI 48) rfl ?_
    refine ar_icmp_ge 101 42 d_122_39 (by decide) rfl (fun c1 => ?_) (fun c1 => ?_)
    · have k1 : 48 ≤ m := (nI_leI (by omega) (by omega)).mp c1
      rw [show wrR fo vf p (k + 1) i m wf = wf from if_pos k1] at kk
      exact ar_ret d_122_101 rfl (kk h hF hn hs ax_fr.rf)
    · have k1 : ¬ 48 ≤ m := fun z => c1 ((nI_leI (by omega) (by omega)).mpr z)
      refine ar_aload_n 43 d_122_42 rfl rfl ?_
      refine ar_getf 46 d_122_43 rfl (ci := 6) (k := 5) rfl (hF.at 0 rfl) rfl ?_
      refine ar_iload 48 d_122_46 rfl rfl ?_
      refine ar_iald 49 d_122_48 rfl (hF.at 1 rfl) (nI_in (by omega) (by omega)) ?_
      refine ar_top (x' := fo i) (by rw [nI_clamp (by omega)]) ?_
      refine ar_if_lt 95 52 d_122_49 (by decide) rfl (fun c2 => ?_) (fun c2 => ?_)
      · refine ar_iinc 98 [(0, .ref tb), (1, .ref b), (2, .int (nI p)), (3, .int (nI (p + 15))), (4, .int (nI m)), (5, .int (nI (i + 1)))] d_122_95 rfl rfl (nI_1 i) (by decide) rfl ?_
        refine ar_goto 27 d_122_98 (by decide) ?_
        rw [show wrR fo vf p (k + 1) i m wf = wrR fo vf p k (i + 1) m wf from (if_neg k1).trans (if_pos c2)] at kk
        exact ih (i + 1) m h wf (by omega) hm hF hn hs kk
      · have k3 := nI_cl c2
        have k4 := hfo i hi5
        refine ar_aload_n 53 d_122_52 rfl rfl ?_
        refine ar_iload_n 54 d_122_53 rfl rfl ?_
        refine ar_iconst 55 (v := 2) d_122_54 rfl (by decide) ?_
        refine ar_iadd 56 d_122_55 rfl ?_
        refine ar_top (x' := nI (p + 17)) (nI_add (p + 15) 2) ?_
        refine ar_iconst 57 (v := 2) d_122_56 rfl (by decide) ?_
        refine ar_iload 59 d_122_57 rfl rfl ?_
        refine ar_imul 60 d_122_59 rfl ?_
        refine ar_top (x' := nI (2 * m)) (pk_mul 2 m) ?_
        refine ar_iadd 61 d_122_60 rfl ?_
        refine ar_top (x' := nI (p + 17 + 2 * m)) (nI_add (p + 17) (2 * m)) ?_
        refine ar_iload 63 d_122_61 rfl rfl ?_
        refine ar_iast 64 d_122_63 rfl (hF.at 3 rfl) (nI_in (by omega) (by omega)) ?_
        replace hF : ax_hs (ax_put h b (.inl (0, N, .inl (upd wf (nI (p + 17 + 2 * m)).toNatClampNeg (nI i))))) [(tb, .inr (6, [.int g, .ref a1, .ref a2, .ref a3, .ref a4, .ref a5, .ref a6, .ref a7, .long kn, .int fl, .int an])), (a5, .inl (0, 512, .inl fo)), (a6, .inl (0, 961, .inl vf)), (b, .inl (0, N, .inl (upd wf (nI (p + 17 + 2 * m)).toNatClampNeg (nI i))))] := hF.put 3 _ rfl rfl
        replace hf := hf.put (a := b) (c := .inl (0, N, .inl (upd wf (nI (p + 17 + 2 * m)).toNatClampNeg (nI i)))) (by simp)
        replace hn : (ax_put h b (.inl (0, N, .inl (upd wf (nI (p + 17 + 2 * m)).toNatClampNeg (nI i))))).1 = n := hn
        replace hs : (ax_put h b (.inl (0, N, .inl (upd wf (nI (p + 17 + 2 * m)).toNatClampNeg (nI i))))).2.1 = sl := hs
        generalize ax_put h b (.inl (0, N, .inl (upd wf (nI (p + 17 + 2 * m)).toNatClampNeg (nI i)))) = h1 at hF hf hn hs ⊢
        refine ar_aload_n 65 d_122_64 rfl rfl ?_
        refine ar_iload_n 66 d_122_65 rfl rfl ?_
        refine ar_iconst 67 (v := 3) d_122_66 rfl (by decide) ?_
        refine ar_iadd 68 d_122_67 rfl ?_
        refine ar_top (x' := nI (p + 18)) (nI_add (p + 15) 3) ?_
        refine ar_iconst 69 (v := 2) d_122_68 rfl (by decide) ?_
        refine ar_iload 71 d_122_69 rfl rfl ?_
        refine ar_imul 72 d_122_71 rfl ?_
        refine ar_top (x' := nI (2 * m)) (pk_mul 2 m) ?_
        refine ar_iadd 73 d_122_72 rfl ?_
        refine ar_top (x' := nI (p + 18 + 2 * m)) (nI_add (p + 18) (2 * m)) ?_
        refine ar_aload_n 74 d_122_73 rfl rfl ?_
        refine ar_getf 77 d_122_74 rfl (ci := 6) (k := 6) rfl (hF.at 0 rfl) rfl ?_
        refine ar_aload_n 78 d_122_77 rfl rfl ?_
        refine ar_getf 81 d_122_78 rfl (ci := 6) (k := 5) rfl (hF.at 0 rfl) rfl ?_
        refine ar_iload 83 d_122_81 rfl rfl ?_
        refine ar_iald 84 d_122_83 rfl (hF.at 1 rfl) (nI_in (by omega) (by omega)) ?_
        refine ar_top (x' := fo i) (by rw [nI_clamp (by omega)]) ?_
        refine ar_bipush 86 (v := 20) d_122_84 rfl (by decide) ?_
        refine ar_imul 87 d_122_86 rfl ?_
        refine ar_top (x' := nI ((fo i).toNatClampNeg * 20)) (by rw [← pk_mul, ← k3]; rfl) ?_
        refine ar_bipush 89 (v := 19) d_122_87 rfl (by decide) ?_
        refine ar_iadd 90 d_122_89 rfl ?_
        refine ar_top (x' := nI ((fo i).toNatClampNeg * 20 + 19)) (nI_add _ 19) ?_
        refine ar_iald 91 d_122_90 rfl (hF.at 2 rfl) (nI_in (by omega) (by omega)) ?_
        refine ar_top (x' := vf ((fo i).toNatClampNeg * 20 + 19)) (by rw [nI_clamp (by omega)]) ?_
        refine ar_iast 92 d_122_91 rfl (hF.at 3 rfl) (nI_in (by omega) (by omega)) ?_
        replace hF : ax_hs (ax_put h1 b (.inl (0, N, .inl (upd (upd wf (nI (p + 17 + 2 * m)).toNatClampNeg (nI i)) (nI (p + 18 + 2 * m)).toNatClampNeg (vf ((fo i).toNatClampNeg * 20 + 19)))))) [(tb, .inr (6, [.int g, .ref a1, .ref a2, .ref a3, .ref a4, .ref a5, .ref a6, .ref a7, .long kn, .int fl, .int an])), (a5, .inl (0, 512, .inl fo)), (a6, .inl (0, 961, .inl vf)), (b, .inl (0, N, .inl (upd (upd wf (nI (p + 17 + 2 * m)).toNatClampNeg (nI i)) (nI (p + 18 + 2 * m)).toNatClampNeg (vf ((fo i).toNatClampNeg * 20 + 19)))))] := hF.put 3 _ rfl rfl
        replace hf := hf.put (a := b) (c := .inl (0, N, .inl (upd (upd wf (nI (p + 17 + 2 * m)).toNatClampNeg (nI i)) (nI (p + 18 + 2 * m)).toNatClampNeg (vf ((fo i).toNatClampNeg * 20 + 19))))) (by simp)
        replace hn : (ax_put h1 b (.inl (0, N, .inl (upd (upd wf (nI (p + 17 + 2 * m)).toNatClampNeg (nI i)) (nI (p + 18 + 2 * m)).toNatClampNeg (vf ((fo i).toNatClampNeg * 20 + 19)))))).1 = n := hn
        replace hs : (ax_put h1 b (.inl (0, N, .inl (upd (upd wf (nI (p + 17 + 2 * m)).toNatClampNeg (nI i)) (nI (p + 18 + 2 * m)).toNatClampNeg (vf ((fo i).toNatClampNeg * 20 + 19)))))).2.1 = sl := hs
        generalize ax_put h1 b (.inl (0, N, .inl (upd (upd wf (nI (p + 17 + 2 * m)).toNatClampNeg (nI i)) (nI (p + 18 + 2 * m)).toNatClampNeg (vf ((fo i).toNatClampNeg * 20 + 19))))) = h2 at hF hf hn hs ⊢
        refine ar_iinc 95 [(0, .ref tb), (1, .ref b), (2, .int (nI p)), (3, .int (nI (p + 15))), (4, .int (nI (m + 1))), (5, .int (nI i))] d_122_92 rfl rfl (nI_1 m) (by decide) rfl ?_
        refine ar_iinc 98 [(0, .ref tb), (1, .ref b), (2, .int (nI p)), (3, .int (nI (p + 15))), (4, .int (nI (m + 1))), (5, .int (nI (i + 1)))] d_122_95 rfl rfl (nI_1 i) (by decide) rfl ?_
        refine ar_goto 27 d_122_98 (by decide) ?_
        rw [nI_clamp (show p + 17 + 2 * m < 2 ^ 31 by omega), nI_clamp (show p + 18 + 2 * m < 2 ^ 31 by omega)] at hF
        rw [show wrR fo vf p (k + 1) i m wf = wrR fo vf p k (i + 1) (m + 1) _ from (if_neg k1).trans (if_neg c2)] at kk
        exact ih (i + 1) (m + 1) h2 _ (by omega) (by omega) hF hn hs (fun h' j1 j2 j3 j4 => kk h' j1 j2 j3 (hf.tr j4))
theorem c_122 {L : Nat} {xs : Nat → Int32} {fr lo : Nat} {h : ax_H} {n sl : Nat} {tb a1 a2 a3 a4 a5 a6 a7 : Nat} {g fl an : Int32} {kn : Int64} {b N p : Nat} {fo vf wf : Nat → Int32} (hN : N < 2 ^ 31) (hp : p + 128 ≤ N) (hfo : ∀ i, i < 512 → (fo i).toNatClampNeg < 48) (hF : ax_hs h [(tb, .inr (6, [.int g, .ref a1, .ref a2, .ref a3, .ref a4, .ref a5, .ref a6, .ref a7, .long kn, .int fl, .int an])), (a5, .inl (0, 512, .inl fo)), (a6, .inl (0, 961, .inl vf)), (b, .inl (0, N, .inl wf))]) (hn : h.1 = n) (hs : h.2.1 = sl) (hn0 : 0 < n) : ax_M L xs 122 fr lo [.ref tb, .ref b, .int (nI p)] h (fun r h' => r = none ∧ ax_hs h' [(tb, .inr (6, [.int g, .ref a1, .ref a2, .ref a3, .ref a4, .ref a5, .ref a6, .ref a7, .long kn, .int fl, .int an])), (a5, .inl (0, 512, .inl fo)), (a6, .inl (0, 961, .inl vf)), (b, .inl (0, N, .inl (wrR fo vf p 512 0 0 (upd (upd wf (p + 15) fl) (p + 16) an))))] ∧ h'.1 = n ∧ h'.2.1 = sl ∧ ax_fr (fun x => x ∈ [b]) h h') := by
  show ax_A (ax_step L xs) ((122, 0, fr, lo), [(0, .ref tb), (1, .ref b), (2, .int (nI p))], [], h) _
  have hbase : h.1 = n := hn
  have hbasl : h.2.1 = sl := hs
  have hf : ax_fr (fun x => x ∈ [b]) h h := ax_fr.rf
  refine ar_iload_n 1 d_122_0 rfl rfl ?_
  refine ar_bipush 3 (v := 15) d_122_1 rfl (by decide) ?_
  refine ar_iadd 4 d_122_3 rfl ?_
  refine ar_top (x' := nI (p + 15)) (nI_add p 15) ?_
  refine ar_istore_n 5 [(0, .ref tb), (1, .ref b), (2, .int (nI p)), (3, .int (nI (p + 15)))] d_122_4 rfl (by decide) rfl ?_
  refine ar_aload_n 6 d_122_5 rfl rfl ?_
  refine ar_iload_n 7 d_122_6 rfl rfl ?_
  refine ar_aload_n 8 d_122_7 rfl rfl ?_
  refine ar_getf 11 d_122_8 rfl (ci := 6) (k := 9) rfl (hF.at 0 rfl) rfl ?_
  refine ar_iast 12 d_122_11 rfl (hF.at 3 rfl) (nI_in (by omega) (by omega)) ?_
  replace hF : ax_hs (ax_put h b (.inl (0, N, .inl (upd wf (nI (p + 15)).toNatClampNeg fl)))) [(tb, .inr (6, [.int g, .ref a1, .ref a2, .ref a3, .ref a4, .ref a5, .ref a6, .ref a7, .long kn, .int fl, .int an])), (a5, .inl (0, 512, .inl fo)), (a6, .inl (0, 961, .inl vf)), (b, .inl (0, N, .inl (upd wf (nI (p + 15)).toNatClampNeg fl)))] := hF.put 3 _ rfl rfl
  replace hf := hf.put (a := b) (c := .inl (0, N, .inl (upd wf (nI (p + 15)).toNatClampNeg fl))) (by simp)
  replace hn : (ax_put h b (.inl (0, N, .inl (upd wf (nI (p + 15)).toNatClampNeg fl)))).1 = n := hn
  replace hs : (ax_put h b (.inl (0, N, .inl (upd wf (nI (p + 15)).toNatClampNeg fl)))).2.1 = sl := hs
  generalize ax_put h b (.inl (0, N, .inl (upd wf (nI (p + 15)).toNatClampNeg fl))) = h1 at hF hf hn hs ⊢
  refine ar_aload_n 13 d_122_12 rfl rfl ?_
  refine ar_iload_n 14 d_122_13 rfl rfl ?_
  refine ar_iconst 15 (v := 1) d_122_14 rfl (by decide) ?_
  refine ar_iadd 16 d_122_15 rfl ?_
  refine ar_top (x' := nI (p + 16)) (nI_add (p + 15) 1) ?_
  refine ar_aload_n 17 d_122_16 rfl rfl ?_
  refine ar_getf 20 d_122_17 rfl (ci := 6) (k := 10) rfl (hF.at 0 rfl) rfl ?_
  refine ar_iast 21 d_122_20 rfl (hF.at 3 rfl) (nI_in (by omega) (by omega)) ?_
  replace hF : ax_hs (ax_put h1 b (.inl (0, N, .inl (upd (upd wf (nI (p + 15)).toNatClampNeg fl) (nI (p + 16)).toNatClampNeg an)))) [(tb, .inr (6, [.int g, .ref a1, .ref a2, .ref a3, .ref a4, .ref a5, .ref a6, .ref a7, .long kn, .int fl, .int an])), (a5, .inl (0, 512, .inl fo)), (a6, .inl (0, 961, .inl vf)), (b, .inl (0, N, .inl (upd (upd wf (nI (p + 15)).toNatClampNeg fl) (nI (p + 16)).toNatClampNeg an)))] := hF.put 3 _ rfl rfl
  replace hf := hf.put (a := b) (c := .inl (0, N, .inl (upd (upd wf (nI (p + 15)).toNatClampNeg fl) (nI (p + 16)).toNatClampNeg an))) (by simp)
  replace hn : (ax_put h1 b (.inl (0, N, .inl (upd (upd wf (nI (p + 15)).toNatClampNeg fl) (nI (p + 16)).toNatClampNeg an)))).1 = n := hn
  replace hs : (ax_put h1 b (.inl (0, N, .inl (upd (upd wf (nI (p + 15)).toNatClampNeg fl) (nI (p + 16)).toNatClampNeg an)))).2.1 = sl := hs
  generalize ax_put h1 b (.inl (0, N, .inl (upd (upd wf (nI (p + 15)).toNatClampNeg fl) (nI (p + 16)).toNatClampNeg an))) = h2 at hF hf hn hs ⊢
  refine ar_iconst 22 (v := 0) d_122_21 rfl (by decide) ?_
  refine ar_istore 24 [(0, .ref tb), (1, .ref b), (2, .int (nI p)), (3, .int (nI (p + 15))), (4, .int 0)] d_122_22 rfl (by decide) rfl ?_
  refine ar_iconst 25 (v := 0) d_122_24 rfl (by decide) ?_
  refine ar_istore 27 [(0, .ref tb), (1, .ref b), (2, .int (nI p)), (3, .int (nI (p + 15))), (4, .int 0), (5, .int 0)] d_122_25 rfl (by decide) rfl ?_
  rw [nI_clamp (show p + 15 < 2 ^ 31 by omega), nI_clamp (show p + 16 < 2 ^ 31 by omega)] at hF
  exact lp_122 hN hp hfo 512 0 0 h2 _ (by omega) (by omega) hF hn hs (fun h' j1 j2 j3 j4 => ⟨rfl, j1, j2, j3, hf.tr j4⟩)


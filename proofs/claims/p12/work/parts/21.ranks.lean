/-! Ranks: draw, the constructor, nodeOf, maskOf -/
theorem c_8 {L : Nat} {xs : Nat → Int32} {fr lo : Nat} {h : ax_H} {g n : Int32} : ax_M L xs 8 fr lo [.int g, .int n] h (fun r h' => ∃ z, r = some (.int z) ∧ h' = h) := by
  show ax_A (ax_step L xs) ((8, 0, fr, lo), [(0, .int g), (1, .int n)], [], h) _
  refine ar_iload_n 1 d_8_0 rfl rfl ?_
  refine ar_ldc 3 d_8_1 rfl (v := 40503) rfl ?_
  refine ar_imul 4 d_8_3 rfl ?_
  refine ar_iload_n 5 d_8_4 rfl rfl ?_
  refine ar_sipush 8 (v := 30011) d_8_5 rfl (by decide) ?_
  refine ar_imul 9 d_8_8 rfl ?_
  refine ar_iadd 10 d_8_9 rfl ?_
  refine ar_sipush 13 (v := 12345) d_8_10 rfl (by decide) ?_
  refine ar_iadd 14 d_8_13 rfl ?_
  refine ar_istore_n 15 [(0, .int g), (1, .int n), (2, .int (((g * 40503) + (n * 30011)) + 12345))] d_8_14 rfl (by decide) rfl ?_
  refine ar_iload_n 16 d_8_15 rfl rfl ?_
  refine ar_iload_n 17 d_8_16 rfl rfl ?_
  refine ar_bipush 19 (v := 7) d_8_17 rfl (by decide) ?_
  refine ar_iushr 20 d_8_19 rfl ?_
  refine ar_ixor 21 d_8_20 rfl ?_
  refine ar_ldc 23 d_8_21 rfl (v := 73244475) rfl ?_
  refine ar_imul 24 d_8_23 rfl ?_
  refine ar_istore_n 25 [(0, .int g), (1, .int n), (2, .int (((((g * 40503) + (n * 30011)) + 12345) ^^^ (((((g * 40503) + (n * 30011)) + 12345).toUInt32 >>> ((7 : Int32).toUInt32 &&& Int32.toUInt32 31)).toInt32)) * 73244475))] d_8_24 rfl (by decide) rfl ?_
  refine ar_iload_n 26 d_8_25 rfl rfl ?_
  refine ar_iload_n 27 d_8_26 rfl rfl ?_
  refine ar_bipush 29 (v := 13) d_8_27 rfl (by decide) ?_
  refine ar_iushr 30 d_8_29 rfl ?_
  refine ar_ixor 31 d_8_30 rfl ?_
  refine ar_ldc 33 d_8_31 rfl (v := 19349663) rfl ?_
  refine ar_imul 34 d_8_33 rfl ?_
  refine ar_istore_n 35 [(0, .int g), (1, .int n), (2, .int (((((((g * 40503) + (n * 30011)) + 12345) ^^^ (((((g * 40503) + (n * 30011)) + 12345).toUInt32 >>> ((7 : Int32).toUInt32 &&& Int32.toUInt32 31)).toInt32)) * 73244475) ^^^ (((((((g * 40503) + (n * 30011)) + 12345) ^^^ (((((g * 40503) + (n * 30011)) + 12345).toUInt32 >>> ((7 : Int32).toUInt32 &&& Int32.toUInt32 31)).toInt32)) * 73244475).toUInt32 >>> ((13 : Int32).toUInt32 &&& Int32.toUInt32 31)).toInt32)) * 19349663))] d_8_34 rfl (by decide) rfl ?_
  refine ar_iload_n 36 d_8_35 rfl rfl ?_
  refine ar_iload_n 37 d_8_36 rfl rfl ?_
  refine ar_bipush 39 (v := 16) d_8_37 rfl (by decide) ?_
  refine ar_iushr 40 d_8_39 rfl ?_
  refine ar_ixor 41 d_8_40 rfl ?_
  refine ar_ldc 43 d_8_41 rfl (v := 2147483647) rfl ?_
  refine ar_iand 44 d_8_43 rfl ?_
  exact ar_iret d_8_44 rfl rfl (⟨_, rfl, rfl⟩)
/-- every entry is the number of a NODE -/
def Rg (nn : Nat) (f : Nat → Int32) : Prop := ∀ j, ∃ v, v < nn ∧ f j = nI v
theorem Rg.upd {nn k v : Nat} {f : Nat → Int32} (h : Rg nn f) (hv : v < nn) : Rg nn (upd f k (nI v)) := fun j => by
  by_cases hj : j = k
  · subst hj
    exact ⟨v, hv, pk_us⟩
  · rw [pk_un hj]
    exact h j
theorem ix_a (g nn i : Nat) : nI g * nI nn + nI i = nI (g * nn + i) := by rw [pk_mul, nI_add]
theorem ix_lt {g gg nn i : Nat} (hg : g < gg) (hi : i < nn) : g * nn + i < gg * nn := by
  have h1 : (g + 1) * nn ≤ gg * nn := Nat.mul_le_mul_right nn hg
  have h2 : (g + 1) * nn = g * nn + nn := Nat.succ_mul g nn
  omega
theorem ix_b {gg nn : Nat} (h1 : gg ≤ 16) (h2 : nn ≤ 6) : gg * nn ≤ 96 := Nat.le_trans (Nat.mul_le_mul h1 h2) (by decide)
theorem Rg.at {nn : Nat} {f : Nat → Int32} (h : Rg nn f) (j : Nat) : ∃ v, v < nn ∧ f j = nI v := h j
theorem lq_7 {L : Nat} {xs : Nat → Int32} {fr lo rk o nn gg : Nat} {C : Int32} {post : ax_Po} {g m i n sl : Nat} {h : ax_H} {f : Nat → Int32} (hfr : 1 ≤ fr) (hlo : 22 ≤ lo) (hgg : gg ≤ 16) (hnn : nn ≤ 6) (hg : g < gg) (hm : m < nn) (hi : i ≤ m) (hF : ax_hs h [(rk, .inr (3, [.int (nI nn), .int C, .int (nI gg), .ref o])), (o, .inl (0, gg * nn, .inl f))]) (hR : Rg nn f) (hn : h.1 = n) (hs : h.2.1 = sl)
    (kk : ∀ (h' : ax_H) (f' : Nat → Int32), ax_hs h' [(rk, .inr (3, [.int (nI nn), .int C, .int (nI gg), .ref o])), (o, .inl (0, gg * nn, .inl f'))] → Rg nn f' → h'.1 = n → h'.2.1 = sl → ax_fr (fun x => x ∈ [o]) h h' → ax_A (ax_step L xs) ((7, 130, fr, lo), [(0, .ref rk), (1, .int (nI nn)), (2, .int C), (3, .int (nI gg)), (4, .int (nI g)), (5, .int (nI m)), (6, .int (nI i))], [], h') post) : ax_A (ax_step L xs) ((7, 116, fr, lo), [(0, .ref rk), (1, .int (nI nn)), (2, .int C), (3, .int (nI gg)), (4, .int (nI g)), (5, .int (nI m)), (6, .int (nI i))], [], h) post := by
  have hb := ix_b hgg hnn
  have hx := ix_lt hg (show i < nn by omega)
  have hbase : h.1 = n := hn
  have hbasl : h.2.1 = sl := hs
  have hf : ax_fr (fun x => x ∈ [o]) h h := ax_fr.rf
  refine ar_aload_n 117 d_7_116 rfl rfl ?_
  refine ar_getf 120 d_7_117 rfl (ci := 3) (k := 3) rfl (hF.at 0 rfl) rfl ?_
  refine ar_iload 122 d_7_120 rfl rfl ?_
  refine ar_iload_n 123 d_7_122 rfl rfl ?_
  refine ar_imul 124 d_7_123 rfl ?_
  refine ar_iload 126 d_7_124 rfl rfl ?_
  refine ar_iadd 127 d_7_126 rfl ?_
  refine ar_top (x' := nI (g * nn + i)) (ix_a g nn i) ?_
  refine ar_iload 129 d_7_127 rfl rfl ?_
  refine ar_iast 130 d_7_129 rfl (hF.at 1 rfl) (vp_in_nI hx (by omega)) ?_
  replace hF : ax_hs (ax_put h o (.inl (0, gg * nn, .inl (upd f (nI (g * nn + i)).toNatClampNeg (nI m))))) [(rk, .inr (3, [.int (nI nn), .int C, .int (nI gg), .ref o])), (o, .inl (0, gg * nn, .inl (upd f (nI (g * nn + i)).toNatClampNeg (nI m))))] := hF.put 1 _ rfl rfl
  replace hf := hf.put (a := o) (c := .inl (0, gg * nn, .inl (upd f (nI (g * nn + i)).toNatClampNeg (nI m)))) (by simp)
  replace hn : (ax_put h o (.inl (0, gg * nn, .inl (upd f (nI (g * nn + i)).toNatClampNeg (nI m))))).1 = n := hn
  replace hs : (ax_put h o (.inl (0, gg * nn, .inl (upd f (nI (g * nn + i)).toNatClampNeg (nI m))))).2.1 = sl := hs
  generalize ax_put h o (.inl (0, gg * nn, .inl (upd f (nI (g * nn + i)).toNatClampNeg (nI m)))) = h1 at hF hf hn hs ⊢
  exact kk _ _ hF (hR.upd hm) hn hs hf
theorem li_7 {L : Nat} {xs : Nat → Int32} {fr lo rk o nn gg : Nat} {C : Int32} {post : ax_Po} {g m n sl : Nat} (hfr : 1 ≤ fr) (hlo : 22 ≤ lo) (hgg : gg ≤ 16) (hnn : nn ≤ 6) (hg : g < gg) (hm : m < nn) : ∀ (i : Nat) (h : ax_H) (f : Nat → Int32), i ≤ m → ax_hs h [(rk, .inr (3, [.int (nI nn), .int C, .int (nI gg), .ref o])), (o, .inl (0, gg * nn, .inl f))] → Rg nn f → h.1 = n → h.2.1 = sl →
    (∀ (i' : Nat) (h' : ax_H) (f' : Nat → Int32), i' ≤ m → ax_hs h' [(rk, .inr (3, [.int (nI nn), .int C, .int (nI gg), .ref o])), (o, .inl (0, gg * nn, .inl f'))] → Rg nn f' → h'.1 = n → h'.2.1 = sl → ax_fr (fun x => x ∈ [o]) h h' → ax_A (ax_step L xs) ((7, 130, fr, lo), [(0, .ref rk), (1, .int (nI nn)), (2, .int C), (3, .int (nI gg)), (4, .int (nI g)), (5, .int (nI m)), (6, .int (nI i'))], [], h') post) → ax_A (ax_step L xs) ((7, 50, fr, lo), [(0, .ref rk), (1, .int (nI nn)), (2, .int C), (3, .int (nI gg)), (4, .int (nI g)), (5, .int (nI m)), (6, .int (nI i))], [], h) post := by
  intro i
  induction i with
  | zero =>
    intro h f hi hF hR hn hs kk
    refine ar_iload 52 d_7_50 rfl rfl ?_
    refine ar_if_le 116 55 d_7_52 (by decide) rfl (fun _ => ?_) (fun c => absurd (nI_le (Nat.le_refl 0) (by decide)) c)
    exact lq_7 hfr hlo hgg hnn hg hm hi hF hR hn hs (fun h' f' k1 k2 k3 k4 k5 => kk 0 h' f' hi k1 k2 k3 k4 k5)
  | succ i ih =>
    intro h f hi hF hR hn hs kk
    have hb := ix_b hgg hnn
    have hx := ix_lt hg (show i + 1 < nn by omega)
    have hbase : h.1 = n := hn
    have hbasl : h.2.1 = sl := hs
    have hf : ax_fr (fun x => x ∈ [o]) h h := ax_fr.rf
    refine ar_iload 52 d_7_50 rfl rfl ?_
    refine ar_if_le 116 55 d_7_52 (by decide) rfl (fun c => absurd c (nI_nle (Nat.succ_pos i) (by omega))) (fun _ => ?_)
    refine ar_iload 57 d_7_55 rfl rfl ?_
    refine ar_iload 59 d_7_57 rfl rfl ?_
    refine ar_call (r := []) (na := 0) (kd := 0) (cm := 8) (fr2 := fr - 1) (lo2 := lo - 22) 62 d_7_59 (ar_hoS (as := [.int (nI g), .int (nI m)]) rfl rfl rfl) rfl (by omega) (show lo - 22 + (19 + 3) = lo by omega) (Nat.le_of_ble_eq_true rfl) (Nat.le_of_ble_eq_true rfl) (c_8) ?_
    intro v hh hq
    obtain ⟨z1, rfl, ehh⟩ := hq
    rw [ehh]
    clear ehh
    refine ar_iload 64 d_7_62 rfl rfl ?_
    refine ar_aload_n 65 d_7_64 rfl rfl ?_
    refine ar_getf 68 d_7_65 rfl (ci := 3) (k := 3) rfl (hF.at 0 rfl) rfl ?_
    refine ar_iload 70 d_7_68 rfl rfl ?_
    refine ar_iload_n 71 d_7_70 rfl rfl ?_
    refine ar_imul 72 d_7_71 rfl ?_
    refine ar_iload 74 d_7_72 rfl rfl ?_
    refine ar_iadd 75 d_7_74 rfl ?_
    refine ar_iconst 76 (v := 1) d_7_75 rfl (by decide) ?_
    refine ar_isub 77 d_7_76 rfl ?_
    refine ar_top (x' := nI (g * nn + i)) (by rw [ix_a, ← Nat.add_assoc]; exact nI_pred (g * nn + i)) ?_
    refine ar_iald 78 d_7_77 rfl (hF.at 1 rfl) (vp_in_nI (by omega) (by omega)) ?_
    refine ar_call (r := [.int z1]) (na := 0) (kd := 0) (cm := 8) (fr2 := fr - 1) (lo2 := lo - 22) 81 d_7_78 (ar_hoS (as := [.int (nI g), .int (f (nI (g * nn + i)).toNatClampNeg)]) rfl rfl rfl) rfl (by omega) (show lo - 22 + (19 + 3) = lo by omega) (Nat.le_of_ble_eq_true rfl) (Nat.le_of_ble_eq_true rfl) (c_8) ?_
    intro v hh hq
    obtain ⟨z2, rfl, ehh⟩ := hq
    rw [ehh]
    clear ehh
    refine ar_icmp_le 116 84 d_7_81 (by decide) rfl (fun c1 => ?_) (fun c1 => ?_)
    · exact lq_7 hfr hlo hgg hnn hg hm hi hF hR hn hs (fun h' f' k1 k2 k3 k4 k5 => kk (i + 1) h' f' hi k1 k2 k3 k4 k5)
    · refine ar_aload_n 85 d_7_84 rfl rfl ?_
      refine ar_getf 88 d_7_85 rfl (ci := 3) (k := 3) rfl (hF.at 0 rfl) rfl ?_
      refine ar_iload 90 d_7_88 rfl rfl ?_
      refine ar_iload_n 91 d_7_90 rfl rfl ?_
      refine ar_imul 92 d_7_91 rfl ?_
      refine ar_iload 94 d_7_92 rfl rfl ?_
      refine ar_iadd 95 d_7_94 rfl ?_
      refine ar_top (x' := nI (g * nn + (i + 1))) (ix_a g nn (i + 1)) ?_
      refine ar_aload_n 96 d_7_95 rfl rfl ?_
      refine ar_getf 99 d_7_96 rfl (ci := 3) (k := 3) rfl (hF.at 0 rfl) rfl ?_
      refine ar_iload 101 d_7_99 rfl rfl ?_
      refine ar_iload_n 102 d_7_101 rfl rfl ?_
      refine ar_imul 103 d_7_102 rfl ?_
      refine ar_iload 105 d_7_103 rfl rfl ?_
      refine ar_iadd 106 d_7_105 rfl ?_
      refine ar_iconst 107 (v := 1) d_7_106 rfl (by decide) ?_
      refine ar_isub 108 d_7_107 rfl ?_
      refine ar_top (x' := nI (g * nn + i)) (by rw [ix_a, ← Nat.add_assoc]; exact nI_pred (g * nn + i)) ?_
      refine ar_iald 109 d_7_108 rfl (hF.at 1 rfl) (vp_in_nI (by omega) (by omega)) ?_
      refine ar_iast 110 d_7_109 rfl (hF.at 1 rfl) (vp_in_nI hx (by omega)) ?_
      replace hF : ax_hs (ax_put h o (.inl (0, gg * nn, .inl (upd f (nI (g * nn + (i + 1))).toNatClampNeg (f (nI (g * nn + i)).toNatClampNeg))))) [(rk, .inr (3, [.int (nI nn), .int C, .int (nI gg), .ref o])), (o, .inl (0, gg * nn, .inl (upd f (nI (g * nn + (i + 1))).toNatClampNeg (f (nI (g * nn + i)).toNatClampNeg))))] := hF.put 1 _ rfl rfl
      replace hf := hf.put (a := o) (c := .inl (0, gg * nn, .inl (upd f (nI (g * nn + (i + 1))).toNatClampNeg (f (nI (g * nn + i)).toNatClampNeg)))) (by simp)
      replace hn : (ax_put h o (.inl (0, gg * nn, .inl (upd f (nI (g * nn + (i + 1))).toNatClampNeg (f (nI (g * nn + i)).toNatClampNeg))))).1 = n := hn
      replace hs : (ax_put h o (.inl (0, gg * nn, .inl (upd f (nI (g * nn + (i + 1))).toNatClampNeg (f (nI (g * nn + i)).toNatClampNeg))))).2.1 = sl := hs
      generalize ax_put h o (.inl (0, gg * nn, .inl (upd f (nI (g * nn + (i + 1))).toNatClampNeg (f (nI (g * nn + i)).toNatClampNeg)))) = h1 at hF hf hn hs ⊢
      refine ar_iinc 113 [(0, .ref rk), (1, .int (nI nn)), (2, .int C), (3, .int (nI gg)), (4, .int (nI g)), (5, .int (nI m)), (6, .int (nI i))] d_7_110 rfl rfl (pk_m1 i) (by decide) rfl ?_
      refine ar_goto 50 d_7_113 (by decide) ?_
      obtain ⟨v1, hv1, ev1⟩ := hR.at (nI (g * nn + i)).toNatClampNeg
      rw [ev1] at hF
      exact ih h1 _ (by omega) hF (hR.upd hv1) hn hs (fun i' h' f' k0 k1 k2 k3 k4 k5 => kk i' h' f' k0 k1 k2 k3 k4 (hf.tr k5))
theorem lm_7 {L : Nat} {xs : Nat → Int32} {fr lo rk o nn gg : Nat} {C : Int32} {post : ax_Po} {g n sl : Nat} (hfr : 1 ≤ fr) (hlo : 22 ≤ lo) (hgg : gg ≤ 16) (hnn : nn ≤ 6) (hg : g < gg) : ∀ (k m : Nat) (h : ax_H) (f : Nat → Int32), m + k = nn → ax_hs h [(rk, .inr (3, [.int (nI nn), .int C, .int (nI gg), .ref o])), (o, .inl (0, gg * nn, .inl f))] → Rg nn f → h.1 = n → h.2.1 = sl →
    (∀ (h' : ax_H) (f' : Nat → Int32), ax_hs h' [(rk, .inr (3, [.int (nI nn), .int C, .int (nI gg), .ref o])), (o, .inl (0, gg * nn, .inl f'))] → Rg nn f' → h'.1 = n → h'.2.1 = sl → ax_fr (fun x => x ∈ [o]) h h' → ax_A (ax_step L xs) ((7, 136, fr, lo), [(0, .ref rk), (1, .int (nI nn)), (2, .int C), (3, .int (nI gg)), (4, .int (nI g)), (5, .int (nI nn))], [], h') post) → ax_A (ax_step L xs) ((7, 40, fr, lo), [(0, .ref rk), (1, .int (nI nn)), (2, .int C), (3, .int (nI gg)), (4, .int (nI g)), (5, .int (nI m))], [], h) post := by
  intro k
  induction k with
  | zero =>
    intro m h f hm hF hR hn hs kk
    have e : m = nn := by omega
    subst e
    refine ar_iload 42 d_7_40 rfl rfl ?_
    refine ar_iload_n 43 d_7_42 rfl rfl ?_
    refine ar_icmp_ge 136 46 d_7_43 (by decide) rfl (fun _ => ?_) (fun c => absurd (nI_le (Nat.le_refl _) (by omega)) c)
    exact kk h f hF hR hn hs ax_fr.rf
  | succ k ih =>
    intro m h f hm hF hR hn hs kk
    have hmn : m < nn := by omega
    refine ar_iload 42 d_7_40 rfl rfl ?_
    refine ar_iload_n 43 d_7_42 rfl rfl ?_
    refine ar_icmp_ge 136 46 d_7_43 (by decide) rfl (fun c => absurd c (nI_ge hmn (by omega))) (fun _ => ?_)
    refine ar_iload 48 d_7_46 rfl rfl ?_
    refine ar_istore 50 [(0, .ref rk), (1, .int (nI nn)), (2, .int C), (3, .int (nI gg)), (4, .int (nI g)), (5, .int (nI m)), (6, .int (nI m))] d_7_48 rfl (by decide) rfl ?_
    refine li_7 hfr hlo hgg hnn hg hmn m h f (Nat.le_refl _) hF hR hn hs (fun i' h' f' k0 k1 k2 k3 k4 k5 => ?_)
    refine ar_iinc 133 [(0, .ref rk), (1, .int (nI nn)), (2, .int C), (3, .int (nI gg)), (4, .int (nI g)), (5, .int (nI (m + 1))), (6, .int (nI i'))] d_7_130 rfl rfl (nI_1 m) (by decide) rfl ?_
    refine ar_goto 40 d_7_133 (by decide) ?_
    refine ar_wk [0, 1, 2, 3, 4, 5] rfl (by simp) ?_
    exact ih (m + 1) h' f' (by omega) k1 k2 k3 k4 (fun h2 f2 j1 j2 j3 j4 j5 => kk h2 f2 j1 j2 j3 j4 (k5.tr j5))
theorem lo_7 {L : Nat} {xs : Nat → Int32} {fr lo rk o nn gg : Nat} {C : Int32} {post : ax_Po} {n sl : Nat} (hfr : 1 ≤ fr) (hlo : 22 ≤ lo) (hgg : gg ≤ 16) (hnn : nn ≤ 6) : ∀ (k g : Nat) (h : ax_H) (f : Nat → Int32), g + k = gg → ax_hs h [(rk, .inr (3, [.int (nI nn), .int C, .int (nI gg), .ref o])), (o, .inl (0, gg * nn, .inl f))] → Rg nn f → h.1 = n → h.2.1 = sl →
    (∀ (h' : ax_H) (f' : Nat → Int32), ax_hs h' [(rk, .inr (3, [.int (nI nn), .int C, .int (nI gg), .ref o])), (o, .inl (0, gg * nn, .inl f'))] → Rg nn f' → h'.1 = n → h'.2.1 = sl → ax_fr (fun x => x ∈ [o]) h h' → post none h') → ax_A (ax_step L xs) ((7, 31, fr, lo), [(0, .ref rk), (1, .int (nI nn)), (2, .int C), (3, .int (nI gg)), (4, .int (nI g))], [], h) post := by
  intro k
  induction k with
  | zero =>
    intro g h f hg hF hR hn hs kk
    have e : g = gg := by omega
    subst e
    refine ar_iload 33 d_7_31 rfl rfl ?_
    refine ar_iload_n 34 d_7_33 rfl rfl ?_
    refine ar_icmp_ge 142 37 d_7_34 (by decide) rfl (fun _ => ?_) (fun c => absurd (nI_le (Nat.le_refl _) (by omega)) c)
    exact ar_ret d_7_142 rfl (kk h f hF hR hn hs ax_fr.rf)
  | succ k ih =>
    intro g h f hg hF hR hn hs kk
    have hgn : g < gg := by omega
    refine ar_iload 33 d_7_31 rfl rfl ?_
    refine ar_iload_n 34 d_7_33 rfl rfl ?_
    refine ar_icmp_ge 142 37 d_7_34 (by decide) rfl (fun c => absurd c (nI_ge hgn (by omega))) (fun _ => ?_)
    refine ar_iconst 38 (v := 0) d_7_37 rfl (by decide) ?_
    refine ar_istore 40 [(0, .ref rk), (1, .int (nI nn)), (2, .int C), (3, .int (nI gg)), (4, .int (nI g)), (5, .int 0)] d_7_38 rfl (by decide) rfl ?_
    refine lm_7 hfr hlo hgg hnn hgn nn 0 h f (Nat.zero_add nn) hF hR hn hs (fun h' f' k1 k2 k3 k4 k5 => ?_)
    refine ar_iinc 139 [(0, .ref rk), (1, .int (nI nn)), (2, .int C), (3, .int (nI gg)), (4, .int (nI (g + 1))), (5, .int (nI nn))] d_7_136 rfl rfl (nI_1 g) (by decide) rfl ?_
    refine ar_goto 31 d_7_139 (by decide) ?_
    refine ar_wk [0, 1, 2, 3, 4] rfl (by simp) ?_
    exact ih (g + 1) h' f' (by omega) k1 k2 k3 k4 (fun h2 f2 j1 j2 j3 j4 j5 => kk h2 f2 j1 j2 j3 j4 (k5.tr j5))
theorem c_7 {L : Nat} {xs : Nat → Int32} {fr lo rk nn gg n sl : Nat} {C : Int32} {h : ax_H} (hfr : 1 ≤ fr) (hlo : 22 ≤ lo) (hgg : gg ≤ 16) (hnn : nn ≤ 6) (hnp : 0 < nn) (hF : ax_hs h [(rk, .inr (3, [.int 0, .int 0, .int 0, .null]))]) (hn : h.1 = n) (hs : h.2.1 = sl) (hn0 : 0 < n) : ax_M L xs 7 fr lo [.ref rk, .int (nI nn), .int C, .int (nI gg)] h (fun r h' => ∃ f, r = none ∧ ax_hs h' [(rk, .inr (3, [.int (nI nn), .int C, .int (nI gg), .ref n])), (n, .inl (0, gg * nn, .inl f))] ∧ Rg nn f ∧ h'.1 = n + 1 ∧ h'.2.1 = sl + gg * nn ∧ ax_fr (fun x => x ∈ [rk]) h h') := by
  have hb := ix_b hgg hnn
  by_cases hn6 : 0 < nn
  · skip
    show ax_A (ax_step L xs) ((7, 0, fr, lo), [(0, .ref rk), (1, .int (nI nn)), (2, .int C), (3, .int (nI gg))], [], h) _
    have hbase : h.1 = n := hn
    have hbasl : h.2.1 = sl := hs
    have hf : ax_fr (fun x => x ∈ [rk]) h h := ax_fr.rf
    refine ar_aload_n 1 d_7_0 rfl rfl ?_
    refine ar_objI 4 d_7_1 rfl rfl (by omega) (by show 0 + 12 ≤ lo; omega) ?_
    refine ar_aload_n 5 d_7_4 rfl rfl ?_
    refine ar_iload_n 6 d_7_5 rfl rfl ?_
    refine ar_putf 9 [.int (nI nn), .int 0, .int 0, .null] d_7_6 rfl (ci := 3) (k := 0) rfl (by decide +kernel) (hF.at 0 rfl) (Nat.le_of_ble_eq_true rfl) rfl rfl rfl ?_
    replace hF : ax_hs (ax_put h rk (.inr (3, [.int (nI nn), .int 0, .int 0, .null]))) [(rk, .inr (3, [.int (nI nn), .int 0, .int 0, .null]))] := hF.put 0 _ rfl rfl
    replace hf := hf.put (a := rk) (c := .inr (3, [.int (nI nn), .int 0, .int 0, .null])) (by simp)
    replace hn : (ax_put h rk (.inr (3, [.int (nI nn), .int 0, .int 0, .null]))).1 = n := hn
    replace hs : (ax_put h rk (.inr (3, [.int (nI nn), .int 0, .int 0, .null]))).2.1 = sl := hs
    generalize ax_put h rk (.inr (3, [.int (nI nn), .int 0, .int 0, .null])) = h1 at hF hf hn hs ⊢
    refine ar_aload_n 10 d_7_9 rfl rfl ?_
    refine ar_iload_n 11 d_7_10 rfl rfl ?_
    refine ar_putf 14 [.int (nI nn), .int C, .int 0, .null] d_7_11 rfl (ci := 3) (k := 1) rfl (by decide +kernel) (hF.at 0 rfl) (Nat.le_of_ble_eq_true rfl) rfl rfl rfl ?_
    replace hF : ax_hs (ax_put h1 rk (.inr (3, [.int (nI nn), .int C, .int 0, .null]))) [(rk, .inr (3, [.int (nI nn), .int C, .int 0, .null]))] := hF.put 0 _ rfl rfl
    replace hf := hf.put (a := rk) (c := .inr (3, [.int (nI nn), .int C, .int 0, .null])) (by simp)
    replace hn : (ax_put h1 rk (.inr (3, [.int (nI nn), .int C, .int 0, .null]))).1 = n := hn
    replace hs : (ax_put h1 rk (.inr (3, [.int (nI nn), .int C, .int 0, .null]))).2.1 = sl := hs
    generalize ax_put h1 rk (.inr (3, [.int (nI nn), .int C, .int 0, .null])) = h2 at hF hf hn hs ⊢
    refine ar_aload_n 15 d_7_14 rfl rfl ?_
    refine ar_iload_n 16 d_7_15 rfl rfl ?_
    refine ar_putf 19 [.int (nI nn), .int C, .int (nI gg), .null] d_7_16 rfl (ci := 3) (k := 2) rfl (by decide +kernel) (hF.at 0 rfl) (Nat.le_of_ble_eq_true rfl) rfl rfl rfl ?_
    replace hF : ax_hs (ax_put h2 rk (.inr (3, [.int (nI nn), .int C, .int (nI gg), .null]))) [(rk, .inr (3, [.int (nI nn), .int C, .int (nI gg), .null]))] := hF.put 0 _ rfl rfl
    replace hf := hf.put (a := rk) (c := .inr (3, [.int (nI nn), .int C, .int (nI gg), .null])) (by simp)
    replace hn : (ax_put h2 rk (.inr (3, [.int (nI nn), .int C, .int (nI gg), .null]))).1 = n := hn
    replace hs : (ax_put h2 rk (.inr (3, [.int (nI nn), .int C, .int (nI gg), .null]))).2.1 = sl := hs
    generalize ax_put h2 rk (.inr (3, [.int (nI nn), .int C, .int (nI gg), .null])) = h3 at hF hf hn hs ⊢
    refine ar_aload_n 20 d_7_19 rfl rfl ?_
    refine ar_iload_n 21 d_7_20 rfl rfl ?_
    refine ar_iload_n 22 d_7_21 rfl rfl ?_
    refine ar_imul 23 d_7_22 rfl ?_
    refine ar_top (x' := nI (gg * nn)) (pk_mul gg nn) ?_
    refine ar_newi 25 d_7_23 rfl (nI_pos (by omega)) (N := gg * nn) (nI_clamp (by omega)) (by omega) ?_
    rw [hn]
    replace hF : ax_hs (ax_push h3 (gg * nn) (.inl (0, gg * nn, .inl (fun _ => 0)))) [(rk, .inr (3, [.int (nI nn), .int C, .int (nI gg), .null])), (n, .inl (0, gg * nn, .inl (fun _ => 0)))] := hF.push (by omega) (gg * nn) _ (by rw [hn]; rfl)
    replace hf := hf.push (n := (gg * nn)) (c := .inl (0, gg * nn, .inl (fun _ => 0)))
    replace hn : (ax_push h3 (gg * nn) (.inl (0, gg * nn, .inl (fun _ => 0)))).1 = n + 1 := by show h3.1 + 1 = _; rw [hn]
    replace hs : (ax_push h3 (gg * nn) (.inl (0, gg * nn, .inl (fun _ => 0)))).2.1 = sl + (gg * nn) := by show h3.2.1 + (gg * nn) = _; omega
    generalize ax_push h3 (gg * nn) (.inl (0, gg * nn, .inl (fun _ => 0))) = h4 at hF hf hn hs ⊢
    refine ar_putf 28 [.int (nI nn), .int C, .int (nI gg), .ref n] d_7_25 rfl (ci := 3) (k := 3) rfl (by decide +kernel) (hF.at 0 rfl) (Nat.le_of_ble_eq_true rfl) rfl rfl rfl ?_
    replace hF : ax_hs (ax_put h4 rk (.inr (3, [.int (nI nn), .int C, .int (nI gg), .ref n]))) [(rk, .inr (3, [.int (nI nn), .int C, .int (nI gg), .ref n])), (n, .inl (0, gg * nn, .inl (fun _ => 0)))] := hF.put 0 _ rfl rfl
    replace hf := hf.put (a := rk) (c := .inr (3, [.int (nI nn), .int C, .int (nI gg), .ref n])) (by simp)
    replace hn : (ax_put h4 rk (.inr (3, [.int (nI nn), .int C, .int (nI gg), .ref n]))).1 = n + 1 := hn
    replace hs : (ax_put h4 rk (.inr (3, [.int (nI nn), .int C, .int (nI gg), .ref n]))).2.1 = sl + (gg * nn) := hs
    generalize ax_put h4 rk (.inr (3, [.int (nI nn), .int C, .int (nI gg), .ref n])) = h5 at hF hf hn hs ⊢
    refine ar_iconst 29 (v := 0) d_7_28 rfl (by decide) ?_
    refine ar_istore 31 [(0, .ref rk), (1, .int (nI nn)), (2, .int C), (3, .int (nI gg)), (4, .int 0)] d_7_29 rfl (by decide) rfl ?_
    refine lo_7 hfr hlo hgg hnn gg 0 h5 _ (Nat.zero_add gg) (hF.sub [0, 1] rfl rfl) (fun j => ⟨0, hn6, rfl⟩) hn hs (fun h' f' k1 k2 k3 k4 k5 => ⟨f', rfl, k1, k2, k3, k4, hf.trC k5 (fun x hx hB => by simp at hB; omega)⟩)
  · exact absurd hnp hn6


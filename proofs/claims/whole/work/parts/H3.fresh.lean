/-! the constructor once more: the rows of Ranks, the masks of the leader -/
def befS (g a b : Int32) : Prop := drw g b < drw g a ∨ (drw g a = drw g b ∧ a < b)
/-- the first m of row g are NODES below m, the greatest DRAW first -/
def RwS (nn g m : Nat) (f : Nat → Int32) : Prop := (∀ i, i < m → ∃ v, v < m ∧ f (g * nn + i) = nI v) ∧ ∀ i j, i < j → j < m → befS (nI g) (f (g * nn + i)) (f (g * nn + j))
/-- the place i is free for m -/
def RwH (nn g m i : Nat) (f : Nat → Int32) : Prop := (∀ j, j ≤ m → ¬ j = i → ∃ v, v < m ∧ f (g * nn + j) = nI v) ∧ (∀ j k, j < k → k ≤ m → ¬ j = i → ¬ k = i → befS (nI g) (f (g * nn + j)) (f (g * nn + k))) ∧ ∀ k, i < k → k ≤ m → drw (nI g) (f (g * nn + k)) < drw (nI g) (nI m)
def RwA (nn g : Nat) (f : Nat → Int32) : Prop := ∀ x, x < g → RwS nn x nn f
theorem RwS.cg {nn g m : Nat} {f f' : Nat → Int32} (h : RwS nn g m f) (e : ∀ j, j < m → f' (g * nn + j) = f (g * nn + j)) : RwS nn g m f' := ⟨fun i hi => by rw [e i hi]; exact h.1 i hi, fun i j hij hj => by rw [e i (by omega), e j hj]; exact h.2 i j hij hj⟩
theorem RwA.upd {nn g i : Nat} {f : Nat → Int32} {v : Int32} (h : RwA nn g f) : RwA nn g (upd f (g * nn + i) v) := fun x hx => (h x hx).cg (fun j hj => by
  have h1 : (x + 1) * nn ≤ g * nn := Nat.mul_le_mul_right nn hx
  rw [Nat.succ_mul] at h1
  rw [pk_un (by omega)])
theorem RwA.nx {nn g : Nat} {f : Nat → Int32} (h : RwA nn g f) (h2 : RwS nn g nn f) : RwA nn (g + 1) f := fun x hx => by
  by_cases e : x = g
  · rw [e]; exact h2
  · exact h x (by omega)
theorem RwS.hole {nn g m : Nat} {f : Nat → Int32} (h : RwS nn g m f) : RwH nn g m m f := ⟨fun j hj hn => h.1 j (by omega), fun j k hjk hk _ hn => h.2 j k hjk (by omega), fun k h1 h2 => by omega⟩
theorem RwH.put {nn g m i : Nat} {f : Nat → Int32} (hnn : nn ≤ 6) (hm : m < nn) (hi : i ≤ m) (hH : RwH nn g m i f) (hst : ∀ j, j < i → ¬ drw (nI g) (f (g * nn + j)) < drw (nI g) (nI m)) : RwS nn g (m + 1) (upd f (g * nn + i) (nI m)) := by
  have e1 : upd f (g * nn + i) (nI m) (g * nn + i) = nI m := pk_us
  have e2 : ∀ j, ¬ j = i → upd f (g * nn + i) (nI m) (g * nn + j) = f (g * nn + j) := fun j hj => pk_un (by omega)
  refine ⟨fun j hj => ?_, fun j k hjk hk => ?_⟩
  · by_cases e : j = i
    · rw [e, e1]; exact ⟨m, by omega, rfl⟩
    · obtain ⟨v, v1, v2⟩ := hH.1 j (by omega) e
      rw [e2 j e]; exact ⟨v, by omega, v2⟩
  · by_cases e : j = i
    · rw [e, e1, e2 k (by omega)]
      exact Or.inl (hH.2.2 k (by omega) (by omega))
    · by_cases e' : k = i
      · rw [e', e1, e2 j e]
        have hd := hst j (by omega)
        obtain ⟨v, v1, v2⟩ := hH.1 j (by omega) e
        by_cases q : drw (nI g) (nI m) < drw (nI g) (f (g * nn + j))
        · exact Or.inl q
        · refine Or.inr ⟨?_, by rw [v2]; exact nI_lt v1 (by omega)⟩
          exact Int32.le_antisymm (Int32.not_lt.mp q) (Int32.not_lt.mp hd)
      · rw [e2 j e, e2 k e']
        exact hH.2.1 j k hjk (by omega) e e'
theorem RwH.mv {nn g m i : Nat} {f : Nat → Int32} (hi : i + 1 ≤ m) (hH : RwH nn g m (i + 1) f) (hd : drw (nI g) (f (g * nn + i)) < drw (nI g) (nI m)) : RwH nn g m i (upd f (g * nn + (i + 1)) (f (g * nn + i))) := by
  have e1 : upd f (g * nn + (i + 1)) (f (g * nn + i)) (g * nn + (i + 1)) = f (g * nn + i) := pk_us
  have e2 : ∀ j, ¬ j = i + 1 → upd f (g * nn + (i + 1)) (f (g * nn + i)) (g * nn + j) = f (g * nn + j) := fun j hj => pk_un (by omega)
  refine ⟨fun j hj hn => ?_, fun j k hjk hk hjn hkn => ?_, fun k h1 h2 => ?_⟩
  · by_cases e : j = i + 1
    · rw [e, e1]; exact hH.1 i (by omega) (by omega)
    · rw [e2 j e]; exact hH.1 j hj e
  · by_cases e : j = i + 1
    · rw [e, e1, e2 k (by omega)]
      exact hH.2.1 i k (by omega) hk (by omega) (by omega)
    · by_cases e' : k = i + 1
      · rw [e', e1, e2 j e]
        exact hH.2.1 j i (by omega) (by omega) e (by omega)
      · rw [e2 j e, e2 k e']
        exact hH.2.1 j k hjk hk e e'
  · by_cases e : k = i + 1
    · rw [e, e1]; exact hd
    · rw [e2 k e]; exact hH.2.2 k (by omega) h2
theorem c_8Y {L : Nat} {xs : Nat → Int32} {fr lo : Nat} {h : ax_H} {g n : Int32} : ax_M L xs 8 fr lo [.int g, .int n] h (fun r h' => r = some (.int (drw g n)) ∧ h' = h) := by
  show ax_A (ax_step L xs) ((8, 0, fr, lo), [(0, .int g), (1, .int n)], [], h) _
  refine ar_iload_n 1 d_8_0 rfl rfl ?_
  refine ar_ldc 3 d_8_1 rfl (v := 40503) rfl ?_
  refine ar_imul 4 d_8_3 rfl ?_
  refine ar_iload_n 5 d_8_4 rfl rfl ?_
  refine ar_sipush 8 (v := 30011) d_8_5 rfl (by decide) ?_
  refine ar_imul 9 d_8_8 rfl ?_
  refine ar_iadd 10 d_8_9 rfl ?_
  refine ar_sipush 13 (v := 12345) d_8_10 rfl (by decide) ?_
  refine ar_iadd 14 d_8_13 rfl ?_
  refine ar_istore_n 15 [(0, .int g), (1, .int n), (2, .int (((g * 40503) + (n * 30011)) + 12345))] d_8_14 rfl (by decide) rfl ?_
  refine ar_iload_n 16 d_8_15 rfl rfl ?_
  refine ar_iload_n 17 d_8_16 rfl rfl ?_
  refine ar_bipush 19 (v := 7) d_8_17 rfl (by decide) ?_
  refine ar_iushr 20 d_8_19 rfl ?_
  refine ar_ixor 21 d_8_20 rfl ?_
  refine ar_ldc 23 d_8_21 rfl (v := 73244475) rfl ?_
  refine ar_imul 24 d_8_23 rfl ?_
  refine ar_istore_n 25 [(0, .int g), (1, .int n), (2, .int (((((g * 40503) + (n * 30011)) + 12345) ^^^ (((((g * 40503) + (n * 30011)) + 12345).toUInt32 >>> ((7 : Int32).toUInt32 &&& Int32.toUInt32 31)).toInt32)) * 73244475))] d_8_24 rfl (by decide) rfl ?_
  refine ar_iload_n 26 d_8_25 rfl rfl ?_
  refine ar_iload_n 27 d_8_26 rfl rfl ?_
  refine ar_bipush 29 (v := 13) d_8_27 rfl (by decide) ?_
  refine ar_iushr 30 d_8_29 rfl ?_
  refine ar_ixor 31 d_8_30 rfl ?_
  refine ar_ldc 33 d_8_31 rfl (v := 19349663) rfl ?_
  refine ar_imul 34 d_8_33 rfl ?_
  refine ar_istore_n 35 [(0, .int g), (1, .int n), (2, .int (((((((g * 40503) + (n * 30011)) + 12345) ^^^ (((((g * 40503) + (n * 30011)) + 12345).toUInt32 >>> ((7 : Int32).toUInt32 &&& Int32.toUInt32 31)).toInt32)) * 73244475) ^^^ (((((((g * 40503) + (n * 30011)) + 12345) ^^^ (((((g * 40503) + (n * 30011)) + 12345).toUInt32 >>> ((7 : Int32).toUInt32 &&& Int32.toUInt32 31)).toInt32)) * 73244475).toUInt32 >>> ((13 : Int32).toUInt32 &&& Int32.toUInt32 31)).toInt32)) * 19349663))] d_8_34 rfl (by decide) rfl ?_
  refine ar_iload_n 36 d_8_35 rfl rfl ?_
  refine ar_iload_n 37 d_8_36 rfl rfl ?_
  refine ar_bipush 39 (v := 16) d_8_37 rfl (by decide) ?_
  refine ar_iushr 40 d_8_39 rfl ?_
  refine ar_ixor 41 d_8_40 rfl ?_
  refine ar_ldc 43 d_8_41 rfl (v := 2147483647) rfl ?_
  refine ar_iand 44 d_8_43 rfl ?_
  exact ar_iret d_8_44 rfl rfl (⟨rfl, rfl⟩)
theorem lq_7X {L : Nat} {xs : Nat → Int32} {fr lo rk o nn gg : Nat} {C : Int32} {post : ax_Po} {g m i n sl : Nat} {h : ax_H} {f : Nat → Int32} (hfr : 1 ≤ fr) (hlo : 22 ≤ lo) (hgg : gg ≤ 16) (hnn : nn ≤ 6) (hg : g < gg) (hm : m < nn) (hi : i ≤ m) (hF : ax_hs h [(rk, .inr (3, [.int (nI nn), .int C, .int (nI gg), .ref o])), (o, .inl (0, gg * nn, .inl f))]) (hR : Rg nn f) (hA : RwA nn g f) (hH : RwH nn g m i f) (hst : ∀ j, j < i → ¬ drw (nI g) (f (g * nn + j)) < drw (nI g) (nI m)) (hn : h.1 = n) (hs : h.2.1 = sl)
    (kk : ∀ (h' : ax_H) (f' : Nat → Int32), ax_hs h' [(rk, .inr (3, [.int (nI nn), .int C, .int (nI gg), .ref o])), (o, .inl (0, gg * nn, .inl f'))] → Rg nn f' → RwA nn g f' → RwS nn g (m + 1) f' → h'.1 = n → h'.2.1 = sl → ax_fr (fun x => x ∈ [o]) h h' → ax_A (ax_step L xs) ((7, 130, fr, lo), [(0, .ref rk), (1, .int (nI nn)), (2, .int C), (3, .int (nI gg)), (4, .int (nI g)), (5, .int (nI m)), (6, .int (nI i))], [], h') post) : ax_A (ax_step L xs) ((7, 116, fr, lo), [(0, .ref rk), (1, .int (nI nn)), (2, .int C), (3, .int (nI gg)), (4, .int (nI g)), (5, .int (nI m)), (6, .int (nI i))], [], h) post := by
  have hb := ix_b hgg hnn
  have hx := ix_lt hg (show i < nn by omega)
  have hbase : h.1 = n := hn
  have hbasl : h.2.1 = sl := hs
  have hf : ax_fr (fun x => x ∈ [o]) h h := ax_fr.rf
  refine ar_aload_n 117 d_7_116 rfl rfl ?_
  refine ar_getf 120 d_7_117 rfl (ci := 3) (k := 3) rfl (hF.at 0 rfl) rfl ?_
  refine ar_iload 122 d_7_120 rfl rfl ?_
  refine ar_iload_n 123 d_7_122 rfl rfl ?_
  refine ar_imul 124 d_7_123 rfl ?_
  refine ar_iload 126 d_7_124 rfl rfl ?_
  refine ar_iadd 127 d_7_126 rfl ?_
  refine ar_top (x' := nI (g * nn + i)) (ix_a g nn i) ?_
  refine ar_iload 129 d_7_127 rfl rfl ?_
  refine ar_iast 130 d_7_129 rfl (hF.at 1 rfl) (vp_in_nI hx (by omega)) ?_
  replace hF : ax_hs (ax_put h o (.inl (0, gg * nn, .inl (upd f (nI (g * nn + i)).toNatClampNeg (nI m))))) [(rk, .inr (3, [.int (nI nn), .int C, .int (nI gg), .ref o])), (o, .inl (0, gg * nn, .inl (upd f (nI (g * nn + i)).toNatClampNeg (nI m))))] := hF.put 1 _ rfl rfl
  replace hf := hf.put (a := o) (c := .inl (0, gg * nn, .inl (upd f (nI (g * nn + i)).toNatClampNeg (nI m)))) (by simp)
  replace hn : (ax_put h o (.inl (0, gg * nn, .inl (upd f (nI (g * nn + i)).toNatClampNeg (nI m))))).1 = n := hn
  replace hs : (ax_put h o (.inl (0, gg * nn, .inl (upd f (nI (g * nn + i)).toNatClampNeg (nI m))))).2.1 = sl := hs
  generalize ax_put h o (.inl (0, gg * nn, .inl (upd f (nI (g * nn + i)).toNatClampNeg (nI m)))) = h1 at hF hf hn hs ⊢
  rw [nI_clamp (by omega)] at hF
  exact kk _ _ hF (hR.upd hm) hA.upd (hH.put hnn hm hi hst) hn hs hf
theorem li_7X {L : Nat} {xs : Nat → Int32} {fr lo rk o nn gg : Nat} {C : Int32} {post : ax_Po} {g m n sl : Nat} (hfr : 1 ≤ fr) (hlo : 22 ≤ lo) (hgg : gg ≤ 16) (hnn : nn ≤ 6) (hg : g < gg) (hm : m < nn) : ∀ (i : Nat) (h : ax_H) (f : Nat → Int32), i ≤ m → ax_hs h [(rk, .inr (3, [.int (nI nn), .int C, .int (nI gg), .ref o])), (o, .inl (0, gg * nn, .inl f))] → Rg nn f → RwA nn g f → RwH nn g m i f → h.1 = n → h.2.1 = sl →
    (∀ (i' : Nat) (h' : ax_H) (f' : Nat → Int32), i' ≤ m → ax_hs h' [(rk, .inr (3, [.int (nI nn), .int C, .int (nI gg), .ref o])), (o, .inl (0, gg * nn, .inl f'))] → Rg nn f' → RwA nn g f' → RwS nn g (m + 1) f' → h'.1 = n → h'.2.1 = sl → ax_fr (fun x => x ∈ [o]) h h' → ax_A (ax_step L xs) ((7, 130, fr, lo), [(0, .ref rk), (1, .int (nI nn)), (2, .int C), (3, .int (nI gg)), (4, .int (nI g)), (5, .int (nI m)), (6, .int (nI i'))], [], h') post) → ax_A (ax_step L xs) ((7, 50, fr, lo), [(0, .ref rk), (1, .int (nI nn)), (2, .int C), (3, .int (nI gg)), (4, .int (nI g)), (5, .int (nI m)), (6, .int (nI i))], [], h) post := by
  intro i
  induction i with
  | zero =>
    intro h f hi hF hR hA hH hn hs kk
    refine ar_iload 52 d_7_50 rfl rfl ?_
    refine ar_if_le 116 55 d_7_52 (by decide) rfl (fun _ => ?_) (fun c => absurd (nI_le (Nat.le_refl 0) (by decide)) c)
    exact lq_7X hfr hlo hgg hnn hg hm hi hF hR hA hH (fun j hj => absurd hj (by omega)) hn hs (fun h' f' k1 k2 ka kb k3 k4 k5 => kk 0 h' f' hi k1 k2 ka kb k3 k4 k5)
  | succ i ih =>
    intro h f hi hF hR hA hH hn hs kk
    have hb := ix_b hgg hnn
    have hx := ix_lt hg (show i + 1 < nn by omega)
    have hbase : h.1 = n := hn
    have hbasl : h.2.1 = sl := hs
    have hf : ax_fr (fun x => x ∈ [o]) h h := ax_fr.rf
    refine ar_iload 52 d_7_50 rfl rfl ?_
    refine ar_if_le 116 55 d_7_52 (by decide) rfl (fun c => absurd c (nI_nle (Nat.succ_pos i) (by omega))) (fun _ => ?_)
    refine ar_iload 57 d_7_55 rfl rfl ?_
    refine ar_iload 59 d_7_57 rfl rfl ?_
    refine ar_call (r := []) (na := 0) (kd := 0) (cm := 8) (fr2 := fr - 1) (lo2 := lo - 22) 62 d_7_59 (ar_hoS (as := [.int (nI g), .int (nI m)]) rfl rfl rfl) rfl (by omega) (show lo - 22 + (19 + 3) = lo by omega) (Nat.le_of_ble_eq_true rfl) (Nat.le_of_ble_eq_true rfl) (c_8Y) ?_
    intro v hh hq
    obtain ⟨rfl, ehh⟩ := hq
    rw [ehh]
    clear ehh
    refine ar_iload 64 d_7_62 rfl rfl ?_
    refine ar_aload_n 65 d_7_64 rfl rfl ?_
    refine ar_getf 68 d_7_65 rfl (ci := 3) (k := 3) rfl (hF.at 0 rfl) rfl ?_
    refine ar_iload 70 d_7_68 rfl rfl ?_
    refine ar_iload_n 71 d_7_70 rfl rfl ?_
    refine ar_imul 72 d_7_71 rfl ?_
    refine ar_iload 74 d_7_72 rfl rfl ?_
    refine ar_iadd 75 d_7_74 rfl ?_
    refine ar_iconst 76 (v := 1) d_7_75 rfl (by decide) ?_
    refine ar_isub 77 d_7_76 rfl ?_
    refine ar_top (x' := nI (g * nn + i)) (by rw [ix_a, ← Nat.add_assoc]; exact nI_pred (g * nn + i)) ?_
    refine ar_iald 78 d_7_77 rfl (hF.at 1 rfl) (vp_in_nI (by omega) (by omega)) ?_
    refine ar_call (r := [.int (drw (nI g) (nI m))]) (na := 0) (kd := 0) (cm := 8) (fr2 := fr - 1) (lo2 := lo - 22) 81 d_7_78 (ar_hoS (as := [.int (nI g), .int (f (nI (g * nn + i)).toNatClampNeg)]) rfl rfl rfl) rfl (by omega) (show lo - 22 + (19 + 3) = lo by omega) (Nat.le_of_ble_eq_true rfl) (Nat.le_of_ble_eq_true rfl) (c_8Y) ?_
    intro v hh hq
    obtain ⟨rfl, ehh⟩ := hq
    rw [nI_clamp (show g * nn + i < 2 ^ 31 by omega)]
    rw [ehh]
    clear ehh
    refine ar_icmp_le 116 84 d_7_81 (by decide) rfl (fun c1 => ?_) (fun c1 => ?_)
    · exact lq_7X hfr hlo hgg hnn hg hm hi hF hR hA hH (fun j hj z => by
        by_cases e : j = i
        · rw [e] at z; exact absurd z (Int32.not_lt.mpr c1)
        · rcases hH.2.1 j i (by omega) (by omega) (by omega) (by omega) with w | ⟨w, _⟩
          · exact absurd (Int32.lt_trans w z) (Int32.not_lt.mpr c1)
          · rw [w] at z; exact absurd z (Int32.not_lt.mpr c1)) hn hs (fun h' f' k1 k2 ka kb k3 k4 k5 => kk (i + 1) h' f' hi k1 k2 ka kb k3 k4 k5)
    · refine ar_aload_n 85 d_7_84 rfl rfl ?_
      refine ar_getf 88 d_7_85 rfl (ci := 3) (k := 3) rfl (hF.at 0 rfl) rfl ?_
      refine ar_iload 90 d_7_88 rfl rfl ?_
      refine ar_iload_n 91 d_7_90 rfl rfl ?_
      refine ar_imul 92 d_7_91 rfl ?_
      refine ar_iload 94 d_7_92 rfl rfl ?_
      refine ar_iadd 95 d_7_94 rfl ?_
      refine ar_top (x' := nI (g * nn + (i + 1))) (ix_a g nn (i + 1)) ?_
      refine ar_aload_n 96 d_7_95 rfl rfl ?_
      refine ar_getf 99 d_7_96 rfl (ci := 3) (k := 3) rfl (hF.at 0 rfl) rfl ?_
      refine ar_iload 101 d_7_99 rfl rfl ?_
      refine ar_iload_n 102 d_7_101 rfl rfl ?_
      refine ar_imul 103 d_7_102 rfl ?_
      refine ar_iload 105 d_7_103 rfl rfl ?_
      refine ar_iadd 106 d_7_105 rfl ?_
      refine ar_iconst 107 (v := 1) d_7_106 rfl (by decide) ?_
      refine ar_isub 108 d_7_107 rfl ?_
      refine ar_top (x' := nI (g * nn + i)) (by rw [ix_a, ← Nat.add_assoc]; exact nI_pred (g * nn + i)) ?_
      refine ar_iald 109 d_7_108 rfl (hF.at 1 rfl) (vp_in_nI (by omega) (by omega)) ?_
      refine ar_iast 110 d_7_109 rfl (hF.at 1 rfl) (vp_in_nI hx (by omega)) ?_
      replace hF : ax_hs (ax_put h o (.inl (0, gg * nn, .inl (upd f (nI (g * nn + (i + 1))).toNatClampNeg (f (nI (g * nn + i)).toNatClampNeg))))) [(rk, .inr (3, [.int (nI nn), .int C, .int (nI gg), .ref o])), (o, .inl (0, gg * nn, .inl (upd f (nI (g * nn + (i + 1))).toNatClampNeg (f (nI (g * nn + i)).toNatClampNeg))))] := hF.put 1 _ rfl rfl
      replace hf := hf.put (a := o) (c := .inl (0, gg * nn, .inl (upd f (nI (g * nn + (i + 1))).toNatClampNeg (f (nI (g * nn + i)).toNatClampNeg)))) (by simp)
      replace hn : (ax_put h o (.inl (0, gg * nn, .inl (upd f (nI (g * nn + (i + 1))).toNatClampNeg (f (nI (g * nn + i)).toNatClampNeg))))).1 = n := hn
      replace hs : (ax_put h o (.inl (0, gg * nn, .inl (upd f (nI (g * nn + (i + 1))).toNatClampNeg (f (nI (g * nn + i)).toNatClampNeg))))).2.1 = sl := hs
      generalize ax_put h o (.inl (0, gg * nn, .inl (upd f (nI (g * nn + (i + 1))).toNatClampNeg (f (nI (g * nn + i)).toNatClampNeg)))) = h1 at hF hf hn hs ⊢
      refine ar_iinc 113 [(0, .ref rk), (1, .int (nI nn)), (2, .int C), (3, .int (nI gg)), (4, .int (nI g)), (5, .int (nI m)), (6, .int (nI i))] d_7_110 rfl rfl (pk_m1 i) (by decide) rfl ?_
      refine ar_goto 50 d_7_113 (by decide) ?_
      obtain ⟨v1, hv1, ev1⟩ := hR.at (nI (g * nn + i)).toNatClampNeg
      rw [ev1] at hF
      have hH2 := hH.mv (by omega) (Int32.not_le.mp c1)
      rw [nI_clamp (show g * nn + i < 2 ^ 31 by omega)] at ev1
      rw [nI_clamp (show g * nn + (i + 1) < 2 ^ 31 by omega)] at hF
      rw [ev1] at hH2
      exact ih h1 _ (by omega) hF (hR.upd hv1) hA.upd hH2 hn hs (fun i' h' f' k0 k1 k2 ka kb k3 k4 k5 => kk i' h' f' k0 k1 k2 ka kb k3 k4 (hf.tr k5))
theorem lm_7X {L : Nat} {xs : Nat → Int32} {fr lo rk o nn gg : Nat} {C : Int32} {post : ax_Po} {g n sl : Nat} (hfr : 1 ≤ fr) (hlo : 22 ≤ lo) (hgg : gg ≤ 16) (hnn : nn ≤ 6) (hg : g < gg) : ∀ (k m : Nat) (h : ax_H) (f : Nat → Int32), m + k = nn → ax_hs h [(rk, .inr (3, [.int (nI nn), .int C, .int (nI gg), .ref o])), (o, .inl (0, gg * nn, .inl f))] → Rg nn f → RwA nn g f → RwS nn g m f → h.1 = n → h.2.1 = sl →
    (∀ (h' : ax_H) (f' : Nat → Int32), ax_hs h' [(rk, .inr (3, [.int (nI nn), .int C, .int (nI gg), .ref o])), (o, .inl (0, gg * nn, .inl f'))] → Rg nn f' → RwA nn (g + 1) f' → h'.1 = n → h'.2.1 = sl → ax_fr (fun x => x ∈ [o]) h h' → ax_A (ax_step L xs) ((7, 136, fr, lo), [(0, .ref rk), (1, .int (nI nn)), (2, .int C), (3, .int (nI gg)), (4, .int (nI g)), (5, .int (nI nn))], [], h') post) → ax_A (ax_step L xs) ((7, 40, fr, lo), [(0, .ref rk), (1, .int (nI nn)), (2, .int C), (3, .int (nI gg)), (4, .int (nI g)), (5, .int (nI m))], [], h) post := by
  intro k
  induction k with
  | zero =>
    intro m h f hm hF hR hA hS hn hs kk
    have e : m = nn := by omega
    subst e
    refine ar_iload 42 d_7_40 rfl rfl ?_
    refine ar_iload_n 43 d_7_42 rfl rfl ?_
    refine ar_icmp_ge 136 46 d_7_43 (by decide) rfl (fun _ => ?_) (fun c => absurd (nI_le (Nat.le_refl _) (by omega)) c)
    exact kk h f hF hR (hA.nx hS) hn hs ax_fr.rf
  | succ k ih =>
    intro m h f hm hF hR hA hS hn hs kk
    have hmn : m < nn := by omega
    refine ar_iload 42 d_7_40 rfl rfl ?_
    refine ar_iload_n 43 d_7_42 rfl rfl ?_
    refine ar_icmp_ge 136 46 d_7_43 (by decide) rfl (fun c => absurd c (nI_ge hmn (by omega))) (fun _ => ?_)
    refine ar_iload 48 d_7_46 rfl rfl ?_
    refine ar_istore 50 [(0, .ref rk), (1, .int (nI nn)), (2, .int C), (3, .int (nI gg)), (4, .int (nI g)), (5, .int (nI m)), (6, .int (nI m))] d_7_48 rfl (by decide) rfl ?_
    refine li_7X hfr hlo hgg hnn hg hmn m h f (Nat.le_refl _) hF hR hA hS.hole hn hs (fun i' h' f' k0 k1 k2 ka kb k3 k4 k5 => ?_)
    refine ar_iinc 133 [(0, .ref rk), (1, .int (nI nn)), (2, .int C), (3, .int (nI gg)), (4, .int (nI g)), (5, .int (nI (m + 1))), (6, .int (nI i'))] d_7_130 rfl rfl (nI_1 m) (by decide) rfl ?_
    refine ar_goto 40 d_7_133 (by decide) ?_
    refine ar_wk [0, 1, 2, 3, 4, 5] rfl (by simp) ?_
    exact ih (m + 1) h' f' (by omega) k1 k2 ka kb k3 k4 (fun h2 f2 j1 j2 ja j3 j4 j5 => kk h2 f2 j1 j2 ja j3 j4 (k5.tr j5))
theorem lo_7X {L : Nat} {xs : Nat → Int32} {fr lo rk o nn gg : Nat} {C : Int32} {post : ax_Po} {n sl : Nat} (hfr : 1 ≤ fr) (hlo : 22 ≤ lo) (hgg : gg ≤ 16) (hnn : nn ≤ 6) : ∀ (k g : Nat) (h : ax_H) (f : Nat → Int32), g + k = gg → ax_hs h [(rk, .inr (3, [.int (nI nn), .int C, .int (nI gg), .ref o])), (o, .inl (0, gg * nn, .inl f))] → Rg nn f → RwA nn g f → h.1 = n → h.2.1 = sl →
    (∀ (h' : ax_H) (f' : Nat → Int32), ax_hs h' [(rk, .inr (3, [.int (nI nn), .int C, .int (nI gg), .ref o])), (o, .inl (0, gg * nn, .inl f'))] → Rg nn f' → RwA nn gg f' → h'.1 = n → h'.2.1 = sl → ax_fr (fun x => x ∈ [o]) h h' → post none h') → ax_A (ax_step L xs) ((7, 31, fr, lo), [(0, .ref rk), (1, .int (nI nn)), (2, .int C), (3, .int (nI gg)), (4, .int (nI g))], [], h) post := by
  intro k
  induction k with
  | zero =>
    intro g h f hg hF hR hA hn hs kk
    have e : g = gg := by omega
    subst e
    refine ar_iload 33 d_7_31 rfl rfl ?_
    refine ar_iload_n 34 d_7_33 rfl rfl ?_
    refine ar_icmp_ge 142 37 d_7_34 (by decide) rfl (fun _ => ?_) (fun c => absurd (nI_le (Nat.le_refl _) (by omega)) c)
    exact ar_ret d_7_142 rfl (kk h f hF hR hA hn hs ax_fr.rf)
  | succ k ih =>
    intro g h f hg hF hR hA hn hs kk
    have hgn : g < gg := by omega
    refine ar_iload 33 d_7_31 rfl rfl ?_
    refine ar_iload_n 34 d_7_33 rfl rfl ?_
    refine ar_icmp_ge 142 37 d_7_34 (by decide) rfl (fun c => absurd c (nI_ge hgn (by omega))) (fun _ => ?_)
    refine ar_iconst 38 (v := 0) d_7_37 rfl (by decide) ?_
    refine ar_istore 40 [(0, .ref rk), (1, .int (nI nn)), (2, .int C), (3, .int (nI gg)), (4, .int (nI g)), (5, .int 0)] d_7_38 rfl (by decide) rfl ?_
    refine lm_7X hfr hlo hgg hnn hgn nn 0 h f (Nat.zero_add nn) hF hR hA ⟨fun i hi => absurd hi (by omega), fun i j _ hj => absurd hj (by omega)⟩ hn hs (fun h' f' k1 k2 ka k3 k4 k5 => ?_)
    refine ar_iinc 139 [(0, .ref rk), (1, .int (nI nn)), (2, .int C), (3, .int (nI gg)), (4, .int (nI (g + 1))), (5, .int (nI nn))] d_7_136 rfl rfl (nI_1 g) (by decide) rfl ?_
    refine ar_goto 31 d_7_139 (by decide) ?_
    refine ar_wk [0, 1, 2, 3, 4] rfl (by simp) ?_
    exact ih (g + 1) h' f' (by omega) k1 k2 ka k3 k4 (fun h2 f2 j1 j2 ja j3 j4 j5 => kk h2 f2 j1 j2 ja j3 j4 (k5.tr j5))
theorem c_7X {L : Nat} {xs : Nat → Int32} {fr lo rk nn gg n sl : Nat} {C : Int32} {h : ax_H} (hfr : 1 ≤ fr) (hlo : 22 ≤ lo) (hgg : gg ≤ 16) (hnn : nn ≤ 6) (hnp : 0 < nn) (hF : ax_hs h [(rk, .inr (3, [.int 0, .int 0, .int 0, .null]))]) (hn : h.1 = n) (hs : h.2.1 = sl) (hn0 : 0 < n) : ax_M L xs 7 fr lo [.ref rk, .int (nI nn), .int C, .int (nI gg)] h (fun r h' => ∃ f, r = none ∧ ax_hs h' [(rk, .inr (3, [.int (nI nn), .int C, .int (nI gg), .ref n])), (n, .inl (0, gg * nn, .inl f))] ∧ (Rg nn f ∧ RwA nn gg f) ∧ h'.1 = n + 1 ∧ h'.2.1 = sl + gg * nn ∧ ax_fr (fun x => x ∈ [rk]) h h') := by
  have hb := ix_b hgg hnn
  by_cases hn6 : 0 < nn
  · skip
    show ax_A (ax_step L xs) ((7, 0, fr, lo), [(0, .ref rk), (1, .int (nI nn)), (2, .int C), (3, .int (nI gg))], [], h) _
    have hbase : h.1 = n := hn
    have hbasl : h.2.1 = sl := hs
    have hf : ax_fr (fun x => x ∈ [rk]) h h := ax_fr.rf
    refine ar_aload_n 1 d_7_0 rfl rfl ?_
    refine ar_objI 4 d_7_1 rfl rfl (by omega) (by show 0 + 12 ≤ lo; omega) ?_
    refine ar_aload_n 5 d_7_4 rfl rfl ?_
    refine ar_iload_n 6 d_7_5 rfl rfl ?_
    refine ar_putf 9 [.int (nI nn), .int 0, .int 0, .null] d_7_6 rfl (ci := 3) (k := 0) rfl (by decide +kernel) (hF.at 0 rfl) (Nat.le_of_ble_eq_true rfl) rfl rfl rfl ?_
    replace hF : ax_hs (ax_put h rk (.inr (3, [.int (nI nn), .int 0, .int 0, .null]))) [(rk, .inr (3, [.int (nI nn), .int 0, .int 0, .null]))] := hF.put 0 _ rfl rfl
    replace hf := hf.put (a := rk) (c := .inr (3, [.int (nI nn), .int 0, .int 0, .null])) (by simp)
    replace hn : (ax_put h rk (.inr (3, [.int (nI nn), .int 0, .int 0, .null]))).1 = n := hn
    replace hs : (ax_put h rk (.inr (3, [.int (nI nn), .int 0, .int 0, .null]))).2.1 = sl := hs
    generalize ax_put h rk (.inr (3, [.int (nI nn), .int 0, .int 0, .null])) = h1 at hF hf hn hs ⊢
    refine ar_aload_n 10 d_7_9 rfl rfl ?_
    refine ar_iload_n 11 d_7_10 rfl rfl ?_
    refine ar_putf 14 [.int (nI nn), .int C, .int 0, .null] d_7_11 rfl (ci := 3) (k := 1) rfl (by decide +kernel) (hF.at 0 rfl) (Nat.le_of_ble_eq_true rfl) rfl rfl rfl ?_
    replace hF : ax_hs (ax_put h1 rk (.inr (3, [.int (nI nn), .int C, .int 0, .null]))) [(rk, .inr (3, [.int (nI nn), .int C, .int 0, .null]))] := hF.put 0 _ rfl rfl
    replace hf := hf.put (a := rk) (c := .inr (3, [.int (nI nn), .int C, .int 0, .null])) (by simp)
    replace hn : (ax_put h1 rk (.inr (3, [.int (nI nn), .int C, .int 0, .null]))).1 = n := hn
    replace hs : (ax_put h1 rk (.inr (3, [.int (nI nn), .int C, .int 0, .null]))).2.1 = sl := hs
    generalize ax_put h1 rk (.inr (3, [.int (nI nn), .int C, .int 0, .null])) = h2 at hF hf hn hs ⊢
    refine ar_aload_n 15 d_7_14 rfl rfl ?_
    refine ar_iload_n 16 d_7_15 rfl rfl ?_
    refine ar_putf 19 [.int (nI nn), .int C, .int (nI gg), .null] d_7_16 rfl (ci := 3) (k := 2) rfl (by decide +kernel) (hF.at 0 rfl) (Nat.le_of_ble_eq_true rfl) rfl rfl rfl ?_
    replace hF : ax_hs (ax_put h2 rk (.inr (3, [.int (nI nn), .int C, .int (nI gg), .null]))) [(rk, .inr (3, [.int (nI nn), .int C, .int (nI gg), .null]))] := hF.put 0 _ rfl rfl
    replace hf := hf.put (a := rk) (c := .inr (3, [.int (nI nn), .int C, .int (nI gg), .null])) (by simp)
    replace hn : (ax_put h2 rk (.inr (3, [.int (nI nn), .int C, .int (nI gg), .null]))).1 = n := hn
    replace hs : (ax_put h2 rk (.inr (3, [.int (nI nn), .int C, .int (nI gg), .null]))).2.1 = sl := hs
    generalize ax_put h2 rk (.inr (3, [.int (nI nn), .int C, .int (nI gg), .null])) = h3 at hF hf hn hs ⊢
    refine ar_aload_n 20 d_7_19 rfl rfl ?_
    refine ar_iload_n 21 d_7_20 rfl rfl ?_
    refine ar_iload_n 22 d_7_21 rfl rfl ?_
    refine ar_imul 23 d_7_22 rfl ?_
    refine ar_top (x' := nI (gg * nn)) (pk_mul gg nn) ?_
    refine ar_newi 25 d_7_23 rfl (nI_pos (by omega)) (N := gg * nn) (nI_clamp (by omega)) (by omega) ?_
    rw [hn]
    replace hF : ax_hs (ax_push h3 (gg * nn) (.inl (0, gg * nn, .inl (fun _ => 0)))) [(rk, .inr (3, [.int (nI nn), .int C, .int (nI gg), .null])), (n, .inl (0, gg * nn, .inl (fun _ => 0)))] := hF.push (by omega) (gg * nn) _ (by rw [hn]; rfl)
    replace hf := hf.push (n := (gg * nn)) (c := .inl (0, gg * nn, .inl (fun _ => 0)))
    replace hn : (ax_push h3 (gg * nn) (.inl (0, gg * nn, .inl (fun _ => 0)))).1 = n + 1 := by show h3.1 + 1 = _; rw [hn]
    replace hs : (ax_push h3 (gg * nn) (.inl (0, gg * nn, .inl (fun _ => 0)))).2.1 = sl + (gg * nn) := by show h3.2.1 + (gg * nn) = _; omega
    generalize ax_push h3 (gg * nn) (.inl (0, gg * nn, .inl (fun _ => 0))) = h4 at hF hf hn hs ⊢
    refine ar_putf 28 [.int (nI nn), .int C, .int (nI gg), .ref n] d_7_25 rfl (ci := 3) (k := 3) rfl (by decide +kernel) (hF.at 0 rfl) (Nat.le_of_ble_eq_true rfl) rfl rfl rfl ?_
    replace hF : ax_hs (ax_put h4 rk (.inr (3, [.int (nI nn), .int C, .int (nI gg), .ref n]))) [(rk, .inr (3, [.int (nI nn), .int C, .int (nI gg), .ref n])), (n, .inl (0, gg * nn, .inl (fun _ => 0)))] := hF.put 0 _ rfl rfl
    replace hf := hf.put (a := rk) (c := .inr (3, [.int (nI nn), .int C, .int (nI gg), .ref n])) (by simp)
    replace hn : (ax_put h4 rk (.inr (3, [.int (nI nn), .int C, .int (nI gg), .ref n]))).1 = n + 1 := hn
    replace hs : (ax_put h4 rk (.inr (3, [.int (nI nn), .int C, .int (nI gg), .ref n]))).2.1 = sl + (gg * nn) := hs
    generalize ax_put h4 rk (.inr (3, [.int (nI nn), .int C, .int (nI gg), .ref n])) = h5 at hF hf hn hs ⊢
    refine ar_iconst 29 (v := 0) d_7_28 rfl (by decide) ?_
    refine ar_istore 31 [(0, .ref rk), (1, .int (nI nn)), (2, .int C), (3, .int (nI gg)), (4, .int 0)] d_7_29 rfl (by decide) rfl ?_
    refine lo_7X hfr hlo hgg hnn gg 0 h5 _ (Nat.zero_add gg) (hF.sub [0, 1] rfl rfl) (fun j => ⟨0, hn6, rfl⟩) (fun x hx => absurd hx (by omega)) hn hs (fun h' f' k1 k2 ka k3 k4 k5 => ⟨f', rfl, k1, ⟨k2, ka⟩, k3, k4, hf.trC k5 (fun x hx hB => by simp at hB; omega)⟩)
  · exact absurd hnp hn6

/-- the masks of the GROUPS are those of the set s -/
def MkE (nn gg : Nat) (C : Int32) (f : Nat → Int32) (s : Int32) (fm : Nat → Int32) : Prop := ∀ i, i < gg → fm i = mof2 C (mof f C s nn (i * nn) 0 0)
theorem lp_32X {L : Nat} {xs : Nat → Int32} {fr lo ld rk nt nn gg o tb wk ma sp n sl : Nat} {C me e2 s2 : Int32} {f : Nat → Int32} {post : ax_Po} (hfr : 1 ≤ fr) (hlo : 26 ≤ lo) (hgg : gg ≤ 16) (hnn : nn ≤ 6) : ∀ (k i : Nat) (h : ax_H) (fm : Nat → Int32), i + k = gg → ax_hs h [(ld, .inr (9, [.int me, .ref rk, .ref nt, .ref tb, .ref wk, .ref ma, .ref sp, .int e2, .int s2, .int 0, .int 0, .long 0, .int 0, .int 0, .int 0])), (ma, .inl (0, 16, .inl fm)), (rk, .inr (3, [.int (nI nn), .int C, .int (nI gg), .ref o])), (o, .inl (0, gg * nn, .inl f))] → h.1 = n → h.2.1 = sl → (∀ j, j < i → fm j = mof2 C (mof f C s2 nn (j * nn) 0 0)) →
    (∀ (h' : ax_H) (fm : Nat → Int32), ax_hs h' [(ld, .inr (9, [.int me, .ref rk, .ref nt, .ref tb, .ref wk, .ref ma, .ref sp, .int e2, .int s2, .int 0, .int 0, .long 0, .int 0, .int 0, .int 0])), (ma, .inl (0, 16, .inl fm)), (rk, .inr (3, [.int (nI nn), .int C, .int (nI gg), .ref o])), (o, .inl (0, gg * nn, .inl f))] → h'.1 = n → h'.2.1 = sl → ax_fr (fun x => x ∈ [ma]) h h' → MkE nn gg C f s2 fm → ax_A (ax_step L xs) ((32, 51, fr, lo), [(0, .ref ld), (1, .int e2), (2, .int s2), (3, .int (nI gg))], [], h') post) → ax_A (ax_step L xs) ((32, 16, fr, lo), [(0, .ref ld), (1, .int e2), (2, .int s2), (3, .int (nI i))], [], h) post := by
  intro k
  induction k with
  | zero =>
    intro i h fm hi hF hn hs hmk kk
    have e : i = gg := by omega
    subst e
    refine ar_iload_n 17 d_32_16 rfl rfl ?_
    refine ar_aload_n 18 d_32_17 rfl rfl ?_
    refine ar_getf 21 d_32_18 rfl (ci := 9) (k := 1) rfl (hF.at 0 rfl) rfl ?_
    refine ar_getf 24 d_32_21 rfl (ci := 3) (k := 2) rfl (hF.at 2 rfl) rfl ?_
    refine ar_icmp_ge 51 27 d_32_24 (by decide) rfl (fun _ => ?_) (fun c => absurd (nI_le (Nat.le_refl _) (by omega)) c)
    exact kk h fm hF hn hs ax_fr.rf hmk
  | succ k ih =>
    intro i h fm hi hF hn hs hmk kk
    have hin : i < gg := by omega
    have hbase : h.1 = n := hn
    have hbasl : h.2.1 = sl := hs
    have hf : ax_fr (fun x => x ∈ [ma]) h h := ax_fr.rf
    refine ar_iload_n 17 d_32_16 rfl rfl ?_
    refine ar_aload_n 18 d_32_17 rfl rfl ?_
    refine ar_getf 21 d_32_18 rfl (ci := 9) (k := 1) rfl (hF.at 0 rfl) rfl ?_
    refine ar_getf 24 d_32_21 rfl (ci := 3) (k := 2) rfl (hF.at 2 rfl) rfl ?_
    refine ar_icmp_ge 51 27 d_32_24 (by decide) rfl (fun c => absurd c (nI_ge hin (by omega))) (fun _ => ?_)
    refine ar_aload_n 28 d_32_27 rfl rfl ?_
    refine ar_getf 31 d_32_28 rfl (ci := 9) (k := 5) rfl (hF.at 0 rfl) rfl ?_
    refine ar_iload_n 32 d_32_31 rfl rfl ?_
    refine ar_aload_n 33 d_32_32 rfl rfl ?_
    refine ar_getf 36 d_32_33 rfl (ci := 9) (k := 1) rfl (hF.at 0 rfl) rfl ?_
    refine ar_iload_n 37 d_32_36 rfl rfl ?_
    refine ar_aload_n 38 d_32_37 rfl rfl ?_
    refine ar_getf 41 d_32_38 rfl (ci := 9) (k := 8) rfl (hF.at 0 rfl) rfl ?_
    refine ar_call (r := [.int (nI i), .ref ma]) (na := 0) (kd := 0) (cm := 34) (fr2 := fr - 1) (lo2 := lo - 26) 44 d_32_41 (ar_hoV (as := [.int (nI i), .int s2]) rfl rfl rfl (hF.at 2 rfl)) rfl (by omega) (show lo - 26 + (19 + 7) = lo by omega) (Nat.le_of_ble_eq_true rfl) (Nat.le_of_ble_eq_true rfl) (c_34 hgg hnn hin (hF.sub (F' := [(rk, .inr (3, [.int (nI nn), .int C, .int (nI gg), .ref o])), (o, .inl (0, gg * nn, .inl f))]) [2, 3] rfl rfl)) ?_
    intro v hh hq
    obtain ⟨rfl, ehh⟩ := hq
    rw [ehh]
    clear ehh
    refine ar_iast 45 d_32_44 rfl (hF.at 1 rfl) (vp_in_nI (by omega) (by decide)) ?_
    replace hF : ax_hs (ax_put h ma (.inl (0, 16, .inl (upd fm (nI i).toNatClampNeg (mof2 C (mof f C s2 nn (i * nn) 0 0)))))) [(ld, .inr (9, [.int me, .ref rk, .ref nt, .ref tb, .ref wk, .ref ma, .ref sp, .int e2, .int s2, .int 0, .int 0, .long 0, .int 0, .int 0, .int 0])), (ma, .inl (0, 16, .inl (upd fm (nI i).toNatClampNeg (mof2 C (mof f C s2 nn (i * nn) 0 0))))), (rk, .inr (3, [.int (nI nn), .int C, .int (nI gg), .ref o])), (o, .inl (0, gg * nn, .inl f))] := hF.put 1 _ rfl rfl
    replace hf := hf.put (a := ma) (c := .inl (0, 16, .inl (upd fm (nI i).toNatClampNeg (mof2 C (mof f C s2 nn (i * nn) 0 0))))) (by simp)
    replace hn : (ax_put h ma (.inl (0, 16, .inl (upd fm (nI i).toNatClampNeg (mof2 C (mof f C s2 nn (i * nn) 0 0)))))).1 = n := hn
    replace hs : (ax_put h ma (.inl (0, 16, .inl (upd fm (nI i).toNatClampNeg (mof2 C (mof f C s2 nn (i * nn) 0 0)))))).2.1 = sl := hs
    generalize ax_put h ma (.inl (0, 16, .inl (upd fm (nI i).toNatClampNeg (mof2 C (mof f C s2 nn (i * nn) 0 0))))) = h1 at hF hf hn hs ⊢
    refine ar_iinc 48 [(0, .ref ld), (1, .int e2), (2, .int s2), (3, .int (nI (i + 1)))] d_32_45 rfl rfl (nI_1 i) (by decide) rfl ?_
    refine ar_goto 16 d_32_48 (by decide) ?_
    rw [nI_clamp (show i < 2 ^ 31 by omega)] at hF
    exact ih (i + 1) h1 _ (by omega) hF hn hs (fun j hj => by
      by_cases e : j = i
      · rw [e, pk_us]
      · rw [pk_un e]; exact hmk j (by omega)) (fun h' fm' j1 j2 j3 j4 j5 => kk h' fm' j1 j2 j3 (hf.tr j4) j5)
theorem c_32LX {L : Nat} {xs : Nat → Int32} {fr lo w q nn gg o n sl : Nat} {ld rk nt tb wk ma sp wa wb a1 a2 a3 a4 a5 a6 a7 : Nat} {me ep st hd cl ni tu md g fl an ws wo w5 w6 w7 w8 w9 w10 w11 w12 w13 w14 : Int32} {ak kn : Int64} {f1 f2 f5 f6 f7 : Nat → Int32} {C e2 s2 : Int32} {f fm u b : Nat → Int32} {h : ax_H} {ids : List Nat} {ms : List Mg} (hfr : 3 ≤ fr) (hlo : 63 ≤ lo) (hgg : gg ≤ 16) (hnn : nn ≤ 6) (hA_ld : ¬ NTA nt w ld) (hA_tb : ¬ NTA nt w tb) (hA_wk : ¬ NTA nt w wk) (hA_a1 : ¬ NTA nt w a1) (hA_a2 : ¬ NTA nt w a2) (hA_a5 : ¬ NTA nt w a5) (hA_a6 : ¬ NTA nt w a6) (hA_a7 : ¬ NTA nt w a7) (hA_ma : ¬ NTA nt w ma) (hA_rk : ¬ NTA nt w rk) (hA_o : ¬ NTA nt w o) (hl : ids.length + nn < 128) (hN : NTL h nt w ids ms q u b) (hF : ax_hs h [(ld, .inr (9, [.int me, .ref rk, .ref nt, .ref tb, .ref wk, .ref ma, .ref sp, .int ep, .int st, .int hd, .int cl, .long ak, .int ni, .int tu, .int md])), (tb, .inr (6, [.int g, .ref a1, .ref a2, .ref a3, .ref a4, .ref a5, .ref a6, .ref a7, .long kn, .int fl, .int an])), (wk, .inr (10, [.ref tb, .ref wa, .ref wb, .int ws, .int wo, .int w5, .int w6, .int w7, .int w8, .int w9, .int w10, .int w11, .int w12, .int w13, .int w14])), (a1, .inl (0, 48, .inl f1)), (a2, .inl (0, 48, .inl f2)), (a5, .inl (0, 512, .inl f5)), (a6, .inl (0, 961, .inl f6)), (a7, .inl (0, 961, .inl f7)), (ma, .inl (0, 16, .inl fm)), (rk, .inr (3, [.int (nI nn), .int C, .int (nI gg), .ref o])), (o, .inl (0, gg * nn, .inl f))]) (hn : h.1 = n) (hs : h.2.1 = sl) (hn0 : 0 < n) : ax_M L xs 32 fr lo [.ref ld, .int e2, .int s2] h (fun r h' => ∃ fm' ids' ms', r = none ∧ MkE nn gg C f s2 fm' ∧ ax_hs h' [(ld, .inr (9, [.int me, .ref rk, .ref nt, .ref tb, .ref wk, .ref ma, .ref sp, .int e2, .int s2, .int 0, .int 0, .long 0, .int 0, .int 0, .int 0])), (tb, .inr (6, [.int g, .ref a1, .ref a2, .ref a3, .ref a4, .ref a5, .ref a6, .ref a7, .long 0, .int 0, .int 0])), (wk, .inr (10, [.ref tb, .ref wa, .ref wb, .int 0, .int (-1), .int w5, .int w6, .int w7, .int w8, .int w9, .int w10, .int w11, .int w12, .int w13, .int w14])), (a1, .inl (0, 48, .inl (ax_fill f1 0 48 (-1)))), (a2, .inl (0, 48, .inl (ax_fill f2 0 48 0))), (a5, .inl (0, 512, .inl (ax_fill f5 0 512 (-1)))), (a6, .inl (0, 961, .inl (ax_fill f6 0 961 (-1)))), (a7, .inl (0, 961, .inl (ax_fill f7 0 961 0))), (ma, .inl (0, 16, .inl fm')), (rk, .inr (3, [.int (nI nn), .int C, .int (nI gg), .ref o])), (o, .inl (0, gg * nn, .inl f))] ∧ NTL h' nt w ids' ms' q u b ∧ ms'.map (·.1) = ms.map (·.1) ++ (List.range' 0 nn).map (fun n => mg 4 me (nI n) e2 s2) ∧ h'.1 = n ∧ h'.2.1 = sl ∧ ax_fr (fun x => NTA nt w x ∨ x ∈ [ld, tb, wk, a1, a2, a5, a6, a7, ma]) h h') := by
  show ax_A (ax_step L xs) ((32, 0, fr, lo), [(0, .ref ld), (1, .int e2), (2, .int s2)], [], h) _
  have hbase : h.1 = n := hn
  have hbasl : h.2.1 = sl := hs
  have hf : ax_fr (fun x => x ∈ [ld, tb, wk, a1, a2, a5, a6, a7, ma]) h h := ax_fr.rf
  refine ar_aload_n 1 d_32_0 rfl rfl ?_
  refine ar_call (r := []) (na := 0) (kd := 0) (cm := 33) (fr2 := fr - 1) (lo2 := lo - 20) 4 d_32_1 (ar_hoV (as := []) rfl rfl rfl (hF.at 0 rfl)) rfl (by omega) (show lo - 20 + (19 + 1) = lo by omega) (Nat.le_of_ble_eq_true rfl) (Nat.le_of_ble_eq_true rfl) (c_33 (by omega) (by omega) (hF.sub (F' := [(ld, .inr (9, [.int me, .ref rk, .ref nt, .ref tb, .ref wk, .ref ma, .ref sp, .int ep, .int st, .int hd, .int cl, .long ak, .int ni, .int tu, .int md])), (tb, .inr (6, [.int g, .ref a1, .ref a2, .ref a3, .ref a4, .ref a5, .ref a6, .ref a7, .long kn, .int fl, .int an])), (wk, .inr (10, [.ref tb, .ref wa, .ref wb, .int ws, .int wo, .int w5, .int w6, .int w7, .int w8, .int w9, .int w10, .int w11, .int w12, .int w13, .int w14])), (a1, .inl (0, 48, .inl f1)), (a2, .inl (0, 48, .inl f2)), (a5, .inl (0, 512, .inl f5)), (a6, .inl (0, 961, .inl f6)), (a7, .inl (0, 961, .inl f7))]) [0, 1, 2, 3, 4, 5, 6, 7] rfl rfl) hn hs (by omega)) ?_
  intro v h1 hq
  obtain ⟨rfl, qF, qn, qs, qf⟩ := hq
  have qF : ax_hs h1 [(ld, .inr (9, [.int me, .ref rk, .ref nt, .ref tb, .ref wk, .ref ma, .ref sp, .int ep, .int st, .int 0, .int 0, .long 0, .int 0, .int 0, .int 0])), (tb, .inr (6, [.int g, .ref a1, .ref a2, .ref a3, .ref a4, .ref a5, .ref a6, .ref a7, .long 0, .int 0, .int 0])), (wk, .inr (10, [.ref tb, .ref wa, .ref wb, .int 0, .int (-1), .int w5, .int w6, .int w7, .int w8, .int w9, .int w10, .int w11, .int w12, .int w13, .int w14])), (a1, .inl (0, 48, .inl (ax_fill f1 0 48 (-1)))), (a2, .inl (0, 48, .inl (ax_fill f2 0 48 0))), (a5, .inl (0, 512, .inl (ax_fill f5 0 512 (-1)))), (a6, .inl (0, 961, .inl (ax_fill f6 0 961 (-1)))), (a7, .inl (0, 961, .inl (ax_fill f7 0 961 0)))] := qF
  replace hF : ax_hs h1 [(ma, .inl (0, 16, .inl fm)), (rk, .inr (3, [.int (nI nn), .int C, .int (nI gg), .ref o])), (o, .inl (0, gg * nn, .inl f)), (ld, .inr (9, [.int me, .ref rk, .ref nt, .ref tb, .ref wk, .ref ma, .ref sp, .int ep, .int st, .int 0, .int 0, .long 0, .int 0, .int 0, .int 0])), (tb, .inr (6, [.int g, .ref a1, .ref a2, .ref a3, .ref a4, .ref a5, .ref a6, .ref a7, .long 0, .int 0, .int 0])), (wk, .inr (10, [.ref tb, .ref wa, .ref wb, .int 0, .int (-1), .int w5, .int w6, .int w7, .int w8, .int w9, .int w10, .int w11, .int w12, .int w13, .int w14])), (a1, .inl (0, 48, .inl (ax_fill f1 0 48 (-1)))), (a2, .inl (0, 48, .inl (ax_fill f2 0 48 0))), (a5, .inl (0, 512, .inl (ax_fill f5 0 512 (-1)))), (a6, .inl (0, 961, .inl (ax_fill f6 0 961 (-1)))), (a7, .inl (0, 961, .inl (ax_fill f7 0 961 0)))] := ax_hs.call (rest := [(ma, .inl (0, 16, .inl fm)), (rk, .inr (3, [.int (nI nn), .int C, .int (nI gg), .ref o])), (o, .inl (0, gg * nn, .inl f))]) [0, 1, 2, 3, 4, 5, 6, 7] [8, 9, 10] hF qf qF rfl rfl rfl [0, 1, 2, 3, 4, 5, 6, 7] rfl rfl [0, 1, 2, 3, 4, 5, 6, 7] (news := []) rfl rfl (fun _ z => absurd z List.not_mem_nil) rfl
  replace hf := hf.trC qf (by intro x hx hB; simp at hB; first | (rcases hB with rfl | rfl | rfl | rfl | rfl | rfl | rfl | rfl <;> first | omega | simp) | omega | simp [hB])
  replace hn : h1.1 = n := by omega
  replace hs : h1.2.1 = sl := by omega
  clear qF qn qs qf
  refine ar_aload_n 5 d_32_4 rfl rfl ?_
  refine ar_iload_n 6 d_32_5 rfl rfl ?_
  refine ar_putf 9 [.int me, .ref rk, .ref nt, .ref tb, .ref wk, .ref ma, .ref sp, .int e2, .int st, .int 0, .int 0, .long 0, .int 0, .int 0, .int 0] d_32_6 rfl (ci := 9) (k := 7) rfl rfl (hF.at 3 rfl) (Nat.le_of_ble_eq_true rfl) rfl rfl rfl ?_
  replace hF : ax_hs (ax_put h1 ld (.inr (9, [.int me, .ref rk, .ref nt, .ref tb, .ref wk, .ref ma, .ref sp, .int e2, .int st, .int 0, .int 0, .long 0, .int 0, .int 0, .int 0]))) [(ma, .inl (0, 16, .inl fm)), (rk, .inr (3, [.int (nI nn), .int C, .int (nI gg), .ref o])), (o, .inl (0, gg * nn, .inl f)), (ld, .inr (9, [.int me, .ref rk, .ref nt, .ref tb, .ref wk, .ref ma, .ref sp, .int e2, .int st, .int 0, .int 0, .long 0, .int 0, .int 0, .int 0])), (tb, .inr (6, [.int g, .ref a1, .ref a2, .ref a3, .ref a4, .ref a5, .ref a6, .ref a7, .long 0, .int 0, .int 0])), (wk, .inr (10, [.ref tb, .ref wa, .ref wb, .int 0, .int (-1), .int w5, .int w6, .int w7, .int w8, .int w9, .int w10, .int w11, .int w12, .int w13, .int w14])), (a1, .inl (0, 48, .inl (ax_fill f1 0 48 (-1)))), (a2, .inl (0, 48, .inl (ax_fill f2 0 48 0))), (a5, .inl (0, 512, .inl (ax_fill f5 0 512 (-1)))), (a6, .inl (0, 961, .inl (ax_fill f6 0 961 (-1)))), (a7, .inl (0, 961, .inl (ax_fill f7 0 961 0)))] := hF.put 3 _ rfl rfl
  replace hf := hf.put (a := ld) (c := .inr (9, [.int me, .ref rk, .ref nt, .ref tb, .ref wk, .ref ma, .ref sp, .int e2, .int st, .int 0, .int 0, .long 0, .int 0, .int 0, .int 0])) (by simp)
  replace hn : (ax_put h1 ld (.inr (9, [.int me, .ref rk, .ref nt, .ref tb, .ref wk, .ref ma, .ref sp, .int e2, .int st, .int 0, .int 0, .long 0, .int 0, .int 0, .int 0]))).1 = n := hn
  replace hs : (ax_put h1 ld (.inr (9, [.int me, .ref rk, .ref nt, .ref tb, .ref wk, .ref ma, .ref sp, .int e2, .int st, .int 0, .int 0, .long 0, .int 0, .int 0, .int 0]))).2.1 = sl := hs
  generalize ax_put h1 ld (.inr (9, [.int me, .ref rk, .ref nt, .ref tb, .ref wk, .ref ma, .ref sp, .int e2, .int st, .int 0, .int 0, .long 0, .int 0, .int 0, .int 0])) = h2 at hF hf hn hs ⊢
  refine ar_aload_n 10 d_32_9 rfl rfl ?_
  refine ar_iload_n 11 d_32_10 rfl rfl ?_
  refine ar_putf 14 [.int me, .ref rk, .ref nt, .ref tb, .ref wk, .ref ma, .ref sp, .int e2, .int s2, .int 0, .int 0, .long 0, .int 0, .int 0, .int 0] d_32_11 rfl (ci := 9) (k := 8) rfl rfl (hF.at 3 rfl) (Nat.le_of_ble_eq_true rfl) rfl rfl rfl ?_
  replace hF : ax_hs (ax_put h2 ld (.inr (9, [.int me, .ref rk, .ref nt, .ref tb, .ref wk, .ref ma, .ref sp, .int e2, .int s2, .int 0, .int 0, .long 0, .int 0, .int 0, .int 0]))) [(ma, .inl (0, 16, .inl fm)), (rk, .inr (3, [.int (nI nn), .int C, .int (nI gg), .ref o])), (o, .inl (0, gg * nn, .inl f)), (ld, .inr (9, [.int me, .ref rk, .ref nt, .ref tb, .ref wk, .ref ma, .ref sp, .int e2, .int s2, .int 0, .int 0, .long 0, .int 0, .int 0, .int 0])), (tb, .inr (6, [.int g, .ref a1, .ref a2, .ref a3, .ref a4, .ref a5, .ref a6, .ref a7, .long 0, .int 0, .int 0])), (wk, .inr (10, [.ref tb, .ref wa, .ref wb, .int 0, .int (-1), .int w5, .int w6, .int w7, .int w8, .int w9, .int w10, .int w11, .int w12, .int w13, .int w14])), (a1, .inl (0, 48, .inl (ax_fill f1 0 48 (-1)))), (a2, .inl (0, 48, .inl (ax_fill f2 0 48 0))), (a5, .inl (0, 512, .inl (ax_fill f5 0 512 (-1)))), (a6, .inl (0, 961, .inl (ax_fill f6 0 961 (-1)))), (a7, .inl (0, 961, .inl (ax_fill f7 0 961 0)))] := hF.put 3 _ rfl rfl
  replace hf := hf.put (a := ld) (c := .inr (9, [.int me, .ref rk, .ref nt, .ref tb, .ref wk, .ref ma, .ref sp, .int e2, .int s2, .int 0, .int 0, .long 0, .int 0, .int 0, .int 0])) (by simp)
  replace hn : (ax_put h2 ld (.inr (9, [.int me, .ref rk, .ref nt, .ref tb, .ref wk, .ref ma, .ref sp, .int e2, .int s2, .int 0, .int 0, .long 0, .int 0, .int 0, .int 0]))).1 = n := hn
  replace hs : (ax_put h2 ld (.inr (9, [.int me, .ref rk, .ref nt, .ref tb, .ref wk, .ref ma, .ref sp, .int e2, .int s2, .int 0, .int 0, .long 0, .int 0, .int 0, .int 0]))).2.1 = sl := hs
  generalize ax_put h2 ld (.inr (9, [.int me, .ref rk, .ref nt, .ref tb, .ref wk, .ref ma, .ref sp, .int e2, .int s2, .int 0, .int 0, .long 0, .int 0, .int 0, .int 0])) = h3 at hF hf hn hs ⊢
  refine ar_iconst 15 (v := 0) d_32_14 rfl (by decide) ?_
  refine ar_istore_n 16 [(0, .ref ld), (1, .int e2), (2, .int s2), (3, .int 0)] d_32_15 rfl (by decide) rfl ?_
  refine lp_32X (by omega) (by omega) hgg hnn gg 0 h3 _ (Nat.zero_add gg) (hF.sub (F' := [(ld, .inr (9, [.int me, .ref rk, .ref nt, .ref tb, .ref wk, .ref ma, .ref sp, .int e2, .int s2, .int 0, .int 0, .long 0, .int 0, .int 0, .int 0])), (ma, .inl (0, 16, .inl fm)), (rk, .inr (3, [.int (nI nn), .int C, .int (nI gg), .ref o])), (o, .inl (0, gg * nn, .inl f))]) [3, 0, 1, 2] rfl rfl) hn hs (fun j hj => absurd hj (by omega)) (fun h' fm' j1 j2 j3 j4 jm => ?_)
  have hF : ax_hs h' [(tb, .inr (6, [.int g, .ref a1, .ref a2, .ref a3, .ref a4, .ref a5, .ref a6, .ref a7, .long 0, .int 0, .int 0])), (wk, .inr (10, [.ref tb, .ref wa, .ref wb, .int 0, .int (-1), .int w5, .int w6, .int w7, .int w8, .int w9, .int w10, .int w11, .int w12, .int w13, .int w14])), (a1, .inl (0, 48, .inl (ax_fill f1 0 48 (-1)))), (a2, .inl (0, 48, .inl (ax_fill f2 0 48 0))), (a5, .inl (0, 512, .inl (ax_fill f5 0 512 (-1)))), (a6, .inl (0, 961, .inl (ax_fill f6 0 961 (-1)))), (a7, .inl (0, 961, .inl (ax_fill f7 0 961 0))), (ld, .inr (9, [.int me, .ref rk, .ref nt, .ref tb, .ref wk, .ref ma, .ref sp, .int e2, .int s2, .int 0, .int 0, .long 0, .int 0, .int 0, .int 0])), (ma, .inl (0, 16, .inl fm')), (rk, .inr (3, [.int (nI nn), .int C, .int (nI gg), .ref o])), (o, .inl (0, gg * nn, .inl f))] := ax_hs.call (rest := [(tb, .inr (6, [.int g, .ref a1, .ref a2, .ref a3, .ref a4, .ref a5, .ref a6, .ref a7, .long 0, .int 0, .int 0])), (wk, .inr (10, [.ref tb, .ref wa, .ref wb, .int 0, .int (-1), .int w5, .int w6, .int w7, .int w8, .int w9, .int w10, .int w11, .int w12, .int w13, .int w14])), (a1, .inl (0, 48, .inl (ax_fill f1 0 48 (-1)))), (a2, .inl (0, 48, .inl (ax_fill f2 0 48 0))), (a5, .inl (0, 512, .inl (ax_fill f5 0 512 (-1)))), (a6, .inl (0, 961, .inl (ax_fill f6 0 961 (-1)))), (a7, .inl (0, 961, .inl (ax_fill f7 0 961 0)))]) [3, 0, 1, 2] [4, 5, 6, 7, 8, 9, 10] hF j4 j1 rfl rfl rfl [0] rfl rfl [3, 0, 1, 2] (news := []) rfl rfl (fun _ z => absurd z List.not_mem_nil) rfl
  have hf := hf.trC j4 (by intro x hx hB; simp at hB; subst hB; simp)
  have hN := hN.fr hf (by intro x hx hB; simp at hB; rcases hB with rfl | rfl | rfl | rfl | rfl | rfl | rfl | rfl | rfl <;> exact absurd hx (by assumption))
  refine ar_aload_n 52 d_32_51 rfl rfl ?_
  refine ar_call (r := []) (na := 0) (kd := 0) (cm := 35) (fr2 := fr - 1) (lo2 := lo - 21) 55 d_32_52 (ar_hoV (as := []) rfl rfl rfl (hF.at 7 rfl)) rfl (by omega) (show lo - 21 + (19 + 2) = lo by omega) (Nat.le_of_ble_eq_true rfl) (Nat.le_of_ble_eq_true rfl) (c_35L (by omega) (by omega) hnn hA_ld hA_rk hl (hF.sub (F' := [(ld, .inr (9, [.int me, .ref rk, .ref nt, .ref tb, .ref wk, .ref ma, .ref sp, .int e2, .int s2, .int 0, .int 0, .long 0, .int 0, .int 0, .int 0])), (rk, .inr (3, [.int (nI nn), .int C, .int (nI gg), .ref o]))]) [7, 9] rfl rfl) hN) ?_
  intro v h2 hq
  obtain ⟨ids', ms', rfl, hN2, hms, hf2, hz1, hz2⟩ := hq
  have hF2 := hF.fr hf2 (by intro x hx; simp at hx; rcases hx with rfl | rfl | rfl | rfl | rfl | rfl | rfl | rfl | rfl | rfl | rfl <;> assumption)
  have hF3 := hF2.sub (F' := [(ld, .inr (9, [.int me, .ref rk, .ref nt, .ref tb, .ref wk, .ref ma, .ref sp, .int e2, .int s2, .int 0, .int 0, .long 0, .int 0, .int 0, .int 0])), (tb, .inr (6, [.int g, .ref a1, .ref a2, .ref a3, .ref a4, .ref a5, .ref a6, .ref a7, .long 0, .int 0, .int 0])), (wk, .inr (10, [.ref tb, .ref wa, .ref wb, .int 0, .int (-1), .int w5, .int w6, .int w7, .int w8, .int w9, .int w10, .int w11, .int w12, .int w13, .int w14])), (a1, .inl (0, 48, .inl (ax_fill f1 0 48 (-1)))), (a2, .inl (0, 48, .inl (ax_fill f2 0 48 0))), (a5, .inl (0, 512, .inl (ax_fill f5 0 512 (-1)))), (a6, .inl (0, 961, .inl (ax_fill f6 0 961 (-1)))), (a7, .inl (0, 961, .inl (ax_fill f7 0 961 0))), (ma, .inl (0, 16, .inl fm')), (rk, .inr (3, [.int (nI nn), .int C, .int (nI gg), .ref o])), (o, .inl (0, gg * nn, .inl f))]) [7, 0, 1, 2, 3, 4, 5, 6, 8, 9, 10] rfl rfl
  exact ar_ret d_32_55 rfl (⟨fm', ids', ms', rfl, jm, hF3, hN2, hms, by omega, by omega, ((hf.mono (fun x hx => Or.inr hx)).tr (hf2.mono (fun x hx => Or.inl hx)))⟩)

theorem c_29LX {L : Nat} {xs : Nat → Int32} {fr lo w q nn gg o n sl nd dk tg : Nat} {ld rk nt tb wk ma sp wa wb a1 a2 a3 a4 a5 a6 a7 : Nat} {me ep st hd cl ni tu md g fl an ws wo w5 w6 w7 w8 w9 w10 w11 w12 w13 w14 : Int32} {ak kn : Int64} {f1 f2 f5 f6 f7 : Nat → Int32} {C e2 s2 up ne ns : Int32} {f fm u b : Nat → Int32} {h : ax_H} {ids : List Nat} {ms : List Mg} (hfr : 4 ≤ fr) (hlo : 86 ≤ lo) (hgg : gg ≤ 16) (hg1 : 0 < gg) (hnn : nn ≤ 6) (hA_nd : ¬ NTA nt w nd) (hA_ld : ¬ NTA nt w ld) (hA_tb : ¬ NTA nt w tb) (hA_wk : ¬ NTA nt w wk) (hA_a1 : ¬ NTA nt w a1) (hA_a2 : ¬ NTA nt w a2) (hA_a5 : ¬ NTA nt w a5) (hA_a6 : ¬ NTA nt w a6) (hA_a7 : ¬ NTA nt w a7) (hA_ma : ¬ NTA nt w ma) (hA_rk : ¬ NTA nt w rk) (hA_o : ¬ NTA nt w o) (hld : nof f 0 s2 nn 0 0 = me) (hl : ids.length + nn < 128) (hN : NTL h nt w ids ms q u b) (hF : ax_hs h [(nd, .inr (7, [.int me, .ref rk, .ref nt, .ref dk, .ref ld, .ref tg, .int up, .int ne, .int ns])), (ld, .inr (9, [.int me, .ref rk, .ref nt, .ref tb, .ref wk, .ref ma, .ref sp, .int ep, .int st, .int hd, .int cl, .long ak, .int ni, .int tu, .int md])), (tb, .inr (6, [.int g, .ref a1, .ref a2, .ref a3, .ref a4, .ref a5, .ref a6, .ref a7, .long kn, .int fl, .int an])), (wk, .inr (10, [.ref tb, .ref wa, .ref wb, .int ws, .int wo, .int w5, .int w6, .int w7, .int w8, .int w9, .int w10, .int w11, .int w12, .int w13, .int w14])), (a1, .inl (0, 48, .inl f1)), (a2, .inl (0, 48, .inl f2)), (a5, .inl (0, 512, .inl f5)), (a6, .inl (0, 961, .inl f6)), (a7, .inl (0, 961, .inl f7)), (ma, .inl (0, 16, .inl fm)), (rk, .inr (3, [.int (nI nn), .int C, .int (nI gg), .ref o])), (o, .inl (0, gg * nn, .inl f))]) (hn : h.1 = n) (hs : h.2.1 = sl) (hn0 : 0 < n) : ax_M L xs 29 fr lo [.ref nd, .int e2, .int s2] h (fun r h' => ∃ fm' ids' ms', r = none ∧ MkE nn gg C f s2 fm' ∧ ax_hs h' [(nd, .inr (7, [.int me, .ref rk, .ref nt, .ref dk, .ref ld, .ref tg, .int up, .int e2, .int s2])), (ld, .inr (9, [.int me, .ref rk, .ref nt, .ref tb, .ref wk, .ref ma, .ref sp, .int e2, .int s2, .int 0, .int 0, .long 0, .int 0, .int 0, .int 0])), (tb, .inr (6, [.int g, .ref a1, .ref a2, .ref a3, .ref a4, .ref a5, .ref a6, .ref a7, .long 0, .int 0, .int 0])), (wk, .inr (10, [.ref tb, .ref wa, .ref wb, .int 0, .int (-1), .int w5, .int w6, .int w7, .int w8, .int w9, .int w10, .int w11, .int w12, .int w13, .int w14])), (a1, .inl (0, 48, .inl (ax_fill f1 0 48 (-1)))), (a2, .inl (0, 48, .inl (ax_fill f2 0 48 0))), (a5, .inl (0, 512, .inl (ax_fill f5 0 512 (-1)))), (a6, .inl (0, 961, .inl (ax_fill f6 0 961 (-1)))), (a7, .inl (0, 961, .inl (ax_fill f7 0 961 0))), (ma, .inl (0, 16, .inl fm')), (rk, .inr (3, [.int (nI nn), .int C, .int (nI gg), .ref o])), (o, .inl (0, gg * nn, .inl f))] ∧ NTL h' nt w ids' ms' q u b ∧ ms'.map (·.1) = ms.map (·.1) ++ (List.range' 0 nn).map (fun n => mg 4 me (nI n) e2 s2) ∧ h'.1 = n ∧ h'.2.1 = sl ∧ ax_fr (fun x => NTA nt w x ∨ x ∈ [nd, ld, tb, wk, a1, a2, a5, a6, a7, ma]) h h') := by
  show ax_A (ax_step L xs) ((29, 0, fr, lo), [(0, .ref nd), (1, .int e2), (2, .int s2)], [], h) _
  have hbase : h.1 = n := hn
  have hbasl : h.2.1 = sl := hs
  have hf : ax_fr (fun x => x ∈ [nd, ld, tb, wk, a1, a2, a5, a6, a7, ma]) h h := ax_fr.rf
  refine ar_aload_n 1 d_29_0 rfl rfl ?_
  refine ar_iload_n 2 d_29_1 rfl rfl ?_
  refine ar_putf 5 [.int me, .ref rk, .ref nt, .ref dk, .ref ld, .ref tg, .int up, .int e2, .int ns] d_29_2 rfl (ci := 7) (k := 7) rfl rfl (hF.at 0 rfl) (Nat.le_of_ble_eq_true rfl) rfl rfl rfl ?_
  replace hF : ax_hs (ax_put h nd (.inr (7, [.int me, .ref rk, .ref nt, .ref dk, .ref ld, .ref tg, .int up, .int e2, .int ns]))) [(nd, .inr (7, [.int me, .ref rk, .ref nt, .ref dk, .ref ld, .ref tg, .int up, .int e2, .int ns])), (ld, .inr (9, [.int me, .ref rk, .ref nt, .ref tb, .ref wk, .ref ma, .ref sp, .int ep, .int st, .int hd, .int cl, .long ak, .int ni, .int tu, .int md])), (tb, .inr (6, [.int g, .ref a1, .ref a2, .ref a3, .ref a4, .ref a5, .ref a6, .ref a7, .long kn, .int fl, .int an])), (wk, .inr (10, [.ref tb, .ref wa, .ref wb, .int ws, .int wo, .int w5, .int w6, .int w7, .int w8, .int w9, .int w10, .int w11, .int w12, .int w13, .int w14])), (a1, .inl (0, 48, .inl f1)), (a2, .inl (0, 48, .inl f2)), (a5, .inl (0, 512, .inl f5)), (a6, .inl (0, 961, .inl f6)), (a7, .inl (0, 961, .inl f7)), (ma, .inl (0, 16, .inl fm)), (rk, .inr (3, [.int (nI nn), .int C, .int (nI gg), .ref o])), (o, .inl (0, gg * nn, .inl f))] := hF.put 0 _ rfl rfl
  replace hf := hf.put (a := nd) (c := .inr (7, [.int me, .ref rk, .ref nt, .ref dk, .ref ld, .ref tg, .int up, .int e2, .int ns])) (by simp)
  replace hn : (ax_put h nd (.inr (7, [.int me, .ref rk, .ref nt, .ref dk, .ref ld, .ref tg, .int up, .int e2, .int ns]))).1 = n := hn
  replace hs : (ax_put h nd (.inr (7, [.int me, .ref rk, .ref nt, .ref dk, .ref ld, .ref tg, .int up, .int e2, .int ns]))).2.1 = sl := hs
  generalize ax_put h nd (.inr (7, [.int me, .ref rk, .ref nt, .ref dk, .ref ld, .ref tg, .int up, .int e2, .int ns])) = h1 at hF hf hn hs ⊢
  refine ar_aload_n 6 d_29_5 rfl rfl ?_
  refine ar_iload_n 7 d_29_6 rfl rfl ?_
  refine ar_putf 10 [.int me, .ref rk, .ref nt, .ref dk, .ref ld, .ref tg, .int up, .int e2, .int s2] d_29_7 rfl (ci := 7) (k := 8) rfl rfl (hF.at 0 rfl) (Nat.le_of_ble_eq_true rfl) rfl rfl rfl ?_
  replace hF : ax_hs (ax_put h1 nd (.inr (7, [.int me, .ref rk, .ref nt, .ref dk, .ref ld, .ref tg, .int up, .int e2, .int s2]))) [(nd, .inr (7, [.int me, .ref rk, .ref nt, .ref dk, .ref ld, .ref tg, .int up, .int e2, .int s2])), (ld, .inr (9, [.int me, .ref rk, .ref nt, .ref tb, .ref wk, .ref ma, .ref sp, .int ep, .int st, .int hd, .int cl, .long ak, .int ni, .int tu, .int md])), (tb, .inr (6, [.int g, .ref a1, .ref a2, .ref a3, .ref a4, .ref a5, .ref a6, .ref a7, .long kn, .int fl, .int an])), (wk, .inr (10, [.ref tb, .ref wa, .ref wb, .int ws, .int wo, .int w5, .int w6, .int w7, .int w8, .int w9, .int w10, .int w11, .int w12, .int w13, .int w14])), (a1, .inl (0, 48, .inl f1)), (a2, .inl (0, 48, .inl f2)), (a5, .inl (0, 512, .inl f5)), (a6, .inl (0, 961, .inl f6)), (a7, .inl (0, 961, .inl f7)), (ma, .inl (0, 16, .inl fm)), (rk, .inr (3, [.int (nI nn), .int C, .int (nI gg), .ref o])), (o, .inl (0, gg * nn, .inl f))] := hF.put 0 _ rfl rfl
  replace hf := hf.put (a := nd) (c := .inr (7, [.int me, .ref rk, .ref nt, .ref dk, .ref ld, .ref tg, .int up, .int e2, .int s2])) (by simp)
  replace hn : (ax_put h1 nd (.inr (7, [.int me, .ref rk, .ref nt, .ref dk, .ref ld, .ref tg, .int up, .int e2, .int s2]))).1 = n := hn
  replace hs : (ax_put h1 nd (.inr (7, [.int me, .ref rk, .ref nt, .ref dk, .ref ld, .ref tg, .int up, .int e2, .int s2]))).2.1 = sl := hs
  generalize ax_put h1 nd (.inr (7, [.int me, .ref rk, .ref nt, .ref dk, .ref ld, .ref tg, .int up, .int e2, .int s2])) = h2 at hF hf hn hs ⊢
  refine ar_aload_n 11 d_29_10 rfl rfl ?_
  refine ar_call (r := []) (na := 0) (kd := 0) (cm := 30) (fr2 := fr - 1) (lo2 := lo - 20) 14 d_29_11 (ar_hoV (as := []) rfl rfl rfl (hF.at 0 rfl)) rfl (by omega) (show lo - 20 + (19 + 1) = lo by omega) (Nat.le_of_ble_eq_true rfl) (Nat.le_of_ble_eq_true rfl) (c_30T (by omega) (by omega) hgg hg1 hnn hld (hF.sub (F' := [(nd, .inr (7, [.int me, .ref rk, .ref nt, .ref dk, .ref ld, .ref tg, .int up, .int e2, .int s2])), (rk, .inr (3, [.int (nI nn), .int C, .int (nI gg), .ref o])), (o, .inl (0, gg * nn, .inl f))]) [0, 10, 11] rfl rfl)) ?_
  intro v hh hq
  obtain ⟨rfl, ehh⟩ := hq
  rw [ehh]
  clear ehh
  refine ar_if_eq 35 17 d_29_14 (by decide) rfl (fun c => absurd c (by decide)) (fun _ => ?_)
  refine ar_aload_n 18 d_29_17 rfl rfl ?_
  refine ar_getf 21 d_29_18 rfl (ci := 7) (k := 4) rfl (hF.at 0 rfl) rfl ?_
  refine ar_aload_n 22 d_29_21 rfl rfl ?_
  refine ar_getf 25 d_29_22 rfl (ci := 7) (k := 7) rfl (hF.at 0 rfl) rfl ?_
  refine ar_aload_n 26 d_29_25 rfl rfl ?_
  refine ar_getf 29 d_29_26 rfl (ci := 7) (k := 8) rfl (hF.at 0 rfl) rfl ?_
  have hN := hN.fr hf (by intro x hx hB; simp at hB; rcases hB with rfl | rfl | rfl | rfl | rfl | rfl | rfl | rfl | rfl | rfl <;> exact absurd hx (by assumption))
  refine ar_call (r := []) (na := 0) (kd := 0) (cm := 32) (fr2 := fr - 1) (lo2 := lo - 23) 32 d_29_29 (ar_hoV (as := [.int e2, .int s2]) rfl rfl rfl (hF.at 1 rfl)) rfl (by omega) (show lo - 23 + (19 + 4) = lo by omega) (Nat.le_of_ble_eq_true rfl) (Nat.le_of_ble_eq_true rfl) (c_32LX (by omega) (by omega) hgg hnn hA_ld hA_tb hA_wk hA_a1 hA_a2 hA_a5 hA_a6 hA_a7 hA_ma hA_rk hA_o hl hN (hF.sub (F' := [(ld, .inr (9, [.int me, .ref rk, .ref nt, .ref tb, .ref wk, .ref ma, .ref sp, .int ep, .int st, .int hd, .int cl, .long ak, .int ni, .int tu, .int md])), (tb, .inr (6, [.int g, .ref a1, .ref a2, .ref a3, .ref a4, .ref a5, .ref a6, .ref a7, .long kn, .int fl, .int an])), (wk, .inr (10, [.ref tb, .ref wa, .ref wb, .int ws, .int wo, .int w5, .int w6, .int w7, .int w8, .int w9, .int w10, .int w11, .int w12, .int w13, .int w14])), (a1, .inl (0, 48, .inl f1)), (a2, .inl (0, 48, .inl f2)), (a5, .inl (0, 512, .inl f5)), (a6, .inl (0, 961, .inl f6)), (a7, .inl (0, 961, .inl f7)), (ma, .inl (0, 16, .inl fm)), (rk, .inr (3, [.int (nI nn), .int C, .int (nI gg), .ref o])), (o, .inl (0, gg * nn, .inl f))]) [1, 2, 3, 4, 5, 6, 7, 8, 9, 10, 11] rfl rfl) hn hs (by omega)) ?_
  intro v h9 hq
  obtain ⟨fm', ids', ms', rfl, hmk, qF, hN2, hms, qn, qs, qf⟩ := hq
  have hR : ax_hs h9 [(nd, .inr (7, [.int me, .ref rk, .ref nt, .ref dk, .ref ld, .ref tg, .int up, .int e2, .int s2]))] := (hF.sub (F' := [(nd, .inr (7, [.int me, .ref rk, .ref nt, .ref dk, .ref ld, .ref tg, .int up, .int e2, .int s2]))]) [0] rfl rfl).fr qf (by intro x hx; simp at hx; subst hx; intro z; rcases z with z | z; exact hA_nd z; exact ax_hs.apart hF 0 [1, 2, 3, 4, 5, 6, 7, 8, 9] (by decide) rfl rfl z)
  have hF : ax_hs h9 [(nd, .inr (7, [.int me, .ref rk, .ref nt, .ref dk, .ref ld, .ref tg, .int up, .int e2, .int s2])), (ld, .inr (9, [.int me, .ref rk, .ref nt, .ref tb, .ref wk, .ref ma, .ref sp, .int e2, .int s2, .int 0, .int 0, .long 0, .int 0, .int 0, .int 0])), (tb, .inr (6, [.int g, .ref a1, .ref a2, .ref a3, .ref a4, .ref a5, .ref a6, .ref a7, .long 0, .int 0, .int 0])), (wk, .inr (10, [.ref tb, .ref wa, .ref wb, .int 0, .int (-1), .int w5, .int w6, .int w7, .int w8, .int w9, .int w10, .int w11, .int w12, .int w13, .int w14])), (a1, .inl (0, 48, .inl (ax_fill f1 0 48 (-1)))), (a2, .inl (0, 48, .inl (ax_fill f2 0 48 0))), (a5, .inl (0, 512, .inl (ax_fill f5 0 512 (-1)))), (a6, .inl (0, 961, .inl (ax_fill f6 0 961 (-1)))), (a7, .inl (0, 961, .inl (ax_fill f7 0 961 0))), (ma, .inl (0, 16, .inl fm')), (rk, .inr (3, [.int (nI nn), .int C, .int (nI gg), .ref o])), (o, .inl (0, gg * nn, .inl f))] := hR.app qF (by intro i j p q hp hq; exact ax_hs.apart2 hF [0] [1, 2, 3, 4, 5, 6, 7, 8, 9, 10, 11] (by decide) rfl rfl hp hq)
  refine ar_goto 42 d_29_32 (by decide) ?_
  have hF3 := hF.sub (F' := [(nd, .inr (7, [.int me, .ref rk, .ref nt, .ref dk, .ref ld, .ref tg, .int up, .int e2, .int s2])), (ld, .inr (9, [.int me, .ref rk, .ref nt, .ref tb, .ref wk, .ref ma, .ref sp, .int e2, .int s2, .int 0, .int 0, .long 0, .int 0, .int 0, .int 0])), (tb, .inr (6, [.int g, .ref a1, .ref a2, .ref a3, .ref a4, .ref a5, .ref a6, .ref a7, .long 0, .int 0, .int 0])), (wk, .inr (10, [.ref tb, .ref wa, .ref wb, .int 0, .int (-1), .int w5, .int w6, .int w7, .int w8, .int w9, .int w10, .int w11, .int w12, .int w13, .int w14])), (a1, .inl (0, 48, .inl (ax_fill f1 0 48 (-1)))), (a2, .inl (0, 48, .inl (ax_fill f2 0 48 0))), (a5, .inl (0, 512, .inl (ax_fill f5 0 512 (-1)))), (a6, .inl (0, 961, .inl (ax_fill f6 0 961 (-1)))), (a7, .inl (0, 961, .inl (ax_fill f7 0 961 0))), (ma, .inl (0, 16, .inl fm')), (rk, .inr (3, [.int (nI nn), .int C, .int (nI gg), .ref o])), (o, .inl (0, gg * nn, .inl f))]) [0, 1, 2, 3, 4, 5, 6, 7, 8, 9, 10, 11] rfl rfl
  exact ar_ret d_29_42 rfl (⟨fm', ids', ms', rfl, hmk, hF3, hN2, hms, by omega, by omega, ((hf.mono (fun x hx => Or.inr hx)).tr (qf.mono (fun x hx => hx.elim Or.inl (fun z => Or.inr (List.mem_cons_of_mem _ z)))))⟩)
theorem c_18LX {L : Nat} {xs : Nat → Int32} {fr lo w q nn gg o n sl nd dk tg da db dc dd : Nat} {ld rk nt tb wk ma sp wa wb a1 a2 a3 a4 a5 a6 a7 : Nat} {me ep st hd cl ni tu md g fl an ws wo w5 w6 w7 w8 w9 w10 w11 w12 w13 w14 : Int32} {ak kn : Int64} {f1 f2 f5 f6 f7 : Nat → Int32} {dn C e2 s2 up ne ns : Int32} {ff tf f fm u b : Nat → Int32} {h : ax_H} {ids : List Nat} {ms : List Mg} (hfr : 5 ≤ fr) (hlo : 108 ≤ lo) (hgg : gg ≤ 16) (hg1 : 0 < gg) (hnn : nn ≤ 6) (hA_nd : ¬ NTA nt w nd) (hA_dk : ¬ NTA nt w dk) (hA_da : ¬ NTA nt w da) (hA_tg : ¬ NTA nt w tg) (hA_ld : ¬ NTA nt w ld) (hA_tb : ¬ NTA nt w tb) (hA_wk : ¬ NTA nt w wk) (hA_a1 : ¬ NTA nt w a1) (hA_a2 : ¬ NTA nt w a2) (hA_a5 : ¬ NTA nt w a5) (hA_a6 : ¬ NTA nt w a6) (hA_a7 : ¬ NTA nt w a7) (hA_ma : ¬ NTA nt w ma) (hA_rk : ¬ NTA nt w rk) (hA_o : ¬ NTA nt w o) (hw : ∀ i, i < 280 → ¬ whB ff i) (hld : nof f 0 s2 nn 0 0 = me) (hl : ids.length + nn < 128) (hN : NTL h nt w ids ms q u b) (hF : ax_hs h [(nd, .inr (7, [.int me, .ref rk, .ref nt, .ref dk, .ref ld, .ref tg, .int up, .int ne, .int ns])), (dk, .inr (8, [.ref da, .ref db, .ref dc, .ref dd, .int dn])), (da, .inl (0, 35840, .inl ff)), (tg, .inl (0, 280, .inl tf)), (ld, .inr (9, [.int me, .ref rk, .ref nt, .ref tb, .ref wk, .ref ma, .ref sp, .int ep, .int st, .int hd, .int cl, .long ak, .int ni, .int tu, .int md])), (tb, .inr (6, [.int g, .ref a1, .ref a2, .ref a3, .ref a4, .ref a5, .ref a6, .ref a7, .long kn, .int fl, .int an])), (wk, .inr (10, [.ref tb, .ref wa, .ref wb, .int ws, .int wo, .int w5, .int w6, .int w7, .int w8, .int w9, .int w10, .int w11, .int w12, .int w13, .int w14])), (a1, .inl (0, 48, .inl f1)), (a2, .inl (0, 48, .inl f2)), (a5, .inl (0, 512, .inl f5)), (a6, .inl (0, 961, .inl f6)), (a7, .inl (0, 961, .inl f7)), (ma, .inl (0, 16, .inl fm)), (rk, .inr (3, [.int (nI nn), .int C, .int (nI gg), .ref o])), (o, .inl (0, gg * nn, .inl f))]) (hn : h.1 = n) (hs : h.2.1 = sl) (hn0 : 0 < n) : ax_M L xs 18 fr lo [.ref nd, .int e2, .int s2] h (fun r h' => ∃ fm' ids' ms', r = none ∧ MkE nn gg C f s2 fm' ∧ ax_hs h' [(nd, .inr (7, [.int me, .ref rk, .ref nt, .ref dk, .ref ld, .ref tg, .int 1, .int e2, .int s2])), (dk, .inr (8, [.ref da, .ref db, .ref dc, .ref dd, .int dn])), (da, .inl (0, 35840, .inl ff)), (tg, .inl (0, 280, .inl (ax_fill tf 0 280 (-1)))), (ld, .inr (9, [.int me, .ref rk, .ref nt, .ref tb, .ref wk, .ref ma, .ref sp, .int e2, .int s2, .int 0, .int 0, .long 0, .int 0, .int 0, .int 0])), (tb, .inr (6, [.int g, .ref a1, .ref a2, .ref a3, .ref a4, .ref a5, .ref a6, .ref a7, .long 0, .int 0, .int 0])), (wk, .inr (10, [.ref tb, .ref wa, .ref wb, .int 0, .int (-1), .int w5, .int w6, .int w7, .int w8, .int w9, .int w10, .int w11, .int w12, .int w13, .int w14])), (a1, .inl (0, 48, .inl (ax_fill f1 0 48 (-1)))), (a2, .inl (0, 48, .inl (ax_fill f2 0 48 0))), (a5, .inl (0, 512, .inl (ax_fill f5 0 512 (-1)))), (a6, .inl (0, 961, .inl (ax_fill f6 0 961 (-1)))), (a7, .inl (0, 961, .inl (ax_fill f7 0 961 0))), (ma, .inl (0, 16, .inl fm')), (rk, .inr (3, [.int (nI nn), .int C, .int (nI gg), .ref o])), (o, .inl (0, gg * nn, .inl f))] ∧ NTL h' nt w ids' ms' q u b ∧ ms'.map (·.1) = ms.map (·.1) ++ (List.range' 0 nn).map (fun n => mg 4 me (nI n) e2 s2) ∧ h'.1 = n ∧ h'.2.1 = sl ∧ ax_fr (fun x => NTA nt w x ∨ x ∈ [tg, nd, ld, tb, wk, a1, a2, a5, a6, a7, ma]) h h') := by
  show ax_A (ax_step L xs) ((18, 0, fr, lo), [(0, .ref nd), (1, .int e2), (2, .int s2)], [], h) _
  have hbase : h.1 = n := hn
  have hbasl : h.2.1 = sl := hs
  have hf : ax_fr (fun x => x ∈ [tg, nd, ld, tb, wk, a1, a2, a5, a6, a7, ma]) h h := ax_fr.rf
  refine ar_aload_n 1 d_18_0 rfl rfl ?_
  refine ar_iconst 2 (v := 1) d_18_1 rfl (by decide) ?_
  refine ar_putf 5 [.int me, .ref rk, .ref nt, .ref dk, .ref ld, .ref tg, .int 1, .int ne, .int ns] d_18_2 rfl (ci := 7) (k := 6) rfl rfl (hF.at 0 rfl) (Nat.le_of_ble_eq_true rfl) rfl rfl rfl ?_
  replace hF : ax_hs (ax_put h nd (.inr (7, [.int me, .ref rk, .ref nt, .ref dk, .ref ld, .ref tg, .int 1, .int ne, .int ns]))) [(nd, .inr (7, [.int me, .ref rk, .ref nt, .ref dk, .ref ld, .ref tg, .int 1, .int ne, .int ns])), (dk, .inr (8, [.ref da, .ref db, .ref dc, .ref dd, .int dn])), (da, .inl (0, 35840, .inl ff)), (tg, .inl (0, 280, .inl tf)), (ld, .inr (9, [.int me, .ref rk, .ref nt, .ref tb, .ref wk, .ref ma, .ref sp, .int ep, .int st, .int hd, .int cl, .long ak, .int ni, .int tu, .int md])), (tb, .inr (6, [.int g, .ref a1, .ref a2, .ref a3, .ref a4, .ref a5, .ref a6, .ref a7, .long kn, .int fl, .int an])), (wk, .inr (10, [.ref tb, .ref wa, .ref wb, .int ws, .int wo, .int w5, .int w6, .int w7, .int w8, .int w9, .int w10, .int w11, .int w12, .int w13, .int w14])), (a1, .inl (0, 48, .inl f1)), (a2, .inl (0, 48, .inl f2)), (a5, .inl (0, 512, .inl f5)), (a6, .inl (0, 961, .inl f6)), (a7, .inl (0, 961, .inl f7)), (ma, .inl (0, 16, .inl fm)), (rk, .inr (3, [.int (nI nn), .int C, .int (nI gg), .ref o])), (o, .inl (0, gg * nn, .inl f))] := hF.put 0 _ rfl rfl
  replace hf := hf.put (a := nd) (c := .inr (7, [.int me, .ref rk, .ref nt, .ref dk, .ref ld, .ref tg, .int 1, .int ne, .int ns])) (by simp)
  replace hn : (ax_put h nd (.inr (7, [.int me, .ref rk, .ref nt, .ref dk, .ref ld, .ref tg, .int 1, .int ne, .int ns]))).1 = n := hn
  replace hs : (ax_put h nd (.inr (7, [.int me, .ref rk, .ref nt, .ref dk, .ref ld, .ref tg, .int 1, .int ne, .int ns]))).2.1 = sl := hs
  generalize ax_put h nd (.inr (7, [.int me, .ref rk, .ref nt, .ref dk, .ref ld, .ref tg, .int 1, .int ne, .int ns])) = h1 at hF hf hn hs ⊢
  refine ar_aload_n 6 d_18_5 rfl rfl ?_
  refine ar_call (r := []) (na := 0) (kd := 0) (cm := 19) (fr2 := fr - 1) (lo2 := lo - 22) 9 d_18_6 (ar_hoV (as := []) rfl rfl rfl (hF.at 0 rfl)) rfl (by omega) (show lo - 22 + (19 + 3) = lo by omega) (Nat.le_of_ble_eq_true rfl) (Nat.le_of_ble_eq_true rfl) (c_19 (by omega) (by omega) hw (hF.sub (F' := [(nd, .inr (7, [.int me, .ref rk, .ref nt, .ref dk, .ref ld, .ref tg, .int 1, .int ne, .int ns])), (dk, .inr (8, [.ref da, .ref db, .ref dc, .ref dd, .int dn])), (da, .inl (0, 35840, .inl ff)), (tg, .inl (0, 280, .inl tf))]) [0, 1, 2, 3] rfl rfl) hn hs (by omega)) ?_
  intro v h2 hq
  obtain ⟨rfl, qF, qn, qs, qf⟩ := hq
  have qF : ax_hs h2 [(nd, .inr (7, [.int me, .ref rk, .ref nt, .ref dk, .ref ld, .ref tg, .int 1, .int ne, .int ns])), (dk, .inr (8, [.ref da, .ref db, .ref dc, .ref dd, .int dn])), (da, .inl (0, 35840, .inl ff)), (tg, .inl (0, 280, .inl (ax_fill tf 0 280 (-1))))] := qF
  replace hF : ax_hs h2 [(ld, .inr (9, [.int me, .ref rk, .ref nt, .ref tb, .ref wk, .ref ma, .ref sp, .int ep, .int st, .int hd, .int cl, .long ak, .int ni, .int tu, .int md])), (tb, .inr (6, [.int g, .ref a1, .ref a2, .ref a3, .ref a4, .ref a5, .ref a6, .ref a7, .long kn, .int fl, .int an])), (wk, .inr (10, [.ref tb, .ref wa, .ref wb, .int ws, .int wo, .int w5, .int w6, .int w7, .int w8, .int w9, .int w10, .int w11, .int w12, .int w13, .int w14])), (a1, .inl (0, 48, .inl f1)), (a2, .inl (0, 48, .inl f2)), (a5, .inl (0, 512, .inl f5)), (a6, .inl (0, 961, .inl f6)), (a7, .inl (0, 961, .inl f7)), (ma, .inl (0, 16, .inl fm)), (rk, .inr (3, [.int (nI nn), .int C, .int (nI gg), .ref o])), (o, .inl (0, gg * nn, .inl f)), (nd, .inr (7, [.int me, .ref rk, .ref nt, .ref dk, .ref ld, .ref tg, .int 1, .int ne, .int ns])), (dk, .inr (8, [.ref da, .ref db, .ref dc, .ref dd, .int dn])), (da, .inl (0, 35840, .inl ff)), (tg, .inl (0, 280, .inl (ax_fill tf 0 280 (-1))))] := ax_hs.call (rest := [(ld, .inr (9, [.int me, .ref rk, .ref nt, .ref tb, .ref wk, .ref ma, .ref sp, .int ep, .int st, .int hd, .int cl, .long ak, .int ni, .int tu, .int md])), (tb, .inr (6, [.int g, .ref a1, .ref a2, .ref a3, .ref a4, .ref a5, .ref a6, .ref a7, .long kn, .int fl, .int an])), (wk, .inr (10, [.ref tb, .ref wa, .ref wb, .int ws, .int wo, .int w5, .int w6, .int w7, .int w8, .int w9, .int w10, .int w11, .int w12, .int w13, .int w14])), (a1, .inl (0, 48, .inl f1)), (a2, .inl (0, 48, .inl f2)), (a5, .inl (0, 512, .inl f5)), (a6, .inl (0, 961, .inl f6)), (a7, .inl (0, 961, .inl f7)), (ma, .inl (0, 16, .inl fm)), (rk, .inr (3, [.int (nI nn), .int C, .int (nI gg), .ref o])), (o, .inl (0, gg * nn, .inl f))]) [0, 1, 2, 3] [4, 5, 6, 7, 8, 9, 10, 11, 12, 13, 14] hF qf qF rfl rfl rfl [3] rfl rfl [0, 1, 2, 3] (news := []) rfl rfl (fun _ z => absurd z List.not_mem_nil) rfl
  replace hf := hf.trC qf (by intro x hx hB; simp at hB; first | (rcases hB with rfl <;> first | omega | simp) | omega | simp [hB])
  replace hn : h2.1 = n := by omega
  replace hs : h2.2.1 = sl := by omega
  clear qF qn qs qf
  refine ar_aload_n 10 d_18_9 rfl rfl ?_
  refine ar_iload_n 11 d_18_10 rfl rfl ?_
  refine ar_iload_n 12 d_18_11 rfl rfl ?_
  have hN := hN.fr hf (by intro x hx hB; simp at hB; rcases hB with rfl | rfl | rfl | rfl | rfl | rfl | rfl | rfl | rfl | rfl | rfl <;> exact absurd hx (by assumption))
  refine ar_call (r := []) (na := 0) (kd := 0) (cm := 29) (fr2 := fr - 1) (lo2 := lo - 22) 15 d_18_12 (ar_hoV (as := [.int e2, .int s2]) rfl rfl rfl (hF.at 11 rfl)) rfl (by omega) (show lo - 22 + (19 + 3) = lo by omega) (Nat.le_of_ble_eq_true rfl) (Nat.le_of_ble_eq_true rfl) (c_29LX (by omega) (by omega) hgg hg1 hnn hA_nd hA_ld hA_tb hA_wk hA_a1 hA_a2 hA_a5 hA_a6 hA_a7 hA_ma hA_rk hA_o hld hl hN (hF.sub (F' := [(nd, .inr (7, [.int me, .ref rk, .ref nt, .ref dk, .ref ld, .ref tg, .int 1, .int ne, .int ns])), (ld, .inr (9, [.int me, .ref rk, .ref nt, .ref tb, .ref wk, .ref ma, .ref sp, .int ep, .int st, .int hd, .int cl, .long ak, .int ni, .int tu, .int md])), (tb, .inr (6, [.int g, .ref a1, .ref a2, .ref a3, .ref a4, .ref a5, .ref a6, .ref a7, .long kn, .int fl, .int an])), (wk, .inr (10, [.ref tb, .ref wa, .ref wb, .int ws, .int wo, .int w5, .int w6, .int w7, .int w8, .int w9, .int w10, .int w11, .int w12, .int w13, .int w14])), (a1, .inl (0, 48, .inl f1)), (a2, .inl (0, 48, .inl f2)), (a5, .inl (0, 512, .inl f5)), (a6, .inl (0, 961, .inl f6)), (a7, .inl (0, 961, .inl f7)), (ma, .inl (0, 16, .inl fm)), (rk, .inr (3, [.int (nI nn), .int C, .int (nI gg), .ref o])), (o, .inl (0, gg * nn, .inl f))]) [11, 0, 1, 2, 3, 4, 5, 6, 7, 8, 9, 10] rfl rfl) hn hs (by omega)) ?_
  intro v h9 hq
  obtain ⟨fm', ids', ms', rfl, hmk, qF, hN2, hms, qn, qs, qf⟩ := hq
  have hR : ax_hs h9 [(dk, .inr (8, [.ref da, .ref db, .ref dc, .ref dd, .int dn])), (da, .inl (0, 35840, .inl ff)), (tg, .inl (0, 280, .inl (ax_fill tf 0 280 (-1))))] := (hF.sub (F' := [(dk, .inr (8, [.ref da, .ref db, .ref dc, .ref dd, .int dn])), (da, .inl (0, 35840, .inl ff)), (tg, .inl (0, 280, .inl (ax_fill tf 0 280 (-1))))]) [12, 13, 14] rfl rfl).fr qf (by intro x hx; simp at hx; rcases hx with rfl | rfl | rfl; exact (fun z => z.elim (fun z => hA_dk z) (fun z => ax_hs.apart hF 12 [11, 0, 1, 2, 3, 4, 5, 6, 7, 8] (by decide) rfl rfl z)); exact (fun z => z.elim (fun z => hA_da z) (fun z => ax_hs.apart hF 13 [11, 0, 1, 2, 3, 4, 5, 6, 7, 8] (by decide) rfl rfl z)); exact (fun z => z.elim (fun z => hA_tg z) (fun z => ax_hs.apart hF 14 [11, 0, 1, 2, 3, 4, 5, 6, 7, 8] (by decide) rfl rfl z)))
  have hF : ax_hs h9 [(dk, .inr (8, [.ref da, .ref db, .ref dc, .ref dd, .int dn])), (da, .inl (0, 35840, .inl ff)), (tg, .inl (0, 280, .inl (ax_fill tf 0 280 (-1)))), (nd, .inr (7, [.int me, .ref rk, .ref nt, .ref dk, .ref ld, .ref tg, .int 1, .int e2, .int s2])), (ld, .inr (9, [.int me, .ref rk, .ref nt, .ref tb, .ref wk, .ref ma, .ref sp, .int e2, .int s2, .int 0, .int 0, .long 0, .int 0, .int 0, .int 0])), (tb, .inr (6, [.int g, .ref a1, .ref a2, .ref a3, .ref a4, .ref a5, .ref a6, .ref a7, .long 0, .int 0, .int 0])), (wk, .inr (10, [.ref tb, .ref wa, .ref wb, .int 0, .int (-1), .int w5, .int w6, .int w7, .int w8, .int w9, .int w10, .int w11, .int w12, .int w13, .int w14])), (a1, .inl (0, 48, .inl (ax_fill f1 0 48 (-1)))), (a2, .inl (0, 48, .inl (ax_fill f2 0 48 0))), (a5, .inl (0, 512, .inl (ax_fill f5 0 512 (-1)))), (a6, .inl (0, 961, .inl (ax_fill f6 0 961 (-1)))), (a7, .inl (0, 961, .inl (ax_fill f7 0 961 0))), (ma, .inl (0, 16, .inl fm')), (rk, .inr (3, [.int (nI nn), .int C, .int (nI gg), .ref o])), (o, .inl (0, gg * nn, .inl f))] := hR.app qF (by intro i j p q hp hq; exact ax_hs.apart2 hF [12, 13, 14] [11, 0, 1, 2, 3, 4, 5, 6, 7, 8, 9, 10] (by decide) rfl rfl hp hq)
  have hF3 := hF.sub (F' := [(nd, .inr (7, [.int me, .ref rk, .ref nt, .ref dk, .ref ld, .ref tg, .int 1, .int e2, .int s2])), (dk, .inr (8, [.ref da, .ref db, .ref dc, .ref dd, .int dn])), (da, .inl (0, 35840, .inl ff)), (tg, .inl (0, 280, .inl (ax_fill tf 0 280 (-1)))), (ld, .inr (9, [.int me, .ref rk, .ref nt, .ref tb, .ref wk, .ref ma, .ref sp, .int e2, .int s2, .int 0, .int 0, .long 0, .int 0, .int 0, .int 0])), (tb, .inr (6, [.int g, .ref a1, .ref a2, .ref a3, .ref a4, .ref a5, .ref a6, .ref a7, .long 0, .int 0, .int 0])), (wk, .inr (10, [.ref tb, .ref wa, .ref wb, .int 0, .int (-1), .int w5, .int w6, .int w7, .int w8, .int w9, .int w10, .int w11, .int w12, .int w13, .int w14])), (a1, .inl (0, 48, .inl (ax_fill f1 0 48 (-1)))), (a2, .inl (0, 48, .inl (ax_fill f2 0 48 0))), (a5, .inl (0, 512, .inl (ax_fill f5 0 512 (-1)))), (a6, .inl (0, 961, .inl (ax_fill f6 0 961 (-1)))), (a7, .inl (0, 961, .inl (ax_fill f7 0 961 0))), (ma, .inl (0, 16, .inl fm')), (rk, .inr (3, [.int (nI nn), .int C, .int (nI gg), .ref o])), (o, .inl (0, gg * nn, .inl f))]) [3, 0, 1, 2, 4, 5, 6, 7, 8, 9, 10, 11, 12, 13, 14] rfl rfl
  exact ar_ret d_18_15 rfl (⟨fm', ids', ms', rfl, hmk, hF3, hN2, hms, by omega, by omega, ((hf.mono (fun x hx => Or.inr hx)).tr (qf.mono (fun x hx => hx.elim Or.inl (fun z => Or.inr (List.mem_cons_of_mem _ z)))))⟩)
set_option maxRecDepth 100000 in
theorem lp_0X {L : Nat} {xs : Nat → Int32} {fr lo s0 rk o as na nt w tb od sn b0 b1 b2 b3 b4 b5 nn gg p sl0 : Nat} {C x1 x2 x3 : Int32} {f u b : Nat → Int32} {h0 : ax_H} {post : ax_Po} (hfr : 6 ≤ fr) (hlo : 130 ≤ lo) (hgg : gg ≤ 16) (hg1 : 0 < gg) (hnn : nn ≤ 6) (hp : p < nn) (hpl : nof f 0 (allN nn) nn 0 0 = nI p) (hntw : nt < w) (hwb : w + 261 ≤ b0) (hb0 : h0.1 = b0) (hA_rk : ¬ NTA nt w rk) (hA_o : ¬ NTA nt w o) (hA_s0 : ¬ NTA nt w s0) (hA_as : ¬ NTA nt w as) (hA_na : ¬ NTA nt w na) (hna : na < b0)
    (kk : ∀ (h' : ax_H) (ids : List Nat) (ms : List Mg), ax_hs h' [(s0, .inr (0, [.ref rk, .ref nt, .ref as, .ref na, .ref tb, .ref od, .ref sn, .int 0, .int 0, .int 0, .int 0])), (rk, .inr (3, [.int (nI nn), .int C, .int (nI gg), .ref o])), (o, .inl (0, gg * nn, .inl f)), (as, .inr (4, [.ref rk, .ref nt, .ref b1, .int 0, .ref b2, .ref b3, .ref b4, .ref b5, .int 0, .int 0, .int 0, .int 0, .int (-1), .int 1, .int (allN nn), .int (allN nn)])), (na, .inl (5, nn, .inr (.inr (.inr (.inr (fun j => if j < nn then some (b0 + 22 * j) else none))))))] → NTL h' nt w ids ms 0 u b → ms.map (·.1) = (if p < nn then LST p nn 1 (allN nn) else []) → (∀ j, j < nn → ∃ fm, (j = p → MkE nn gg C f (allN nn) fm) ∧ ax_hs h' (QN (b0 + 22 * j) rk nt (nI gg) (nI j) 1 1 (allN nn) (if j = p then 1 else 0) (if j = p then allN nn else 0) 0 0 0 0 0 fm)) → ax_fr (fun x => NTA nt w x ∨ x = na) h0 h' → h'.1 = b0 + 22 * nn → h'.2.1 = sl0 + 47629 * nn → post none h') :
    ∀ (k i : Nat), i + k = nn → ∀ (h : ax_H) (m sl : Nat) (ids : List Nat) (ms : List Mg), m = b0 + 22 * i → sl = sl0 + 47629 * i → h.1 = m → h.2.1 = sl → ax_hs h [(s0, .inr (0, [.ref rk, .ref nt, .ref as, .ref na, .ref tb, .ref od, .ref sn, .int 0, .int 0, .int 0, .int 0])), (rk, .inr (3, [.int (nI nn), .int C, .int (nI gg), .ref o])), (o, .inl (0, gg * nn, .inl f)), (as, .inr (4, [.ref rk, .ref nt, .ref b1, .int 0, .ref b2, .ref b3, .ref b4, .ref b5, .int 0, .int 0, .int 0, .int 0, .int (-1), .int 1, .int (allN nn), .int (allN nn)])), (na, .inl (5, nn, .inr (.inr (.inr (.inr (fun j => if j < i then some (b0 + 22 * j) else none))))))] → NTL h nt w ids ms 0 u b → ms.map (·.1) = (if p < i then LST p nn 1 (allN nn) else []) → (∀ j, j < i → ∃ fm, (j = p → MkE nn gg C f (allN nn) fm) ∧ ax_hs h (QN (b0 + 22 * j) rk nt (nI gg) (nI j) 1 1 (allN nn) (if j = p then 1 else 0) (if j = p then allN nn else 0) 0 0 0 0 0 fm)) → ax_fr (fun x => NTA nt w x ∨ x = na) h0 h → ax_A (ax_step L xs) ((0, 117, fr, lo), [(0, .ref s0), (1, .int x1), (2, .int x2), (3, .int x3), (4, .int (nI i))], [], h) post := by
  intro k
  induction k with
  | zero =>
    intro i hi h m sl ids ms hm hsl hn hs hF hN hms hq hf0
    have e : i = nn := by omega
    subst e
    refine ar_iload 119 d_0_117 rfl rfl ?_
    refine ar_aload_n 120 d_0_119 rfl rfl ?_
    refine ar_getf 123 d_0_120 rfl (ci := 0) (k := 0) rfl (hF.at 0 rfl) rfl ?_
    refine ar_getf 126 d_0_123 rfl (ci := 3) (k := 0) rfl (hF.at 1 rfl) rfl ?_
    refine ar_icmp_ge 183 129 d_0_126 (by decide) rfl (fun _ => ?_) (fun c => absurd (nI_le (Nat.le_refl _) (by omega)) c)
    exact ar_ret d_0_183 rfl (kk h ids ms hF hN hms hq hf0 (by omega) (by omega))
  | succ k ih =>
    intro i hi h m sl ids ms hm hsl hn hs hF hN hms hq hf0
    have hlt : i < nn := by omega
    have hm0 : 0 < m := by omega
    have hmb : b0 ≤ m := by omega
    have hnm : na < m := by omega
    have hA : ∀ x, m ≤ x → ¬ NTA nt w x := fun x hx z => by
      rcases z with z | z <;> omega
    have hbase : h.1 = m := hn
    have hbasl : h.2.1 = sl := hs
    have hf : ax_fr (fun x => x ∈ [na]) h h := ax_fr.rf
    refine ar_iload 119 d_0_117 rfl rfl ?_
    refine ar_aload_n 120 d_0_119 rfl rfl ?_
    refine ar_getf 123 d_0_120 rfl (ci := 0) (k := 0) rfl (hF.at 0 rfl) rfl ?_
    refine ar_getf 126 d_0_123 rfl (ci := 3) (k := 0) rfl (hF.at 1 rfl) rfl ?_
    refine ar_icmp_ge 183 129 d_0_126 (by decide) rfl (fun c => absurd c (nI_ge hlt (by omega))) (fun _ => ?_)
    refine ar_aload_n 130 d_0_129 rfl rfl ?_
    refine ar_getf 133 d_0_130 rfl (ci := 0) (k := 3) rfl (hF.at 0 rfl) rfl ?_
    refine ar_iload 135 d_0_133 rfl rfl ?_
    refine ar_new 138 d_0_135 rfl (ci := 7) rfl ?_
    rw [hn]
    refine ar_heap (h' := ax_push h 9 (.inr (7, [.int 0, .null, .null, .null, .null, .null, .int 0, .int 0, .int 0]))) rfl ?_
    replace hF : ax_hs (ax_push h 9 (.inr (7, [.int 0, .null, .null, .null, .null, .null, .int 0, .int 0, .int 0]))) [(s0, .inr (0, [.ref rk, .ref nt, .ref as, .ref na, .ref tb, .ref od, .ref sn, .int 0, .int 0, .int 0, .int 0])), (rk, .inr (3, [.int (nI nn), .int C, .int (nI gg), .ref o])), (o, .inl (0, gg * nn, .inl f)), (as, .inr (4, [.ref rk, .ref nt, .ref b1, .int 0, .ref b2, .ref b3, .ref b4, .ref b5, .int 0, .int 0, .int 0, .int 0, .int (-1), .int 1, .int (allN nn), .int (allN nn)])), (na, .inl (5, nn, .inr (.inr (.inr (.inr (fun j => if j < i then some (b0 + 22 * j) else none)))))), (m, .inr (7, [.int 0, .null, .null, .null, .null, .null, .int 0, .int 0, .int 0]))] := hF.push (by omega) 9 _ (by rw [hn]; rfl)
    replace hf := hf.push (n := 9) (c := .inr (7, [.int 0, .null, .null, .null, .null, .null, .int 0, .int 0, .int 0]))
    replace hn : (ax_push h 9 (.inr (7, [.int 0, .null, .null, .null, .null, .null, .int 0, .int 0, .int 0]))).1 = m + 1 := by show h.1 + 1 = _; rw [hn]
    replace hs : (ax_push h 9 (.inr (7, [.int 0, .null, .null, .null, .null, .null, .int 0, .int 0, .int 0]))).2.1 = sl + 9 := by show h.2.1 + 9 = _; omega
    generalize ax_push h 9 (.inr (7, [.int 0, .null, .null, .null, .null, .null, .int 0, .int 0, .int 0])) = h1 at hF hf hn hs ⊢
    refine ar_dup 139 d_0_138 rfl rfl ?_
    refine ar_iload 141 d_0_139 rfl rfl ?_
    refine ar_aload_n 142 d_0_141 rfl rfl ?_
    refine ar_getf 145 d_0_142 rfl (ci := 0) (k := 0) rfl (hF.at 0 rfl) rfl ?_
    refine ar_aload_n 146 d_0_145 rfl rfl ?_
    refine ar_getf 149 d_0_146 rfl (ci := 0) (k := 1) rfl (hF.at 0 rfl) rfl ?_
    refine ar_call (r := [.ref m, .int (nI i), .ref na]) (na := 0) (kd := 0) (cm := 14) (fr2 := fr - 1) (lo2 := lo - 23) 152 d_0_149 (ar_hoI (as := [.int (nI i), .ref rk, .ref nt]) rfl rfl rfl) rfl (by omega) (show lo - 23 + (19 + 4) = lo by omega) (Nat.le_of_ble_eq_true rfl) (Nat.le_of_ble_eq_true rfl) (c_14 (by omega) (by omega) (hF.sub (F' := [(m, .inr (7, [.int 0, .null, .null, .null, .null, .null, .int 0, .int 0, .int 0])), (rk, .inr (3, [.int (nI nn), .int C, .int (nI gg), .ref o]))]) [5, 1] rfl rfl) hn hs (by omega)) ?_
    intro v h2 hq
    obtain ⟨rfl, qF, qn, qs, qf⟩ := hq
    have qF : ax_hs h2 [(rk, .inr (3, [.int (nI nn), .int C, .int (nI gg), .ref o])), (m, .inr (7, [.int (nI i), .ref rk, .ref nt, .ref (m + 1), .ref (m + 7), .ref (m + 6), .int 0, .int 0, .int 0])), (m + 1, .inr (8, [.ref (m + 2), .ref (m + 3), .ref (m + 4), .ref (m + 5), .int 0])), (m + 2, .inl (0, 35840, .inl (fun _ => 0))), (m + 3, .inl (0, 4096, .inl (fun _ => 0))), (m + 4, .inl (0, 32, .inl (fun _ => 0))), (m + 5, .inl (0, 280, .inl (ax_fill (fun _ => 0) 0 280 (-1)))), (m + 6, .inl (0, 280, .inl (ax_fill (fun _ => 0) 0 280 (-1)))), (m + 7, .inr (9, [.int (nI i), .ref rk, .ref nt, .ref (m + 10), .ref (m + 18), .ref (m + 8), .ref (m + 9), .int 0, .int 0, .int 0, .int 0, .long 0, .int 0, .int 0, .int 0])), (m + 8, .inl (0, 16, .inl (fun _ => 0))), (m + 9, .inl (0, 280, .inl (fun _ => 0))), (m + 10, .inr (6, [.int (nI gg), .ref (m + 11), .ref (m + 12), .ref (m + 13), .ref (m + 14), .ref (m + 15), .ref (m + 16), .ref (m + 17), .long 0, .int 0, .int 0])), (m + 11, .inl (0, 48, .inl (ax_fill (fun _ => 0) 0 48 (-1)))), (m + 12, .inl (0, 48, .inl (ax_fill (fun _ => 0) 0 48 0))), (m + 13, .inl (0, 48, .inl (fun _ => 0))), (m + 14, .inl (0, 2400, .inl (fun _ => 0))), (m + 15, .inl (0, 512, .inl (ax_fill (fun _ => 0) 0 512 (-1)))), (m + 16, .inl (0, 961, .inl (ax_fill (fun _ => 0) 0 961 (-1)))), (m + 17, .inl (0, 961, .inl (ax_fill (fun _ => 0) 0 961 0))), (m + 18, .inr (10, [.ref (m + 10), .ref (m + 19), .ref (m + 21), .int 0, .int (-1), .int 0, .int 0, .int 0, .int 0, .int 0, .int 0, .int 0, .int 0, .int 0, .int 0])), (m + 19, .inr (5, [.int 0, .int 0, .int 0, .int 0, .int 0, .int 0, .int 0, .ref (m + 20)])), (m + 20, .inl (0, 612, .inl (fun _ => 0))), (m + 21, .inl (0, 1152, .inl (fun _ => 0)))] := qF
    replace hF : ax_hs h2 [(s0, .inr (0, [.ref rk, .ref nt, .ref as, .ref na, .ref tb, .ref od, .ref sn, .int 0, .int 0, .int 0, .int 0])), (o, .inl (0, gg * nn, .inl f)), (as, .inr (4, [.ref rk, .ref nt, .ref b1, .int 0, .ref b2, .ref b3, .ref b4, .ref b5, .int 0, .int 0, .int 0, .int 0, .int (-1), .int 1, .int (allN nn), .int (allN nn)])), (na, .inl (5, nn, .inr (.inr (.inr (.inr (fun j => if j < i then some (b0 + 22 * j) else none)))))), (rk, .inr (3, [.int (nI nn), .int C, .int (nI gg), .ref o])), (m, .inr (7, [.int (nI i), .ref rk, .ref nt, .ref (m + 1), .ref (m + 7), .ref (m + 6), .int 0, .int 0, .int 0])), (m + 1, .inr (8, [.ref (m + 2), .ref (m + 3), .ref (m + 4), .ref (m + 5), .int 0])), (m + 2, .inl (0, 35840, .inl (fun _ => 0))), (m + 3, .inl (0, 4096, .inl (fun _ => 0))), (m + 4, .inl (0, 32, .inl (fun _ => 0))), (m + 5, .inl (0, 280, .inl (ax_fill (fun _ => 0) 0 280 (-1)))), (m + 6, .inl (0, 280, .inl (ax_fill (fun _ => 0) 0 280 (-1)))), (m + 7, .inr (9, [.int (nI i), .ref rk, .ref nt, .ref (m + 10), .ref (m + 18), .ref (m + 8), .ref (m + 9), .int 0, .int 0, .int 0, .int 0, .long 0, .int 0, .int 0, .int 0])), (m + 8, .inl (0, 16, .inl (fun _ => 0))), (m + 9, .inl (0, 280, .inl (fun _ => 0))), (m + 10, .inr (6, [.int (nI gg), .ref (m + 11), .ref (m + 12), .ref (m + 13), .ref (m + 14), .ref (m + 15), .ref (m + 16), .ref (m + 17), .long 0, .int 0, .int 0])), (m + 11, .inl (0, 48, .inl (ax_fill (fun _ => 0) 0 48 (-1)))), (m + 12, .inl (0, 48, .inl (ax_fill (fun _ => 0) 0 48 0))), (m + 13, .inl (0, 48, .inl (fun _ => 0))), (m + 14, .inl (0, 2400, .inl (fun _ => 0))), (m + 15, .inl (0, 512, .inl (ax_fill (fun _ => 0) 0 512 (-1)))), (m + 16, .inl (0, 961, .inl (ax_fill (fun _ => 0) 0 961 (-1)))), (m + 17, .inl (0, 961, .inl (ax_fill (fun _ => 0) 0 961 0))), (m + 18, .inr (10, [.ref (m + 10), .ref (m + 19), .ref (m + 21), .int 0, .int (-1), .int 0, .int 0, .int 0, .int 0, .int 0, .int 0, .int 0, .int 0, .int 0, .int 0])), (m + 19, .inr (5, [.int 0, .int 0, .int 0, .int 0, .int 0, .int 0, .int 0, .ref (m + 20)])), (m + 20, .inl (0, 612, .inl (fun _ => 0))), (m + 21, .inl (0, 1152, .inl (fun _ => 0)))] := ax_hs.call (rest := [(s0, .inr (0, [.ref rk, .ref nt, .ref as, .ref na, .ref tb, .ref od, .ref sn, .int 0, .int 0, .int 0, .int 0])), (o, .inl (0, gg * nn, .inl f)), (as, .inr (4, [.ref rk, .ref nt, .ref b1, .int 0, .ref b2, .ref b3, .ref b4, .ref b5, .int 0, .int 0, .int 0, .int 0, .int (-1), .int 1, .int (allN nn), .int (allN nn)])), (na, .inl (5, nn, .inr (.inr (.inr (.inr (fun j => if j < i then some (b0 + 22 * j) else none))))))]) [5, 1] [0, 2, 3, 4] hF qf qF rfl rfl rfl [5] rfl rfl [1, 5] (news := [m + 1, m + 2, m + 3, m + 4, m + 5, m + 6, m + 7, m + 8, m + 9, m + 10, m + 11, m + 12, m + 13, m + 14, m + 15, m + 16, m + 17, m + 18, m + 19, m + 20, m + 21]) rfl rfl (by rw [hn]; simp; try omega) rfl
    replace hf := hf.trC qf (by intro x hx hB; simp at hB; first | (rcases hB with rfl <;> first | omega | simp) | omega | simp [hB])
    replace hn : h2.1 = m + 22 := by omega
    replace hs : h2.2.1 = sl + 47629 := by omega
    have qf0 := qf
    clear qF qn qs qf
    refine ar_aast 153 d_0_152 rfl (hF.at 3 rfl) rfl (hF.at 5 rfl) (vp_in_nI hlt (by omega)) ?_
    replace hF : ax_hs (ax_put h2 na (.inl (5, nn, .inr (.inr (.inr (.inr (va_up (fun j => if j < i then some (b0 + 22 * j) else none) (nI i).toNatClampNeg (some m)))))))) [(s0, .inr (0, [.ref rk, .ref nt, .ref as, .ref na, .ref tb, .ref od, .ref sn, .int 0, .int 0, .int 0, .int 0])), (o, .inl (0, gg * nn, .inl f)), (as, .inr (4, [.ref rk, .ref nt, .ref b1, .int 0, .ref b2, .ref b3, .ref b4, .ref b5, .int 0, .int 0, .int 0, .int 0, .int (-1), .int 1, .int (allN nn), .int (allN nn)])), (na, .inl (5, nn, .inr (.inr (.inr (.inr (va_up (fun j => if j < i then some (b0 + 22 * j) else none) (nI i).toNatClampNeg (some m))))))), (rk, .inr (3, [.int (nI nn), .int C, .int (nI gg), .ref o])), (m, .inr (7, [.int (nI i), .ref rk, .ref nt, .ref (m + 1), .ref (m + 7), .ref (m + 6), .int 0, .int 0, .int 0])), (m + 1, .inr (8, [.ref (m + 2), .ref (m + 3), .ref (m + 4), .ref (m + 5), .int 0])), (m + 2, .inl (0, 35840, .inl (fun _ => 0))), (m + 3, .inl (0, 4096, .inl (fun _ => 0))), (m + 4, .inl (0, 32, .inl (fun _ => 0))), (m + 5, .inl (0, 280, .inl (ax_fill (fun _ => 0) 0 280 (-1)))), (m + 6, .inl (0, 280, .inl (ax_fill (fun _ => 0) 0 280 (-1)))), (m + 7, .inr (9, [.int (nI i), .ref rk, .ref nt, .ref (m + 10), .ref (m + 18), .ref (m + 8), .ref (m + 9), .int 0, .int 0, .int 0, .int 0, .long 0, .int 0, .int 0, .int 0])), (m + 8, .inl (0, 16, .inl (fun _ => 0))), (m + 9, .inl (0, 280, .inl (fun _ => 0))), (m + 10, .inr (6, [.int (nI gg), .ref (m + 11), .ref (m + 12), .ref (m + 13), .ref (m + 14), .ref (m + 15), .ref (m + 16), .ref (m + 17), .long 0, .int 0, .int 0])), (m + 11, .inl (0, 48, .inl (ax_fill (fun _ => 0) 0 48 (-1)))), (m + 12, .inl (0, 48, .inl (ax_fill (fun _ => 0) 0 48 0))), (m + 13, .inl (0, 48, .inl (fun _ => 0))), (m + 14, .inl (0, 2400, .inl (fun _ => 0))), (m + 15, .inl (0, 512, .inl (ax_fill (fun _ => 0) 0 512 (-1)))), (m + 16, .inl (0, 961, .inl (ax_fill (fun _ => 0) 0 961 (-1)))), (m + 17, .inl (0, 961, .inl (ax_fill (fun _ => 0) 0 961 0))), (m + 18, .inr (10, [.ref (m + 10), .ref (m + 19), .ref (m + 21), .int 0, .int (-1), .int 0, .int 0, .int 0, .int 0, .int 0, .int 0, .int 0, .int 0, .int 0, .int 0])), (m + 19, .inr (5, [.int 0, .int 0, .int 0, .int 0, .int 0, .int 0, .int 0, .ref (m + 20)])), (m + 20, .inl (0, 612, .inl (fun _ => 0))), (m + 21, .inl (0, 1152, .inl (fun _ => 0)))] := hF.put 3 _ rfl rfl
    replace hf := hf.put (a := na) (c := .inl (5, nn, .inr (.inr (.inr (.inr (va_up (fun j => if j < i then some (b0 + 22 * j) else none) (nI i).toNatClampNeg (some m))))))) (by simp)
    replace hn : (ax_put h2 na (.inl (5, nn, .inr (.inr (.inr (.inr (va_up (fun j => if j < i then some (b0 + 22 * j) else none) (nI i).toNatClampNeg (some m)))))))).1 = m + 22 := hn
    replace hs : (ax_put h2 na (.inl (5, nn, .inr (.inr (.inr (.inr (va_up (fun j => if j < i then some (b0 + 22 * j) else none) (nI i).toNatClampNeg (some m)))))))).2.1 = sl + 47629 := hs
    generalize ax_put h2 na (.inl (5, nn, .inr (.inr (.inr (.inr (va_up (fun j => if j < i then some (b0 + 22 * j) else none) (nI i).toNatClampNeg (some m))))))) = h3 at hF hf hn hs ⊢
    refine ar_aload_n 154 d_0_153 rfl rfl ?_
    refine ar_getf 157 d_0_154 rfl (ci := 0) (k := 3) rfl (hF.at 0 rfl) rfl ?_
    refine ar_iload 159 d_0_157 rfl rfl ?_
    refine ar_aald 160 d_0_159 rfl (hF.at 3 rfl) rfl (vp_in_nI hlt (by omega)) ?_
    refine ar_tv (v' := .ref m) (by rw [va_up_s]; rfl) ?_
    refine ar_aload_n 161 d_0_160 rfl rfl ?_
    refine ar_getf 164 d_0_161 rfl (ci := 0) (k := 2) rfl (hF.at 0 rfl) rfl ?_
    refine ar_getf 167 d_0_164 rfl (ci := 4) (k := 13) rfl (hF.at 2 rfl) rfl ?_
    refine ar_aload_n 168 d_0_167 rfl rfl ?_
    refine ar_getf 171 d_0_168 rfl (ci := 0) (k := 2) rfl (hF.at 0 rfl) rfl ?_
    refine ar_getf 174 d_0_171 rfl (ci := 4) (k := 14) rfl (hF.at 2 rfl) rfl ?_
    replace hN := hN.fr hf (by intro x hx hB; simp at hB; subst hB; exact hA_na hx)
    by_cases hpi : p = i
    · have hids : ids.length + nn < 128 := by
        have h1 := hN.len
        rw [if_neg (by omega)] at hms
        have h2 : ms.length = 0 := by rw [← List.length_map (f := (·.1)), hms]; rfl
        omega
      refine ar_call (r := []) (na := 0) (kd := 0) (cm := 18) (fr2 := fr - 1) (lo2 := lo - 22) 177 d_0_174 (ar_hoV (as := [.int 1, .int (allN nn)]) rfl rfl rfl (hF.at 5 rfl)) rfl (by omega) (show lo - 22 + (19 + 3) = lo by omega) (Nat.le_of_ble_eq_true rfl) (Nat.le_of_ble_eq_true rfl) (c_18LX (by omega) (by omega) hgg hg1 hnn (hA _ (by omega)) (hA _ (by omega)) (hA _ (by omega)) (hA _ (by omega)) (hA _ (by omega)) (hA _ (by omega)) (hA _ (by omega)) (hA _ (by omega)) (hA _ (by omega)) (hA _ (by omega)) (hA _ (by omega)) (hA _ (by omega)) (hA _ (by omega)) hA_rk hA_o (fun i _ => whB_0 i) (by rw [hpl, hpi]) hids hN (hF.sub (F' := [(m, .inr (7, [.int (nI i), .ref rk, .ref nt, .ref (m + 1), .ref (m + 7), .ref (m + 6), .int 0, .int 0, .int 0])), (m + 1, .inr (8, [.ref (m + 2), .ref (m + 3), .ref (m + 4), .ref (m + 5), .int 0])), (m + 2, .inl (0, 35840, .inl (fun _ => 0))), (m + 6, .inl (0, 280, .inl (ax_fill (fun _ => 0) 0 280 (-1)))), (m + 7, .inr (9, [.int (nI i), .ref rk, .ref nt, .ref (m + 10), .ref (m + 18), .ref (m + 8), .ref (m + 9), .int 0, .int 0, .int 0, .int 0, .long 0, .int 0, .int 0, .int 0])), (m + 10, .inr (6, [.int (nI gg), .ref (m + 11), .ref (m + 12), .ref (m + 13), .ref (m + 14), .ref (m + 15), .ref (m + 16), .ref (m + 17), .long 0, .int 0, .int 0])), (m + 18, .inr (10, [.ref (m + 10), .ref (m + 19), .ref (m + 21), .int 0, .int (-1), .int 0, .int 0, .int 0, .int 0, .int 0, .int 0, .int 0, .int 0, .int 0, .int 0])), (m + 11, .inl (0, 48, .inl (ax_fill (fun _ => 0) 0 48 (-1)))), (m + 12, .inl (0, 48, .inl (ax_fill (fun _ => 0) 0 48 0))), (m + 15, .inl (0, 512, .inl (ax_fill (fun _ => 0) 0 512 (-1)))), (m + 16, .inl (0, 961, .inl (ax_fill (fun _ => 0) 0 961 (-1)))), (m + 17, .inl (0, 961, .inl (ax_fill (fun _ => 0) 0 961 0))), (m + 8, .inl (0, 16, .inl (fun _ => 0))), (rk, .inr (3, [.int (nI nn), .int C, .int (nI gg), .ref o])), (o, .inl (0, gg * nn, .inl f))]) [5, 6, 7, 11, 12, 15, 23, 16, 17, 20, 21, 22, 13, 4, 1] rfl rfl) hn hs (by omega)) ?_
      intro v h9 hq
      obtain ⟨fm', ids', ms', rfl, hmk, qF, hN2, hms2, qn, qs, qf⟩ := hq
      have qF : ax_hs h9 [(m, .inr (7, [.int (nI i), .ref rk, .ref nt, .ref (m + 1), .ref (m + 7), .ref (m + 6), .int 1, .int 1, .int (allN nn)])), (m + 1, .inr (8, [.ref (m + 2), .ref (m + 3), .ref (m + 4), .ref (m + 5), .int 0])), (m + 2, .inl (0, 35840, .inl (fun _ => 0))), (m + 6, .inl (0, 280, .inl (ax_fill (ax_fill (fun _ => 0) 0 280 (-1)) 0 280 (-1)))), (m + 7, .inr (9, [.int (nI i), .ref rk, .ref nt, .ref (m + 10), .ref (m + 18), .ref (m + 8), .ref (m + 9), .int 1, .int (allN nn), .int 0, .int 0, .long 0, .int 0, .int 0, .int 0])), (m + 10, .inr (6, [.int (nI gg), .ref (m + 11), .ref (m + 12), .ref (m + 13), .ref (m + 14), .ref (m + 15), .ref (m + 16), .ref (m + 17), .long 0, .int 0, .int 0])), (m + 18, .inr (10, [.ref (m + 10), .ref (m + 19), .ref (m + 21), .int 0, .int (-1), .int 0, .int 0, .int 0, .int 0, .int 0, .int 0, .int 0, .int 0, .int 0, .int 0])), (m + 11, .inl (0, 48, .inl (ax_fill (ax_fill (fun _ => 0) 0 48 (-1)) 0 48 (-1)))), (m + 12, .inl (0, 48, .inl (ax_fill (ax_fill (fun _ => 0) 0 48 0) 0 48 0))), (m + 15, .inl (0, 512, .inl (ax_fill (ax_fill (fun _ => 0) 0 512 (-1)) 0 512 (-1)))), (m + 16, .inl (0, 961, .inl (ax_fill (ax_fill (fun _ => 0) 0 961 (-1)) 0 961 (-1)))), (m + 17, .inl (0, 961, .inl (ax_fill (ax_fill (fun _ => 0) 0 961 0) 0 961 0))), (m + 8, .inl (0, 16, .inl fm')), (rk, .inr (3, [.int (nI nn), .int C, .int (nI gg), .ref o])), (o, .inl (0, gg * nn, .inl f))] := qF
      have hR : ax_hs h9 [(s0, .inr (0, [.ref rk, .ref nt, .ref as, .ref na, .ref tb, .ref od, .ref sn, .int 0, .int 0, .int 0, .int 0])), (as, .inr (4, [.ref rk, .ref nt, .ref b1, .int 0, .ref b2, .ref b3, .ref b4, .ref b5, .int 0, .int 0, .int 0, .int 0, .int (-1), .int 1, .int (allN nn), .int (allN nn)])), (na, .inl (5, nn, .inr (.inr (.inr (.inr (va_up (fun j => if j < i then some (b0 + 22 * j) else none) (nI i).toNatClampNeg (some m))))))), (m + 3, .inl (0, 4096, .inl (fun _ => 0))), (m + 4, .inl (0, 32, .inl (fun _ => 0))), (m + 5, .inl (0, 280, .inl (ax_fill (fun _ => 0) 0 280 (-1)))), (m + 9, .inl (0, 280, .inl (fun _ => 0))), (m + 13, .inl (0, 48, .inl (fun _ => 0))), (m + 14, .inl (0, 2400, .inl (fun _ => 0))), (m + 19, .inr (5, [.int 0, .int 0, .int 0, .int 0, .int 0, .int 0, .int 0, .ref (m + 20)])), (m + 20, .inl (0, 612, .inl (fun _ => 0))), (m + 21, .inl (0, 1152, .inl (fun _ => 0)))] := (hF.sub (F' := [(s0, .inr (0, [.ref rk, .ref nt, .ref as, .ref na, .ref tb, .ref od, .ref sn, .int 0, .int 0, .int 0, .int 0])), (as, .inr (4, [.ref rk, .ref nt, .ref b1, .int 0, .ref b2, .ref b3, .ref b4, .ref b5, .int 0, .int 0, .int 0, .int 0, .int (-1), .int 1, .int (allN nn), .int (allN nn)])), (na, .inl (5, nn, .inr (.inr (.inr (.inr (va_up (fun j => if j < i then some (b0 + 22 * j) else none) (nI i).toNatClampNeg (some m))))))), (m + 3, .inl (0, 4096, .inl (fun _ => 0))), (m + 4, .inl (0, 32, .inl (fun _ => 0))), (m + 5, .inl (0, 280, .inl (ax_fill (fun _ => 0) 0 280 (-1)))), (m + 9, .inl (0, 280, .inl (fun _ => 0))), (m + 13, .inl (0, 48, .inl (fun _ => 0))), (m + 14, .inl (0, 2400, .inl (fun _ => 0))), (m + 19, .inr (5, [.int 0, .int 0, .int 0, .int 0, .int 0, .int 0, .int 0, .ref (m + 20)])), (m + 20, .inl (0, 612, .inl (fun _ => 0))), (m + 21, .inl (0, 1152, .inl (fun _ => 0)))]) [0, 2, 3, 8, 9, 10, 14, 18, 19, 24, 25, 26] rfl rfl).fr qf (by intro x hx; simp only [List.mem_cons, List.not_mem_nil, or_false] at hx; rcases hx with rfl | rfl | rfl | rfl | rfl | rfl | rfl | rfl | rfl | rfl | rfl | rfl; exact (fun z => z.elim (fun z => hA_s0 z) (fun z => ax_hs.apart hF 0 [11, 5, 12, 15, 23, 16, 17, 20, 21, 22, 13] (by decide) rfl rfl z)); exact (fun z => z.elim (fun z => hA_as z) (fun z => ax_hs.apart hF 2 [11, 5, 12, 15, 23, 16, 17, 20, 21, 22, 13] (by decide) rfl rfl z)); exact (fun z => z.elim (fun z => hA_na z) (fun z => ax_hs.apart hF 3 [11, 5, 12, 15, 23, 16, 17, 20, 21, 22, 13] (by decide) rfl rfl z)); exact (fun z => z.elim (fun z => (hA _ (by omega)) z) (fun z => ax_hs.apart hF 8 [11, 5, 12, 15, 23, 16, 17, 20, 21, 22, 13] (by decide) rfl rfl z)); exact (fun z => z.elim (fun z => (hA _ (by omega)) z) (fun z => ax_hs.apart hF 9 [11, 5, 12, 15, 23, 16, 17, 20, 21, 22, 13] (by decide) rfl rfl z)); exact (fun z => z.elim (fun z => (hA _ (by omega)) z) (fun z => ax_hs.apart hF 10 [11, 5, 12, 15, 23, 16, 17, 20, 21, 22, 13] (by decide) rfl rfl z)); exact (fun z => z.elim (fun z => (hA _ (by omega)) z) (fun z => ax_hs.apart hF 14 [11, 5, 12, 15, 23, 16, 17, 20, 21, 22, 13] (by decide) rfl rfl z)); exact (fun z => z.elim (fun z => (hA _ (by omega)) z) (fun z => ax_hs.apart hF 18 [11, 5, 12, 15, 23, 16, 17, 20, 21, 22, 13] (by decide) rfl rfl z)); exact (fun z => z.elim (fun z => (hA _ (by omega)) z) (fun z => ax_hs.apart hF 19 [11, 5, 12, 15, 23, 16, 17, 20, 21, 22, 13] (by decide) rfl rfl z)); exact (fun z => z.elim (fun z => (hA _ (by omega)) z) (fun z => ax_hs.apart hF 24 [11, 5, 12, 15, 23, 16, 17, 20, 21, 22, 13] (by decide) rfl rfl z)); exact (fun z => z.elim (fun z => (hA _ (by omega)) z) (fun z => ax_hs.apart hF 25 [11, 5, 12, 15, 23, 16, 17, 20, 21, 22, 13] (by decide) rfl rfl z)); exact (fun z => z.elim (fun z => (hA _ (by omega)) z) (fun z => ax_hs.apart hF 26 [11, 5, 12, 15, 23, 16, 17, 20, 21, 22, 13] (by decide) rfl rfl z)))
      replace hF : ax_hs h9 [(s0, .inr (0, [.ref rk, .ref nt, .ref as, .ref na, .ref tb, .ref od, .ref sn, .int 0, .int 0, .int 0, .int 0])), (as, .inr (4, [.ref rk, .ref nt, .ref b1, .int 0, .ref b2, .ref b3, .ref b4, .ref b5, .int 0, .int 0, .int 0, .int 0, .int (-1), .int 1, .int (allN nn), .int (allN nn)])), (na, .inl (5, nn, .inr (.inr (.inr (.inr (va_up (fun j => if j < i then some (b0 + 22 * j) else none) (nI i).toNatClampNeg (some m))))))), (m + 3, .inl (0, 4096, .inl (fun _ => 0))), (m + 4, .inl (0, 32, .inl (fun _ => 0))), (m + 5, .inl (0, 280, .inl (ax_fill (fun _ => 0) 0 280 (-1)))), (m + 9, .inl (0, 280, .inl (fun _ => 0))), (m + 13, .inl (0, 48, .inl (fun _ => 0))), (m + 14, .inl (0, 2400, .inl (fun _ => 0))), (m + 19, .inr (5, [.int 0, .int 0, .int 0, .int 0, .int 0, .int 0, .int 0, .ref (m + 20)])), (m + 20, .inl (0, 612, .inl (fun _ => 0))), (m + 21, .inl (0, 1152, .inl (fun _ => 0))), (m, .inr (7, [.int (nI i), .ref rk, .ref nt, .ref (m + 1), .ref (m + 7), .ref (m + 6), .int 1, .int 1, .int (allN nn)])), (m + 1, .inr (8, [.ref (m + 2), .ref (m + 3), .ref (m + 4), .ref (m + 5), .int 0])), (m + 2, .inl (0, 35840, .inl (fun _ => 0))), (m + 6, .inl (0, 280, .inl (ax_fill (ax_fill (fun _ => 0) 0 280 (-1)) 0 280 (-1)))), (m + 7, .inr (9, [.int (nI i), .ref rk, .ref nt, .ref (m + 10), .ref (m + 18), .ref (m + 8), .ref (m + 9), .int 1, .int (allN nn), .int 0, .int 0, .long 0, .int 0, .int 0, .int 0])), (m + 10, .inr (6, [.int (nI gg), .ref (m + 11), .ref (m + 12), .ref (m + 13), .ref (m + 14), .ref (m + 15), .ref (m + 16), .ref (m + 17), .long 0, .int 0, .int 0])), (m + 18, .inr (10, [.ref (m + 10), .ref (m + 19), .ref (m + 21), .int 0, .int (-1), .int 0, .int 0, .int 0, .int 0, .int 0, .int 0, .int 0, .int 0, .int 0, .int 0])), (m + 11, .inl (0, 48, .inl (ax_fill (ax_fill (fun _ => 0) 0 48 (-1)) 0 48 (-1)))), (m + 12, .inl (0, 48, .inl (ax_fill (ax_fill (fun _ => 0) 0 48 0) 0 48 0))), (m + 15, .inl (0, 512, .inl (ax_fill (ax_fill (fun _ => 0) 0 512 (-1)) 0 512 (-1)))), (m + 16, .inl (0, 961, .inl (ax_fill (ax_fill (fun _ => 0) 0 961 (-1)) 0 961 (-1)))), (m + 17, .inl (0, 961, .inl (ax_fill (ax_fill (fun _ => 0) 0 961 0) 0 961 0))), (m + 8, .inl (0, 16, .inl fm')), (rk, .inr (3, [.int (nI nn), .int C, .int (nI gg), .ref o])), (o, .inl (0, gg * nn, .inl f))] := hR.app qF (by intro i j p q hp hq; exact ax_hs.apart2 hF [0, 2, 3, 8, 9, 10, 14, 18, 19, 24, 25, 26] [5, 6, 7, 11, 12, 15, 23, 16, 17, 20, 21, 22, 13, 4, 1] (by decide) rfl rfl hp hq)
      have hfa : ax_fr (fun x => NTA nt w x ∨ x = na) h h9 := (hf.mono (fun x hx => Or.inr (by simpa using hx))).trC qf (by intro x hx hB; rcases hB with hB | hB; exact Or.inl hB; simp only [List.mem_cons, List.not_mem_nil, or_false] at hB; omega)
      simp only [ax_fill_fill] at hF
      refine ar_iinc 180 [(0, .ref s0), (1, .int x1), (2, .int x2), (3, .int x3), (4, .int (nI (i + 1)))] d_0_177 rfl rfl (nI_1 i) (by decide) rfl ?_
      refine ar_goto 117 d_0_180 (by decide) ?_
      have ef : va_up (fun j => if j < i then some (b0 + 22 * j) else none) (nI i).toNatClampNeg (some m) = (fun j => if j < i + 1 then some (b0 + 22 * j) else none) := by
        funext j
        rw [nI_clamp (by omega)]
        show (if j = i then some m else if j < i then some (b0 + 22 * j) else none) = (if j < i + 1 then some (b0 + 22 * j) else none)
        by_cases h1 : j = i
        · subst h1
          rw [if_pos rfl, if_pos (by omega), hm]
        · rw [if_neg h1]
          by_cases h2 : j < i
          · rw [if_pos h2, if_pos (by omega)]
          · rw [if_neg h2, if_neg (by omega)]
      rw [ef] at hF
      refine ih (i + 1) (by omega) h9 (m + 22) (sl + 47629) _ _ (by omega) (by omega) (by omega) (by omega) (hF.sub (F' := [(s0, .inr (0, [.ref rk, .ref nt, .ref as, .ref na, .ref tb, .ref od, .ref sn, .int 0, .int 0, .int 0, .int 0])), (rk, .inr (3, [.int (nI nn), .int C, .int (nI gg), .ref o])), (o, .inl (0, gg * nn, .inl f)), (as, .inr (4, [.ref rk, .ref nt, .ref b1, .int 0, .ref b2, .ref b3, .ref b4, .ref b5, .int 0, .int 0, .int 0, .int 0, .int (-1), .int 1, .int (allN nn), .int (allN nn)])), (na, .inl (5, nn, .inr (.inr (.inr (.inr (fun j => if j < i + 1 then some (b0 + 22 * j) else none))))))]) [0, 25, 26, 1, 2] rfl rfl) hN2 ?_ (fun j hj => ?_) (hf0.trC hfa (fun x _ hB => hB))
      · rw [hms2, hms, if_neg (by omega), if_pos (by omega), ← hpi]
        rfl
      · have k9 := hF.sub (F' := [(m, .inr (7, [.int (nI i), .ref rk, .ref nt, .ref (m + 1), .ref (m + 7), .ref (m + 6), .int 1, .int 1, .int (allN nn)])), (m + 1, .inr (8, [.ref (m + 2), .ref (m + 3), .ref (m + 4), .ref (m + 5), .int 0])), (m + 2, .inl (0, 35840, .inl (fun _ => 0))), (m + 3, .inl (0, 4096, .inl (fun _ => 0))), (m + 4, .inl (0, 32, .inl (fun _ => 0))), (m + 5, .inl (0, 280, .inl (ax_fill (fun _ => 0) 0 280 (-1)))), (m + 6, .inl (0, 280, .inl (ax_fill (fun _ => 0) 0 280 (-1)))), (m + 7, .inr (9, [.int (nI i), .ref rk, .ref nt, .ref (m + 10), .ref (m + 18), .ref (m + 8), .ref (m + 9), .int 1, .int (allN nn), .int 0, .int 0, .long 0, .int 0, .int 0, .int 0])), (m + 8, .inl (0, 16, .inl fm')), (m + 9, .inl (0, 280, .inl (fun _ => 0))), (m + 10, .inr (6, [.int (nI gg), .ref (m + 11), .ref (m + 12), .ref (m + 13), .ref (m + 14), .ref (m + 15), .ref (m + 16), .ref (m + 17), .long 0, .int 0, .int 0])), (m + 11, .inl (0, 48, .inl (ax_fill (fun _ => 0) 0 48 (-1)))), (m + 12, .inl (0, 48, .inl (ax_fill (fun _ => 0) 0 48 0))), (m + 13, .inl (0, 48, .inl (fun _ => 0))), (m + 14, .inl (0, 2400, .inl (fun _ => 0))), (m + 15, .inl (0, 512, .inl (ax_fill (fun _ => 0) 0 512 (-1)))), (m + 16, .inl (0, 961, .inl (ax_fill (fun _ => 0) 0 961 (-1)))), (m + 17, .inl (0, 961, .inl (ax_fill (fun _ => 0) 0 961 0))), (m + 18, .inr (10, [.ref (m + 10), .ref (m + 19), .ref (m + 21), .int 0, .int (-1), .int 0, .int 0, .int 0, .int 0, .int 0, .int 0, .int 0, .int 0, .int 0, .int 0])), (m + 19, .inr (5, [.int 0, .int 0, .int 0, .int 0, .int 0, .int 0, .int 0, .ref (m + 20)])), (m + 20, .inl (0, 612, .inl (fun _ => 0))), (m + 21, .inl (0, 1152, .inl (fun _ => 0)))]) [12, 13, 14, 3, 4, 5, 15, 16, 24, 6, 17, 19, 20, 7, 8, 21, 22, 23, 18, 9, 10, 11] rfl rfl
        by_cases hji : j < i
        · obtain ⟨fm9, k7, k8⟩ := hq j hji
          exact ⟨fm9, k7, k8.fr hfa (fun q hq9 => by have := QN.lt q hq9; intro z; rcases z with z | z; rcases z with z | z <;> omega; omega)⟩
        · have e : j = i := by omega
          rw [e]
          rw [if_pos hpi.symm, if_pos hpi.symm, ← hm]
          exact ⟨fm', fun _ => hmk, k9⟩
    · refine ar_call (r := []) (na := 0) (kd := 0) (cm := 18) (fr2 := fr - 1) (lo2 := lo - 22) 177 d_0_174 (ar_hoV (as := [.int 1, .int (allN nn)]) rfl rfl rfl (hF.at 5 rfl)) rfl (by omega) (show lo - 22 + (19 + 3) = lo by omega) (Nat.le_of_ble_eq_true rfl) (Nat.le_of_ble_eq_true rfl) (c_18N (by omega) (by omega) hgg hg1 hnn (fun i _ => whB_0 i) (by rw [hpl]; exact fun z => hpi ((nI_eq (by omega) (by omega)).mp z)) (hF.sub (F' := [(m, .inr (7, [.int (nI i), .ref rk, .ref nt, .ref (m + 1), .ref (m + 7), .ref (m + 6), .int 0, .int 0, .int 0])), (m + 1, .inr (8, [.ref (m + 2), .ref (m + 3), .ref (m + 4), .ref (m + 5), .int 0])), (m + 2, .inl (0, 35840, .inl (fun _ => 0))), (m + 6, .inl (0, 280, .inl (ax_fill (fun _ => 0) 0 280 (-1)))), (m + 7, .inr (9, [.int (nI i), .ref rk, .ref nt, .ref (m + 10), .ref (m + 18), .ref (m + 8), .ref (m + 9), .int 0, .int 0, .int 0, .int 0, .long 0, .int 0, .int 0, .int 0])), (m + 10, .inr (6, [.int (nI gg), .ref (m + 11), .ref (m + 12), .ref (m + 13), .ref (m + 14), .ref (m + 15), .ref (m + 16), .ref (m + 17), .long 0, .int 0, .int 0])), (m + 18, .inr (10, [.ref (m + 10), .ref (m + 19), .ref (m + 21), .int 0, .int (-1), .int 0, .int 0, .int 0, .int 0, .int 0, .int 0, .int 0, .int 0, .int 0, .int 0])), (m + 11, .inl (0, 48, .inl (ax_fill (fun _ => 0) 0 48 (-1)))), (m + 12, .inl (0, 48, .inl (ax_fill (fun _ => 0) 0 48 0))), (m + 15, .inl (0, 512, .inl (ax_fill (fun _ => 0) 0 512 (-1)))), (m + 16, .inl (0, 961, .inl (ax_fill (fun _ => 0) 0 961 (-1)))), (m + 17, .inl (0, 961, .inl (ax_fill (fun _ => 0) 0 961 0))), (m + 8, .inl (0, 16, .inl (fun _ => 0))), (rk, .inr (3, [.int (nI nn), .int C, .int (nI gg), .ref o])), (o, .inl (0, gg * nn, .inl f))]) [5, 6, 7, 11, 12, 15, 23, 16, 17, 20, 21, 22, 13, 4, 1] rfl rfl) hn hs (by omega)) ?_
      intro v h4 hq
      obtain ⟨rfl, qF, qn, qs, qf⟩ := hq
      have qF : ax_hs h4 [(m, .inr (7, [.int (nI i), .ref rk, .ref nt, .ref (m + 1), .ref (m + 7), .ref (m + 6), .int 1, .int 1, .int (allN nn)])), (m + 1, .inr (8, [.ref (m + 2), .ref (m + 3), .ref (m + 4), .ref (m + 5), .int 0])), (m + 2, .inl (0, 35840, .inl (fun _ => 0))), (m + 6, .inl (0, 280, .inl (ax_fill (ax_fill (fun _ => 0) 0 280 (-1)) 0 280 (-1)))), (m + 7, .inr (9, [.int (nI i), .ref rk, .ref nt, .ref (m + 10), .ref (m + 18), .ref (m + 8), .ref (m + 9), .int 0, .int 0, .int 0, .int 0, .long 0, .int 0, .int 0, .int 0])), (m + 10, .inr (6, [.int (nI gg), .ref (m + 11), .ref (m + 12), .ref (m + 13), .ref (m + 14), .ref (m + 15), .ref (m + 16), .ref (m + 17), .long 0, .int 0, .int 0])), (m + 18, .inr (10, [.ref (m + 10), .ref (m + 19), .ref (m + 21), .int 0, .int (-1), .int 0, .int 0, .int 0, .int 0, .int 0, .int 0, .int 0, .int 0, .int 0, .int 0])), (m + 11, .inl (0, 48, .inl (ax_fill (ax_fill (fun _ => 0) 0 48 (-1)) 0 48 (-1)))), (m + 12, .inl (0, 48, .inl (ax_fill (ax_fill (fun _ => 0) 0 48 0) 0 48 0))), (m + 15, .inl (0, 512, .inl (ax_fill (ax_fill (fun _ => 0) 0 512 (-1)) 0 512 (-1)))), (m + 16, .inl (0, 961, .inl (ax_fill (ax_fill (fun _ => 0) 0 961 (-1)) 0 961 (-1)))), (m + 17, .inl (0, 961, .inl (ax_fill (ax_fill (fun _ => 0) 0 961 0) 0 961 0))), (m + 8, .inl (0, 16, .inl (fun _ => 0))), (rk, .inr (3, [.int (nI nn), .int C, .int (nI gg), .ref o])), (o, .inl (0, gg * nn, .inl f))] := qF
      replace hF : ax_hs h4 [(s0, .inr (0, [.ref rk, .ref nt, .ref as, .ref na, .ref tb, .ref od, .ref sn, .int 0, .int 0, .int 0, .int 0])), (as, .inr (4, [.ref rk, .ref nt, .ref b1, .int 0, .ref b2, .ref b3, .ref b4, .ref b5, .int 0, .int 0, .int 0, .int 0, .int (-1), .int 1, .int (allN nn), .int (allN nn)])), (na, .inl (5, nn, .inr (.inr (.inr (.inr (va_up (fun j => if j < i then some (b0 + 22 * j) else none) (nI i).toNatClampNeg (some m))))))), (m + 3, .inl (0, 4096, .inl (fun _ => 0))), (m + 4, .inl (0, 32, .inl (fun _ => 0))), (m + 5, .inl (0, 280, .inl (ax_fill (fun _ => 0) 0 280 (-1)))), (m + 9, .inl (0, 280, .inl (fun _ => 0))), (m + 13, .inl (0, 48, .inl (fun _ => 0))), (m + 14, .inl (0, 2400, .inl (fun _ => 0))), (m + 19, .inr (5, [.int 0, .int 0, .int 0, .int 0, .int 0, .int 0, .int 0, .ref (m + 20)])), (m + 20, .inl (0, 612, .inl (fun _ => 0))), (m + 21, .inl (0, 1152, .inl (fun _ => 0))), (m, .inr (7, [.int (nI i), .ref rk, .ref nt, .ref (m + 1), .ref (m + 7), .ref (m + 6), .int 1, .int 1, .int (allN nn)])), (m + 1, .inr (8, [.ref (m + 2), .ref (m + 3), .ref (m + 4), .ref (m + 5), .int 0])), (m + 2, .inl (0, 35840, .inl (fun _ => 0))), (m + 6, .inl (0, 280, .inl (ax_fill (ax_fill (fun _ => 0) 0 280 (-1)) 0 280 (-1)))), (m + 7, .inr (9, [.int (nI i), .ref rk, .ref nt, .ref (m + 10), .ref (m + 18), .ref (m + 8), .ref (m + 9), .int 0, .int 0, .int 0, .int 0, .long 0, .int 0, .int 0, .int 0])), (m + 10, .inr (6, [.int (nI gg), .ref (m + 11), .ref (m + 12), .ref (m + 13), .ref (m + 14), .ref (m + 15), .ref (m + 16), .ref (m + 17), .long 0, .int 0, .int 0])), (m + 18, .inr (10, [.ref (m + 10), .ref (m + 19), .ref (m + 21), .int 0, .int (-1), .int 0, .int 0, .int 0, .int 0, .int 0, .int 0, .int 0, .int 0, .int 0, .int 0])), (m + 11, .inl (0, 48, .inl (ax_fill (ax_fill (fun _ => 0) 0 48 (-1)) 0 48 (-1)))), (m + 12, .inl (0, 48, .inl (ax_fill (ax_fill (fun _ => 0) 0 48 0) 0 48 0))), (m + 15, .inl (0, 512, .inl (ax_fill (ax_fill (fun _ => 0) 0 512 (-1)) 0 512 (-1)))), (m + 16, .inl (0, 961, .inl (ax_fill (ax_fill (fun _ => 0) 0 961 (-1)) 0 961 (-1)))), (m + 17, .inl (0, 961, .inl (ax_fill (ax_fill (fun _ => 0) 0 961 0) 0 961 0))), (m + 8, .inl (0, 16, .inl (fun _ => 0))), (rk, .inr (3, [.int (nI nn), .int C, .int (nI gg), .ref o])), (o, .inl (0, gg * nn, .inl f))] := ax_hs.call (rest := [(s0, .inr (0, [.ref rk, .ref nt, .ref as, .ref na, .ref tb, .ref od, .ref sn, .int 0, .int 0, .int 0, .int 0])), (as, .inr (4, [.ref rk, .ref nt, .ref b1, .int 0, .ref b2, .ref b3, .ref b4, .ref b5, .int 0, .int 0, .int 0, .int 0, .int (-1), .int 1, .int (allN nn), .int (allN nn)])), (na, .inl (5, nn, .inr (.inr (.inr (.inr (va_up (fun j => if j < i then some (b0 + 22 * j) else none) (nI i).toNatClampNeg (some m))))))), (m + 3, .inl (0, 4096, .inl (fun _ => 0))), (m + 4, .inl (0, 32, .inl (fun _ => 0))), (m + 5, .inl (0, 280, .inl (ax_fill (fun _ => 0) 0 280 (-1)))), (m + 9, .inl (0, 280, .inl (fun _ => 0))), (m + 13, .inl (0, 48, .inl (fun _ => 0))), (m + 14, .inl (0, 2400, .inl (fun _ => 0))), (m + 19, .inr (5, [.int 0, .int 0, .int 0, .int 0, .int 0, .int 0, .int 0, .ref (m + 20)])), (m + 20, .inl (0, 612, .inl (fun _ => 0))), (m + 21, .inl (0, 1152, .inl (fun _ => 0)))]) [5, 6, 7, 11, 12, 15, 23, 16, 17, 20, 21, 22, 13, 4, 1] [0, 2, 3, 8, 9, 10, 14, 18, 19, 24, 25, 26] hF qf qF rfl rfl rfl [11, 5, 12, 15, 23, 16, 17, 20, 21, 22] rfl rfl [5, 6, 7, 11, 12, 15, 23, 16, 17, 20, 21, 22, 13, 4, 1] (news := []) rfl rfl (fun _ z => absurd z List.not_mem_nil) rfl
      replace hf := hf.trC qf (by intro x hx hB; simp at hB; first | (rcases hB with rfl | rfl | rfl | rfl | rfl | rfl | rfl | rfl | rfl | rfl <;> first | omega | simp) | omega | simp [hB])
      replace hn : h4.1 = m + 22 := by omega
      replace hs : h4.2.1 = sl + 47629 := by omega
      have qf0 := qf
      clear qF qn qs qf
      have hN2 := hN.fr qf0 (by intro x hx hB; simp only [List.mem_cons, List.not_mem_nil, or_false] at hB; exact hA x (by omega) hx)
      have hfa : ax_fr (fun x => NTA nt w x ∨ x = na) h h4 := hf.mono (fun x hx => Or.inr (by simpa using hx))
      simp only [ax_fill_fill] at hF
      refine ar_iinc 180 [(0, .ref s0), (1, .int x1), (2, .int x2), (3, .int x3), (4, .int (nI (i + 1)))] d_0_177 rfl rfl (nI_1 i) (by decide) rfl ?_
      refine ar_goto 117 d_0_180 (by decide) ?_
      have ef : va_up (fun j => if j < i then some (b0 + 22 * j) else none) (nI i).toNatClampNeg (some m) = (fun j => if j < i + 1 then some (b0 + 22 * j) else none) := by
        funext j
        rw [nI_clamp (by omega)]
        show (if j = i then some m else if j < i then some (b0 + 22 * j) else none) = (if j < i + 1 then some (b0 + 22 * j) else none)
        by_cases h1 : j = i
        · subst h1
          rw [if_pos rfl, if_pos (by omega), hm]
        · rw [if_neg h1]
          by_cases h2 : j < i
          · rw [if_pos h2, if_pos (by omega)]
          · rw [if_neg h2, if_neg (by omega)]
      rw [ef] at hF
      refine ih (i + 1) (by omega) h4 (m + 22) (sl + 47629) _ _ (by omega) (by omega) (by omega) (by omega) (hF.sub (F' := [(s0, .inr (0, [.ref rk, .ref nt, .ref as, .ref na, .ref tb, .ref od, .ref sn, .int 0, .int 0, .int 0, .int 0])), (rk, .inr (3, [.int (nI nn), .int C, .int (nI gg), .ref o])), (o, .inl (0, gg * nn, .inl f)), (as, .inr (4, [.ref rk, .ref nt, .ref b1, .int 0, .ref b2, .ref b3, .ref b4, .ref b5, .int 0, .int 0, .int 0, .int 0, .int (-1), .int 1, .int (allN nn), .int (allN nn)])), (na, .inl (5, nn, .inr (.inr (.inr (.inr (fun j => if j < i + 1 then some (b0 + 22 * j) else none))))))]) [0, 25, 26, 1, 2] rfl rfl) hN2 ?_ (fun j hj => ?_) (hf0.trC hfa (fun x _ hB => hB))
      · rw [hms]
        by_cases hpi2 : p < i
        · rw [if_pos hpi2, if_pos (by omega)]
        · rw [if_neg hpi2, if_neg (by omega)]
      · have k9 := hF.sub (F' := [(m, .inr (7, [.int (nI i), .ref rk, .ref nt, .ref (m + 1), .ref (m + 7), .ref (m + 6), .int 1, .int 1, .int (allN nn)])), (m + 1, .inr (8, [.ref (m + 2), .ref (m + 3), .ref (m + 4), .ref (m + 5), .int 0])), (m + 2, .inl (0, 35840, .inl (fun _ => 0))), (m + 3, .inl (0, 4096, .inl (fun _ => 0))), (m + 4, .inl (0, 32, .inl (fun _ => 0))), (m + 5, .inl (0, 280, .inl (ax_fill (fun _ => 0) 0 280 (-1)))), (m + 6, .inl (0, 280, .inl (ax_fill (fun _ => 0) 0 280 (-1)))), (m + 7, .inr (9, [.int (nI i), .ref rk, .ref nt, .ref (m + 10), .ref (m + 18), .ref (m + 8), .ref (m + 9), .int 0, .int 0, .int 0, .int 0, .long 0, .int 0, .int 0, .int 0])), (m + 8, .inl (0, 16, .inl (fun _ => 0))), (m + 9, .inl (0, 280, .inl (fun _ => 0))), (m + 10, .inr (6, [.int (nI gg), .ref (m + 11), .ref (m + 12), .ref (m + 13), .ref (m + 14), .ref (m + 15), .ref (m + 16), .ref (m + 17), .long 0, .int 0, .int 0])), (m + 11, .inl (0, 48, .inl (ax_fill (fun _ => 0) 0 48 (-1)))), (m + 12, .inl (0, 48, .inl (ax_fill (fun _ => 0) 0 48 0))), (m + 13, .inl (0, 48, .inl (fun _ => 0))), (m + 14, .inl (0, 2400, .inl (fun _ => 0))), (m + 15, .inl (0, 512, .inl (ax_fill (fun _ => 0) 0 512 (-1)))), (m + 16, .inl (0, 961, .inl (ax_fill (fun _ => 0) 0 961 (-1)))), (m + 17, .inl (0, 961, .inl (ax_fill (fun _ => 0) 0 961 0))), (m + 18, .inr (10, [.ref (m + 10), .ref (m + 19), .ref (m + 21), .int 0, .int (-1), .int 0, .int 0, .int 0, .int 0, .int 0, .int 0, .int 0, .int 0, .int 0, .int 0])), (m + 19, .inr (5, [.int 0, .int 0, .int 0, .int 0, .int 0, .int 0, .int 0, .ref (m + 20)])), (m + 20, .inl (0, 612, .inl (fun _ => 0))), (m + 21, .inl (0, 1152, .inl (fun _ => 0)))]) [12, 13, 14, 3, 4, 5, 15, 16, 24, 6, 17, 19, 20, 7, 8, 21, 22, 23, 18, 9, 10, 11] rfl rfl
        by_cases hji : j < i
        · obtain ⟨fm9, k7, k8⟩ := hq j hji
          exact ⟨fm9, k7, k8.fr hfa (fun q hq9 => by have := QN.lt q hq9; intro z; rcases z with z | z; rcases z with z | z <;> omega; omega)⟩
        · have e : j = i := by omega
          rw [e]
          rw [if_neg (fun z => hpi z.symm), if_neg (fun z => hpi z.symm), ← hm]
          exact ⟨_, fun z => absurd z.symm hpi, k9⟩

set_option maxRecDepth 100000 in
theorem ph_CX {L : Nat} {xs : Nat → Int32} {fr lo s0 rk o as nt w od sn b1 b2 b3 b4 b5 nn gg p n sl : Nat} {C x1 x2 x3 : Int32} {f u b : Nat → Int32} {h : ax_H} {post : ax_Po} (hfr : 6 ≤ fr) (hlo : 130 ≤ lo) (hgg : gg ≤ 16) (hg1 : 0 < gg) (hnn : nn ≤ 6) (hn3 : 0 < nn) (hp : p < nn) (hpl : nof f 0 (allN nn) nn 0 0 = nI p) (hntw : nt < w) (hwb : w + 261 ≤ n) (hA_rk : ¬ NTA nt w rk) (hA_o : ¬ NTA nt w o) (hA_s0 : ¬ NTA nt w s0) (hA_as : ¬ NTA nt w as)
    (hF : ax_hs h [(s0, .inr (0, [.ref rk, .ref nt, .null, .null, .null, .ref od, .ref sn, .int 0, .int 0, .int 0, .int 0])), (rk, .inr (3, [.int (nI nn), .int C, .int (nI gg), .ref o])), (o, .inl (0, gg * nn, .inl f)), (as, .inr (4, [.ref rk, .ref nt, .ref b1, .int 0, .ref b2, .ref b3, .ref b4, .ref b5, .int 0, .int 0, .int 0, .int 0, .int (-1), .int 1, .int (allN nn), .int (allN nn)]))]) (hN : NTL h nt w [] [] 0 u b) (hn : h.1 = n) (hs : h.2.1 = sl)
    (kk : ∀ (h' : ax_H) (ids : List Nat) (ms : List Mg), ax_hs h' [(s0, .inr (0, [.ref rk, .ref nt, .ref as, .ref (n + 8), .ref n, .ref od, .ref sn, .int 0, .int 0, .int 0, .int 0])), (rk, .inr (3, [.int (nI nn), .int C, .int (nI gg), .ref o])), (o, .inl (0, gg * nn, .inl f)), (as, .inr (4, [.ref rk, .ref nt, .ref b1, .int 0, .ref b2, .ref b3, .ref b4, .ref b5, .int 0, .int 0, .int 0, .int 0, .int (-1), .int 1, .int (allN nn), .int (allN nn)])), (n + 8, .inl (5, nn, .inr (.inr (.inr (.inr (fun j => if j < nn then some (n + 9 + 22 * j) else none)))))), (n, .inr (6, [.int (nI gg), .ref (n + 1), .ref (n + 2), .ref (n + 3), .ref (n + 4), .ref (n + 5), .ref (n + 6), .ref (n + 7), .long 0, .int 0, .int 0])), (n + 1, .inl (0, 48, .inl (ax_fill (fun _ => 0) 0 48 (-1)))), (n + 2, .inl (0, 48, .inl (ax_fill (fun _ => 0) 0 48 0))), (n + 3, .inl (0, 48, .inl (fun _ => 0))), (n + 4, .inl (0, 2400, .inl (fun _ => 0))), (n + 5, .inl (0, 512, .inl (ax_fill (fun _ => 0) 0 512 (-1)))), (n + 6, .inl (0, 961, .inl (ax_fill (fun _ => 0) 0 961 (-1)))), (n + 7, .inl (0, 961, .inl (ax_fill (fun _ => 0) 0 961 0)))] → NTL h' nt w ids ms 0 u b → ms.map (·.1) = LST p nn 1 (allN nn) → (∀ j, j < nn → ∃ fm, (j = p → MkE nn gg C f (allN nn) fm) ∧ ax_hs h' (QN (n + 9 + 22 * j) rk nt (nI gg) (nI j) 1 1 (allN nn) (if j = p then 1 else 0) (if j = p then allN nn else 0) 0 0 0 0 0 fm)) → h'.1 = n + 9 + 22 * nn → h'.2.1 = sl + 4989 + nn + 47629 * nn → ax_fr (fun x => NTA nt w x ∨ x ∈ [s0]) h h' → post none h') : ax_A (ax_step L xs) ((0, 79, fr, lo), [(0, .ref s0), (1, .int x1), (2, .int x2), (3, .int x3)], [.ref as, .ref s0], h) post := by
  have hn0 : 0 < n := by omega
  have hbase : h.1 = n := hn
  have hbasl : h.2.1 = sl := hs
  have hf : ax_fr (fun x => x ∈ [s0]) h h := ax_fr.rf
  refine ar_putf 82 [.ref rk, .ref nt, .ref as, .null, .null, .ref od, .ref sn, .int 0, .int 0, .int 0, .int 0] d_0_79 rfl (ci := 0) (k := 2) rfl (by decide +kernel) (hF.at 0 rfl) (Nat.le_of_ble_eq_true rfl) rfl rfl rfl ?_
  replace hF : ax_hs (ax_put h s0 (.inr (0, [.ref rk, .ref nt, .ref as, .null, .null, .ref od, .ref sn, .int 0, .int 0, .int 0, .int 0]))) [(s0, .inr (0, [.ref rk, .ref nt, .ref as, .null, .null, .ref od, .ref sn, .int 0, .int 0, .int 0, .int 0])), (rk, .inr (3, [.int (nI nn), .int C, .int (nI gg), .ref o])), (o, .inl (0, gg * nn, .inl f)), (as, .inr (4, [.ref rk, .ref nt, .ref b1, .int 0, .ref b2, .ref b3, .ref b4, .ref b5, .int 0, .int 0, .int 0, .int 0, .int (-1), .int 1, .int (allN nn), .int (allN nn)]))] := hF.put 0 _ rfl rfl
  replace hf := hf.put (a := s0) (c := .inr (0, [.ref rk, .ref nt, .ref as, .null, .null, .ref od, .ref sn, .int 0, .int 0, .int 0, .int 0])) (by simp)
  replace hn : (ax_put h s0 (.inr (0, [.ref rk, .ref nt, .ref as, .null, .null, .ref od, .ref sn, .int 0, .int 0, .int 0, .int 0]))).1 = n := hn
  replace hs : (ax_put h s0 (.inr (0, [.ref rk, .ref nt, .ref as, .null, .null, .ref od, .ref sn, .int 0, .int 0, .int 0, .int 0]))).2.1 = sl := hs
  generalize ax_put h s0 (.inr (0, [.ref rk, .ref nt, .ref as, .null, .null, .ref od, .ref sn, .int 0, .int 0, .int 0, .int 0])) = h1 at hF hf hn hs ⊢
  refine ar_aload_n 83 d_0_82 rfl rfl ?_
  refine ar_new 86 d_0_83 rfl (ci := 6) rfl ?_
  rw [hn]
  refine ar_heap (h' := ax_push h1 11 (.inr (6, [.int 0, .null, .null, .null, .null, .null, .null, .null, .long 0, .int 0, .int 0]))) rfl ?_
  replace hF : ax_hs (ax_push h1 11 (.inr (6, [.int 0, .null, .null, .null, .null, .null, .null, .null, .long 0, .int 0, .int 0]))) [(s0, .inr (0, [.ref rk, .ref nt, .ref as, .null, .null, .ref od, .ref sn, .int 0, .int 0, .int 0, .int 0])), (rk, .inr (3, [.int (nI nn), .int C, .int (nI gg), .ref o])), (o, .inl (0, gg * nn, .inl f)), (as, .inr (4, [.ref rk, .ref nt, .ref b1, .int 0, .ref b2, .ref b3, .ref b4, .ref b5, .int 0, .int 0, .int 0, .int 0, .int (-1), .int 1, .int (allN nn), .int (allN nn)])), (n, .inr (6, [.int 0, .null, .null, .null, .null, .null, .null, .null, .long 0, .int 0, .int 0]))] := hF.push (by omega) 11 _ (by rw [hn]; rfl)
  replace hf := hf.push (n := 11) (c := .inr (6, [.int 0, .null, .null, .null, .null, .null, .null, .null, .long 0, .int 0, .int 0]))
  replace hn : (ax_push h1 11 (.inr (6, [.int 0, .null, .null, .null, .null, .null, .null, .null, .long 0, .int 0, .int 0]))).1 = n + 1 := by show h1.1 + 1 = _; rw [hn]
  replace hs : (ax_push h1 11 (.inr (6, [.int 0, .null, .null, .null, .null, .null, .null, .null, .long 0, .int 0, .int 0]))).2.1 = sl + 11 := by show h1.2.1 + 11 = _; omega
  generalize ax_push h1 11 (.inr (6, [.int 0, .null, .null, .null, .null, .null, .null, .null, .long 0, .int 0, .int 0])) = h2 at hF hf hn hs ⊢
  refine ar_dup 87 d_0_86 rfl rfl ?_
  refine ar_aload_n 88 d_0_87 rfl rfl ?_
  refine ar_getf 91 d_0_88 rfl (ci := 0) (k := 0) rfl (hF.at 0 rfl) rfl ?_
  refine ar_getf 94 d_0_91 rfl (ci := 3) (k := 2) rfl (hF.at 1 rfl) rfl ?_
  refine ar_call (r := [.ref n, .ref s0]) (na := 0) (kd := 0) (cm := 11) (fr2 := fr - 1) (lo2 := lo - 21) 97 d_0_94 (ar_hoI (as := [.int (nI gg)]) rfl rfl rfl) rfl (by omega) (show lo - 21 + (19 + 2) = lo by omega) (Nat.le_of_ble_eq_true rfl) (Nat.le_of_ble_eq_true rfl) (c_11 (by omega) (by omega) (hF.sub (F' := [(n, .inr (6, [.int 0, .null, .null, .null, .null, .null, .null, .null, .long 0, .int 0, .int 0]))]) [4] rfl rfl) hn hs (by omega)) ?_
  intro v h3 hq
  obtain ⟨rfl, qF, qn, qs, qf⟩ := hq
  have qF : ax_hs h3 [(n, .inr (6, [.int (nI gg), .ref (n + 1), .ref (n + 2), .ref (n + 3), .ref (n + 4), .ref (n + 5), .ref (n + 6), .ref (n + 7), .long 0, .int 0, .int 0])), (n + 1, .inl (0, 48, .inl (ax_fill (fun _ => 0) 0 48 (-1)))), (n + 2, .inl (0, 48, .inl (ax_fill (fun _ => 0) 0 48 0))), (n + 3, .inl (0, 48, .inl (fun _ => 0))), (n + 4, .inl (0, 2400, .inl (fun _ => 0))), (n + 5, .inl (0, 512, .inl (ax_fill (fun _ => 0) 0 512 (-1)))), (n + 6, .inl (0, 961, .inl (ax_fill (fun _ => 0) 0 961 (-1)))), (n + 7, .inl (0, 961, .inl (ax_fill (fun _ => 0) 0 961 0)))] := qF
  replace hF : ax_hs h3 [(s0, .inr (0, [.ref rk, .ref nt, .ref as, .null, .null, .ref od, .ref sn, .int 0, .int 0, .int 0, .int 0])), (rk, .inr (3, [.int (nI nn), .int C, .int (nI gg), .ref o])), (o, .inl (0, gg * nn, .inl f)), (as, .inr (4, [.ref rk, .ref nt, .ref b1, .int 0, .ref b2, .ref b3, .ref b4, .ref b5, .int 0, .int 0, .int 0, .int 0, .int (-1), .int 1, .int (allN nn), .int (allN nn)])), (n, .inr (6, [.int (nI gg), .ref (n + 1), .ref (n + 2), .ref (n + 3), .ref (n + 4), .ref (n + 5), .ref (n + 6), .ref (n + 7), .long 0, .int 0, .int 0])), (n + 1, .inl (0, 48, .inl (ax_fill (fun _ => 0) 0 48 (-1)))), (n + 2, .inl (0, 48, .inl (ax_fill (fun _ => 0) 0 48 0))), (n + 3, .inl (0, 48, .inl (fun _ => 0))), (n + 4, .inl (0, 2400, .inl (fun _ => 0))), (n + 5, .inl (0, 512, .inl (ax_fill (fun _ => 0) 0 512 (-1)))), (n + 6, .inl (0, 961, .inl (ax_fill (fun _ => 0) 0 961 (-1)))), (n + 7, .inl (0, 961, .inl (ax_fill (fun _ => 0) 0 961 0)))] := ax_hs.call (rest := [(s0, .inr (0, [.ref rk, .ref nt, .ref as, .null, .null, .ref od, .ref sn, .int 0, .int 0, .int 0, .int 0])), (rk, .inr (3, [.int (nI nn), .int C, .int (nI gg), .ref o])), (o, .inl (0, gg * nn, .inl f)), (as, .inr (4, [.ref rk, .ref nt, .ref b1, .int 0, .ref b2, .ref b3, .ref b4, .ref b5, .int 0, .int 0, .int 0, .int 0, .int (-1), .int 1, .int (allN nn), .int (allN nn)]))]) [4] [0, 1, 2, 3] hF qf qF rfl rfl rfl [4] rfl rfl [4] (news := [n + 1, n + 2, n + 3, n + 4, n + 5, n + 6, n + 7]) rfl rfl (by rw [hn]; simp; try omega) rfl
  replace hf := hf.trC qf (by intro x hx hB; simp at hB; first | (rcases hB with rfl <;> first | omega | simp) | omega | simp [hB])
  replace hn : h3.1 = n + 8 := by omega
  replace hs : h3.2.1 = sl + 4989 := by omega
  have qf0 := qf
  clear qF qn qs qf
  refine ar_putf 100 [.ref rk, .ref nt, .ref as, .null, .ref n, .ref od, .ref sn, .int 0, .int 0, .int 0, .int 0] d_0_97 rfl (ci := 0) (k := 4) rfl (by decide +kernel) (hF.at 0 rfl) (Nat.le_of_ble_eq_true rfl) rfl rfl rfl ?_
  replace hF : ax_hs (ax_put h3 s0 (.inr (0, [.ref rk, .ref nt, .ref as, .null, .ref n, .ref od, .ref sn, .int 0, .int 0, .int 0, .int 0]))) [(s0, .inr (0, [.ref rk, .ref nt, .ref as, .null, .ref n, .ref od, .ref sn, .int 0, .int 0, .int 0, .int 0])), (rk, .inr (3, [.int (nI nn), .int C, .int (nI gg), .ref o])), (o, .inl (0, gg * nn, .inl f)), (as, .inr (4, [.ref rk, .ref nt, .ref b1, .int 0, .ref b2, .ref b3, .ref b4, .ref b5, .int 0, .int 0, .int 0, .int 0, .int (-1), .int 1, .int (allN nn), .int (allN nn)])), (n, .inr (6, [.int (nI gg), .ref (n + 1), .ref (n + 2), .ref (n + 3), .ref (n + 4), .ref (n + 5), .ref (n + 6), .ref (n + 7), .long 0, .int 0, .int 0])), (n + 1, .inl (0, 48, .inl (ax_fill (fun _ => 0) 0 48 (-1)))), (n + 2, .inl (0, 48, .inl (ax_fill (fun _ => 0) 0 48 0))), (n + 3, .inl (0, 48, .inl (fun _ => 0))), (n + 4, .inl (0, 2400, .inl (fun _ => 0))), (n + 5, .inl (0, 512, .inl (ax_fill (fun _ => 0) 0 512 (-1)))), (n + 6, .inl (0, 961, .inl (ax_fill (fun _ => 0) 0 961 (-1)))), (n + 7, .inl (0, 961, .inl (ax_fill (fun _ => 0) 0 961 0)))] := hF.put 0 _ rfl rfl
  replace hf := hf.put (a := s0) (c := .inr (0, [.ref rk, .ref nt, .ref as, .null, .ref n, .ref od, .ref sn, .int 0, .int 0, .int 0, .int 0])) (by simp)
  replace hn : (ax_put h3 s0 (.inr (0, [.ref rk, .ref nt, .ref as, .null, .ref n, .ref od, .ref sn, .int 0, .int 0, .int 0, .int 0]))).1 = n + 8 := hn
  replace hs : (ax_put h3 s0 (.inr (0, [.ref rk, .ref nt, .ref as, .null, .ref n, .ref od, .ref sn, .int 0, .int 0, .int 0, .int 0]))).2.1 = sl + 4989 := hs
  generalize ax_put h3 s0 (.inr (0, [.ref rk, .ref nt, .ref as, .null, .ref n, .ref od, .ref sn, .int 0, .int 0, .int 0, .int 0])) = h4 at hF hf hn hs ⊢
  refine ar_aload_n 101 d_0_100 rfl rfl ?_
  refine ar_aload_n 102 d_0_101 rfl rfl ?_
  refine ar_getf 105 d_0_102 rfl (ci := 0) (k := 0) rfl (hF.at 0 rfl) rfl ?_
  refine ar_getf 108 d_0_105 rfl (ci := 3) (k := 0) rfl (hF.at 1 rfl) rfl ?_
  refine ar_newq 111 d_0_108 rfl (t := 5) rfl (nI_pos (by omega)) (N := nn) (nI_clamp (by omega)) (by omega) ?_
  rw [hn]
  replace hF : ax_hs (ax_push h4 nn (.inl (5, nn, .inr (.inr (.inr (.inr (fun _ => none))))))) [(s0, .inr (0, [.ref rk, .ref nt, .ref as, .null, .ref n, .ref od, .ref sn, .int 0, .int 0, .int 0, .int 0])), (rk, .inr (3, [.int (nI nn), .int C, .int (nI gg), .ref o])), (o, .inl (0, gg * nn, .inl f)), (as, .inr (4, [.ref rk, .ref nt, .ref b1, .int 0, .ref b2, .ref b3, .ref b4, .ref b5, .int 0, .int 0, .int 0, .int 0, .int (-1), .int 1, .int (allN nn), .int (allN nn)])), (n, .inr (6, [.int (nI gg), .ref (n + 1), .ref (n + 2), .ref (n + 3), .ref (n + 4), .ref (n + 5), .ref (n + 6), .ref (n + 7), .long 0, .int 0, .int 0])), (n + 1, .inl (0, 48, .inl (ax_fill (fun _ => 0) 0 48 (-1)))), (n + 2, .inl (0, 48, .inl (ax_fill (fun _ => 0) 0 48 0))), (n + 3, .inl (0, 48, .inl (fun _ => 0))), (n + 4, .inl (0, 2400, .inl (fun _ => 0))), (n + 5, .inl (0, 512, .inl (ax_fill (fun _ => 0) 0 512 (-1)))), (n + 6, .inl (0, 961, .inl (ax_fill (fun _ => 0) 0 961 (-1)))), (n + 7, .inl (0, 961, .inl (ax_fill (fun _ => 0) 0 961 0))), (n + 8, .inl (5, nn, .inr (.inr (.inr (.inr (fun _ => none))))))] := hF.push (by omega) nn _ (by rw [hn]; rfl)
  replace hf := hf.push (n := nn) (c := .inl (5, nn, .inr (.inr (.inr (.inr (fun _ => none))))))
  replace hn : (ax_push h4 nn (.inl (5, nn, .inr (.inr (.inr (.inr (fun _ => none))))))).1 = n + 9 := by show h4.1 + 1 = _; rw [hn]
  replace hs : (ax_push h4 nn (.inl (5, nn, .inr (.inr (.inr (.inr (fun _ => none))))))).2.1 = sl + 4989 + nn := by show h4.2.1 + nn = _; omega
  generalize ax_push h4 nn (.inl (5, nn, .inr (.inr (.inr (.inr (fun _ => none)))))) = h5 at hF hf hn hs ⊢
  refine ar_putf 114 [.ref rk, .ref nt, .ref as, .ref (n + 8), .ref n, .ref od, .ref sn, .int 0, .int 0, .int 0, .int 0] d_0_111 rfl (ci := 0) (k := 3) rfl (by decide +kernel) (hF.at 0 rfl) (Nat.le_of_ble_eq_true rfl) rfl rfl rfl ?_
  replace hF : ax_hs (ax_put h5 s0 (.inr (0, [.ref rk, .ref nt, .ref as, .ref (n + 8), .ref n, .ref od, .ref sn, .int 0, .int 0, .int 0, .int 0]))) [(s0, .inr (0, [.ref rk, .ref nt, .ref as, .ref (n + 8), .ref n, .ref od, .ref sn, .int 0, .int 0, .int 0, .int 0])), (rk, .inr (3, [.int (nI nn), .int C, .int (nI gg), .ref o])), (o, .inl (0, gg * nn, .inl f)), (as, .inr (4, [.ref rk, .ref nt, .ref b1, .int 0, .ref b2, .ref b3, .ref b4, .ref b5, .int 0, .int 0, .int 0, .int 0, .int (-1), .int 1, .int (allN nn), .int (allN nn)])), (n, .inr (6, [.int (nI gg), .ref (n + 1), .ref (n + 2), .ref (n + 3), .ref (n + 4), .ref (n + 5), .ref (n + 6), .ref (n + 7), .long 0, .int 0, .int 0])), (n + 1, .inl (0, 48, .inl (ax_fill (fun _ => 0) 0 48 (-1)))), (n + 2, .inl (0, 48, .inl (ax_fill (fun _ => 0) 0 48 0))), (n + 3, .inl (0, 48, .inl (fun _ => 0))), (n + 4, .inl (0, 2400, .inl (fun _ => 0))), (n + 5, .inl (0, 512, .inl (ax_fill (fun _ => 0) 0 512 (-1)))), (n + 6, .inl (0, 961, .inl (ax_fill (fun _ => 0) 0 961 (-1)))), (n + 7, .inl (0, 961, .inl (ax_fill (fun _ => 0) 0 961 0))), (n + 8, .inl (5, nn, .inr (.inr (.inr (.inr (fun _ => none))))))] := hF.put 0 _ rfl rfl
  replace hf := hf.put (a := s0) (c := .inr (0, [.ref rk, .ref nt, .ref as, .ref (n + 8), .ref n, .ref od, .ref sn, .int 0, .int 0, .int 0, .int 0])) (by simp)
  replace hn : (ax_put h5 s0 (.inr (0, [.ref rk, .ref nt, .ref as, .ref (n + 8), .ref n, .ref od, .ref sn, .int 0, .int 0, .int 0, .int 0]))).1 = n + 9 := hn
  replace hs : (ax_put h5 s0 (.inr (0, [.ref rk, .ref nt, .ref as, .ref (n + 8), .ref n, .ref od, .ref sn, .int 0, .int 0, .int 0, .int 0]))).2.1 = sl + 4989 + nn := hs
  generalize ax_put h5 s0 (.inr (0, [.ref rk, .ref nt, .ref as, .ref (n + 8), .ref n, .ref od, .ref sn, .int 0, .int 0, .int 0, .int 0])) = h6 at hF hf hn hs ⊢
  refine ar_iconst 115 (v := 0) d_0_114 rfl (by decide) ?_
  refine ar_istore 117 [(0, .ref s0), (1, .int x1), (2, .int x2), (3, .int x3), (4, .int 0)] d_0_115 rfl (by decide) rfl ?_
  have ef : (fun j => if j < 0 then some (n + 9 + 22 * j) else none) = (fun _ : Nat => (none : Option Nat)) := by
    funext j
    exact if_neg (by omega)
  rw [← ef] at hF
  replace hN := hN.fr hf (by intro x hx hB; simp at hB; subst hB; exact hA_s0 hx)
  refine lp_0X (h0 := h6) (b0 := n + 9) (na := n + 8) (sl0 := sl + 4989 + nn) hfr hlo hgg hg1 hnn hp hpl hntw (by omega) (by omega) hA_rk hA_o hA_s0 hA_as (fun z => by rcases z with z | z <;> omega) (by omega) (fun h' ids ms j1 j2 j3 j4 j5 j6 j7 => ?_) nn 0 (Nat.zero_add nn) h6 (n + 9) (sl + 4989 + nn) [] [] rfl (by omega) (by omega) (by omega) (hF.sub [0, 1, 2, 3, 12] rfl rfl) hN (by rw [if_neg (Nat.not_lt_zero p)]; rfl) (fun j hj => by omega) ax_fr.rf
  have hT := (hF.sub (F' := [(n, .inr (6, [.int (nI gg), .ref (n + 1), .ref (n + 2), .ref (n + 3), .ref (n + 4), .ref (n + 5), .ref (n + 6), .ref (n + 7), .long 0, .int 0, .int 0])), (n + 1, .inl (0, 48, .inl (ax_fill (fun _ => 0) 0 48 (-1)))), (n + 2, .inl (0, 48, .inl (ax_fill (fun _ => 0) 0 48 0))), (n + 3, .inl (0, 48, .inl (fun _ => 0))), (n + 4, .inl (0, 2400, .inl (fun _ => 0))), (n + 5, .inl (0, 512, .inl (ax_fill (fun _ => 0) 0 512 (-1)))), (n + 6, .inl (0, 961, .inl (ax_fill (fun _ => 0) 0 961 (-1)))), (n + 7, .inl (0, 961, .inl (ax_fill (fun _ => 0) 0 961 0)))]) [4, 5, 6, 7, 8, 9, 10, 11] rfl rfl).fr j5 (by intro x hx; simp only [List.mem_cons, List.not_mem_nil, or_false] at hx; rcases hx with rfl | rfl | rfl | rfl | rfl | rfl | rfl | rfl <;> (intro z; rcases z with z | z; rcases z with z | z <;> (dsimp only at z; omega); dsimp only at z; omega))
  have hF9 : ax_hs h' [(s0, .inr (0, [.ref rk, .ref nt, .ref as, .ref (n + 8), .ref n, .ref od, .ref sn, .int 0, .int 0, .int 0, .int 0])), (rk, .inr (3, [.int (nI nn), .int C, .int (nI gg), .ref o])), (o, .inl (0, gg * nn, .inl f)), (as, .inr (4, [.ref rk, .ref nt, .ref b1, .int 0, .ref b2, .ref b3, .ref b4, .ref b5, .int 0, .int 0, .int 0, .int 0, .int (-1), .int 1, .int (allN nn), .int (allN nn)])), (n + 8, .inl (5, nn, .inr (.inr (.inr (.inr (fun j => if j < nn then some (n + 9 + 22 * j) else none)))))), (n, .inr (6, [.int (nI gg), .ref (n + 1), .ref (n + 2), .ref (n + 3), .ref (n + 4), .ref (n + 5), .ref (n + 6), .ref (n + 7), .long 0, .int 0, .int 0])), (n + 1, .inl (0, 48, .inl (ax_fill (fun _ => 0) 0 48 (-1)))), (n + 2, .inl (0, 48, .inl (ax_fill (fun _ => 0) 0 48 0))), (n + 3, .inl (0, 48, .inl (fun _ => 0))), (n + 4, .inl (0, 2400, .inl (fun _ => 0))), (n + 5, .inl (0, 512, .inl (ax_fill (fun _ => 0) 0 512 (-1)))), (n + 6, .inl (0, 961, .inl (ax_fill (fun _ => 0) 0 961 (-1)))), (n + 7, .inl (0, 961, .inl (ax_fill (fun _ => 0) 0 961 0)))] := j1.app hT (by intro i j p q hp hq e; exact ax_hs.apartA hF [0, 1, 2, 3, 12] [4, 5, 6, 7, 8, 9, 10, 11] (by decide) (As := [s0, rk, o, as, n + 8]) (Bs := [n, n + 1, n + 2, n + 3, n + 4, n + 5, n + 6, n + 7]) rfl rfl p.1 (by have := List.mem_of_getElem? hp; simp only [List.mem_cons, List.not_mem_nil, or_false] at this; rcases this with rfl | rfl | rfl | rfl | rfl <;> simp) (by rw [e]; have := List.mem_of_getElem? hq; simp only [List.mem_cons, List.not_mem_nil, or_false] at this; rcases this with rfl | rfl | rfl | rfl | rfl | rfl | rfl | rfl <;> simp))
  rw [if_pos hp] at j3
  exact kk h' ids ms hF9 j2 j3 j4 (by omega) (by omega) ((hf.mono (fun x hx => Or.inr hx)).trC j5 (fun x hx hB => by rcases hB with hB | hB; exact Or.inl hB; omega))

set_option maxRecDepth 100000 in
theorem ph_BX {L : Nat} {xs : Nat → Int32} {fr lo s0 nt w n sl : Nat} {x1 x2 x3 : Int32} {u b : Nat → Int32} {h : ax_H} {post : ax_Po} (hfr : 6 ≤ fr) (hlo : 130 ≤ lo) (hntw : nt < w) (hwb : w + 261 ≤ n) (hA_s0 : ¬ NTA nt w s0) (hs0 : s0 < n)
    (hF : ax_hs h [(s0, .inr (0, [.null, .null, .null, .null, .null, .null, .null, .int 0, .int 0, .int 0, .int 0]))]) (hN : NTL h nt w [] [] 0 u b) (hn : h.1 = n) (hs : h.2.1 = sl) (kk : (∀ (h' : ax_H) (nn gg cc p : Nat) (f : Nat → Int32) (ids : List Nat) (ms : List Mg), (3 ≤ nn ∧ nn ≤ 6 ∧ clI x1 3 6 = nI nn) → (2 ≤ cc ∧ cc ≤ 3 ∧ clI x2 2 3 = nI cc) → (1 ≤ gg ∧ gg ≤ 16 ∧ clI x3 1 16 = nI gg) → (p < nn ∧ f 0 = nI p ∧ nof f 0 (allN nn) nn 0 0 = nI p ∧ (Rg nn f ∧ RwA nn gg f)) → ax_hs h' [(s0, .inr (0, [.ref (n + 2), .ref nt, .ref (n + 4), .ref (n + 66), .ref (n + 58), .ref n, .ref (n + 1), .int 0, .int 0, .int 0, .int 0])), (n + 2, .inr (3, [.int (nI nn), .int (nI cc), .int (nI gg), .ref (n + 3)])), (n + 3, .inl (0, gg * nn, .inl f)), (n + 4, .inr (4, [.ref (n + 2), .ref nt, .ref (n + 5), .int 0, .ref (n + 6), .ref (n + 7), .ref (n + 8), .ref (n + 9), .int 0, .int 0, .int 0, .int 0, .int (-1), .int 1, .int (allN nn), .int (allN nn)])), (n + 66, .inl (5, nn, .inr (.inr (.inr (.inr (fun j => if j < nn then some (n + 67 + 22 * j) else none)))))), (n + 58, .inr (6, [.int (nI gg), .ref (n + 59), .ref (n + 60), .ref (n + 61), .ref (n + 62), .ref (n + 63), .ref (n + 64), .ref (n + 65), .long 0, .int 0, .int 0])), (n + 59, .inl (0, 48, .inl (ax_fill (fun _ => 0) 0 48 (-1)))), (n + 60, .inl (0, 48, .inl (ax_fill (fun _ => 0) 0 48 0))), (n + 61, .inl (0, 48, .inl (fun _ => 0))), (n + 62, .inl (0, 2400, .inl (fun _ => 0))), (n + 63, .inl (0, 512, .inl (ax_fill (fun _ => 0) 0 512 (-1)))), (n + 64, .inl (0, 961, .inl (ax_fill (fun _ => 0) 0 961 (-1)))), (n + 65, .inl (0, 961, .inl (ax_fill (fun _ => 0) 0 961 0))), (n, .inl (0, 48, .inl (fun _ => 0))), (n + 1, .inl (0, 961, .inl (fun _ => 0))), (n + 5, .inl (0, 512, .inl (fun _ => 0))), (n + 6, .inl (0, 100, .inl (fun _ => 0))), (n + 7, .inl (0, 2, .inl (fun _ => 0))), (n + 8, .inl (4, 24, .inr (.inr (.inr (.inr (fun j => if j < 24 then some (n + 10 + 2 * j) else none)))))), (n + 9, .inl (0, 512, .inl (fun _ => 0)))] → (∀ j, j < 24 → ak_at h' (n + 10 + 2 * j)) → NTL h' nt w ids ms 0 u b → ms.map (·.1) = LST p nn 1 (allN nn) → (∀ j, j < nn → ∃ fm, (j = p → MkE nn gg (nI cc) f (allN nn) fm) ∧ ax_hs h' (QN (n + 67 + 22 * j) (n + 2) nt (nI gg) (nI j) 1 1 (allN nn) (if j = p then 1 else 0) (if j = p then allN nn else 0) 0 0 0 0 0 fm)) → h'.1 = n + 67 + 22 * nn → h'.2.1 = sl + 22048 + gg * nn + nn + 47629 * nn → ax_fr (fun x => NTA nt w x ∨ x ∈ [s0]) h h' → post none h')) : ax_A (ax_step L xs) ((0, 12, fr, lo), [(0, .ref s0), (1, .int x1), (2, .int x2), (3, .int x3)], [.ref nt, .ref s0], h) post := by
  have hn0 : 0 < n := by omega
  obtain ⟨nn, u1, u2, u3⟩ := clI_k (a := 3) (b := 6) x1 (by decide) (by decide)
  obtain ⟨cc, v1, v2, v3⟩ := clI_k (a := 2) (b := 3) x2 (by decide) (by decide)
  obtain ⟨gg, w1, w2, w3⟩ := clI_k (a := 1) (b := 16) x3 (by decide) (by decide)
  have hbase : h.1 = n := hn
  have hbasl : h.2.1 = sl := hs
  have hf : ax_fr (fun x => x ∈ [s0]) h h := ax_fr.rf
  refine ar_putf 15 [.null, .ref nt, .null, .null, .null, .null, .null, .int 0, .int 0, .int 0, .int 0] d_0_12 rfl (ci := 0) (k := 1) rfl (by decide +kernel) (hF.at 0 rfl) (Nat.le_of_ble_eq_true rfl) rfl rfl rfl ?_
  replace hF : ax_hs (ax_put h s0 (.inr (0, [.null, .ref nt, .null, .null, .null, .null, .null, .int 0, .int 0, .int 0, .int 0]))) [(s0, .inr (0, [.null, .ref nt, .null, .null, .null, .null, .null, .int 0, .int 0, .int 0, .int 0]))] := hF.put 0 _ rfl rfl
  replace hf := hf.put (a := s0) (c := .inr (0, [.null, .ref nt, .null, .null, .null, .null, .null, .int 0, .int 0, .int 0, .int 0])) (by simp)
  replace hn : (ax_put h s0 (.inr (0, [.null, .ref nt, .null, .null, .null, .null, .null, .int 0, .int 0, .int 0, .int 0]))).1 = n := hn
  replace hs : (ax_put h s0 (.inr (0, [.null, .ref nt, .null, .null, .null, .null, .null, .int 0, .int 0, .int 0, .int 0]))).2.1 = sl := hs
  generalize ax_put h s0 (.inr (0, [.null, .ref nt, .null, .null, .null, .null, .null, .int 0, .int 0, .int 0, .int 0])) = h1 at hF hf hn hs ⊢
  refine ar_aload_n 16 d_0_15 rfl rfl ?_
  refine ar_bipush 18 (v := 48) d_0_16 rfl (by decide) ?_
  refine ar_newi 20 d_0_18 rfl (by decide) (N := 48) (by decide) (by decide) ?_
  rw [hn]
  replace hF : ax_hs (ax_push h1 48 (.inl (0, 48, .inl (fun _ => 0)))) [(s0, .inr (0, [.null, .ref nt, .null, .null, .null, .null, .null, .int 0, .int 0, .int 0, .int 0])), (n, .inl (0, 48, .inl (fun _ => 0)))] := hF.push (by omega) 48 _ (by rw [hn]; rfl)
  replace hf := hf.push (n := 48) (c := .inl (0, 48, .inl (fun _ => 0)))
  replace hn : (ax_push h1 48 (.inl (0, 48, .inl (fun _ => 0)))).1 = n + 1 := by show h1.1 + 1 = _; rw [hn]
  replace hs : (ax_push h1 48 (.inl (0, 48, .inl (fun _ => 0)))).2.1 = sl + 48 := by show h1.2.1 + 48 = _; omega
  generalize ax_push h1 48 (.inl (0, 48, .inl (fun _ => 0))) = h2 at hF hf hn hs ⊢
  refine ar_putf 23 [.null, .ref nt, .null, .null, .null, .ref n, .null, .int 0, .int 0, .int 0, .int 0] d_0_20 rfl (ci := 0) (k := 5) rfl (by decide +kernel) (hF.at 0 rfl) (Nat.le_of_ble_eq_true rfl) rfl rfl rfl ?_
  replace hF : ax_hs (ax_put h2 s0 (.inr (0, [.null, .ref nt, .null, .null, .null, .ref n, .null, .int 0, .int 0, .int 0, .int 0]))) [(s0, .inr (0, [.null, .ref nt, .null, .null, .null, .ref n, .null, .int 0, .int 0, .int 0, .int 0])), (n, .inl (0, 48, .inl (fun _ => 0)))] := hF.put 0 _ rfl rfl
  replace hf := hf.put (a := s0) (c := .inr (0, [.null, .ref nt, .null, .null, .null, .ref n, .null, .int 0, .int 0, .int 0, .int 0])) (by simp)
  replace hn : (ax_put h2 s0 (.inr (0, [.null, .ref nt, .null, .null, .null, .ref n, .null, .int 0, .int 0, .int 0, .int 0]))).1 = n + 1 := hn
  replace hs : (ax_put h2 s0 (.inr (0, [.null, .ref nt, .null, .null, .null, .ref n, .null, .int 0, .int 0, .int 0, .int 0]))).2.1 = sl + 48 := hs
  generalize ax_put h2 s0 (.inr (0, [.null, .ref nt, .null, .null, .null, .ref n, .null, .int 0, .int 0, .int 0, .int 0])) = h3 at hF hf hn hs ⊢
  refine ar_aload_n 24 d_0_23 rfl rfl ?_
  refine ar_sipush 27 (v := 961) d_0_24 rfl (by decide) ?_
  refine ar_newi 29 d_0_27 rfl (by decide) (N := 961) (by decide) (by decide) ?_
  rw [hn]
  replace hF : ax_hs (ax_push h3 961 (.inl (0, 961, .inl (fun _ => 0)))) [(s0, .inr (0, [.null, .ref nt, .null, .null, .null, .ref n, .null, .int 0, .int 0, .int 0, .int 0])), (n, .inl (0, 48, .inl (fun _ => 0))), (n + 1, .inl (0, 961, .inl (fun _ => 0)))] := hF.push (by omega) 961 _ (by rw [hn]; rfl)
  replace hf := hf.push (n := 961) (c := .inl (0, 961, .inl (fun _ => 0)))
  replace hn : (ax_push h3 961 (.inl (0, 961, .inl (fun _ => 0)))).1 = n + 2 := by show h3.1 + 1 = _; rw [hn]
  replace hs : (ax_push h3 961 (.inl (0, 961, .inl (fun _ => 0)))).2.1 = sl + 1009 := by show h3.2.1 + 961 = _; omega
  generalize ax_push h3 961 (.inl (0, 961, .inl (fun _ => 0))) = h4 at hF hf hn hs ⊢
  refine ar_putf 32 [.null, .ref nt, .null, .null, .null, .ref n, .ref (n + 1), .int 0, .int 0, .int 0, .int 0] d_0_29 rfl (ci := 0) (k := 6) rfl (by decide +kernel) (hF.at 0 rfl) (Nat.le_of_ble_eq_true rfl) rfl rfl rfl ?_
  replace hF : ax_hs (ax_put h4 s0 (.inr (0, [.null, .ref nt, .null, .null, .null, .ref n, .ref (n + 1), .int 0, .int 0, .int 0, .int 0]))) [(s0, .inr (0, [.null, .ref nt, .null, .null, .null, .ref n, .ref (n + 1), .int 0, .int 0, .int 0, .int 0])), (n, .inl (0, 48, .inl (fun _ => 0))), (n + 1, .inl (0, 961, .inl (fun _ => 0)))] := hF.put 0 _ rfl rfl
  replace hf := hf.put (a := s0) (c := .inr (0, [.null, .ref nt, .null, .null, .null, .ref n, .ref (n + 1), .int 0, .int 0, .int 0, .int 0])) (by simp)
  replace hn : (ax_put h4 s0 (.inr (0, [.null, .ref nt, .null, .null, .null, .ref n, .ref (n + 1), .int 0, .int 0, .int 0, .int 0]))).1 = n + 2 := hn
  replace hs : (ax_put h4 s0 (.inr (0, [.null, .ref nt, .null, .null, .null, .ref n, .ref (n + 1), .int 0, .int 0, .int 0, .int 0]))).2.1 = sl + 1009 := hs
  generalize ax_put h4 s0 (.inr (0, [.null, .ref nt, .null, .null, .null, .ref n, .ref (n + 1), .int 0, .int 0, .int 0, .int 0])) = h5 at hF hf hn hs ⊢
  refine ar_aload_n 33 d_0_32 rfl rfl ?_
  refine ar_new 36 d_0_33 rfl (ci := 3) rfl ?_
  rw [hn]
  refine ar_heap (h' := ax_push h5 4 (.inr (3, [.int 0, .int 0, .int 0, .null]))) rfl ?_
  replace hF : ax_hs (ax_push h5 4 (.inr (3, [.int 0, .int 0, .int 0, .null]))) [(s0, .inr (0, [.null, .ref nt, .null, .null, .null, .ref n, .ref (n + 1), .int 0, .int 0, .int 0, .int 0])), (n, .inl (0, 48, .inl (fun _ => 0))), (n + 1, .inl (0, 961, .inl (fun _ => 0))), (n + 2, .inr (3, [.int 0, .int 0, .int 0, .null]))] := hF.push (by omega) 4 _ (by rw [hn]; rfl)
  replace hf := hf.push (n := 4) (c := .inr (3, [.int 0, .int 0, .int 0, .null]))
  replace hn : (ax_push h5 4 (.inr (3, [.int 0, .int 0, .int 0, .null]))).1 = n + 3 := by show h5.1 + 1 = _; rw [hn]
  replace hs : (ax_push h5 4 (.inr (3, [.int 0, .int 0, .int 0, .null]))).2.1 = sl + 1013 := by show h5.2.1 + 4 = _; omega
  generalize ax_push h5 4 (.inr (3, [.int 0, .int 0, .int 0, .null])) = h6 at hF hf hn hs ⊢
  refine ar_dup 37 d_0_36 rfl rfl ?_
  refine ar_iload_n 38 d_0_37 rfl rfl ?_
  refine ar_iconst 39 (v := 3) d_0_38 rfl (by decide) ?_
  refine ar_bipush 41 (v := 6) d_0_39 rfl (by decide) ?_
  refine ar_call (r := [.ref (n + 2), .ref (n + 2), .ref s0]) (na := 0) (kd := 0) (cm := 4) (fr2 := fr - 1) (lo2 := lo - 22) 44 d_0_41 (ar_hoS (as := [.int x1, .int 3, .int 6]) rfl rfl rfl) rfl (by omega) (show lo - 22 + (19 + 3) = lo by omega) (Nat.le_of_ble_eq_true rfl) (Nat.le_of_ble_eq_true rfl) (c_4 (by omega) (by omega)) ?_
  intro v hh hq
  obtain ⟨rfl, ehh⟩ := hq
  rw [ehh]
  clear ehh
  refine ar_top (x' := nI nn) u3 ?_
  refine ar_iload_n 45 d_0_44 rfl rfl ?_
  refine ar_iconst 46 (v := 2) d_0_45 rfl (by decide) ?_
  refine ar_iconst 47 (v := 3) d_0_46 rfl (by decide) ?_
  refine ar_call (r := [.int (nI nn), .ref (n + 2), .ref (n + 2), .ref s0]) (na := 0) (kd := 0) (cm := 4) (fr2 := fr - 1) (lo2 := lo - 22) 50 d_0_47 (ar_hoS (as := [.int x2, .int 2, .int 3]) rfl rfl rfl) rfl (by omega) (show lo - 22 + (19 + 3) = lo by omega) (Nat.le_of_ble_eq_true rfl) (Nat.le_of_ble_eq_true rfl) (c_4 (by omega) (by omega)) ?_
  intro v hh hq
  obtain ⟨rfl, ehh⟩ := hq
  rw [ehh]
  clear ehh
  refine ar_top (x' := nI cc) v3 ?_
  refine ar_iload_n 51 d_0_50 rfl rfl ?_
  refine ar_iconst 52 (v := 1) d_0_51 rfl (by decide) ?_
  refine ar_bipush 54 (v := 16) d_0_52 rfl (by decide) ?_
  refine ar_call (r := [.int (nI cc), .int (nI nn), .ref (n + 2), .ref (n + 2), .ref s0]) (na := 0) (kd := 0) (cm := 4) (fr2 := fr - 1) (lo2 := lo - 22) 57 d_0_54 (ar_hoS (as := [.int x3, .int 1, .int 16]) rfl rfl rfl) rfl (by omega) (show lo - 22 + (19 + 3) = lo by omega) (Nat.le_of_ble_eq_true rfl) (Nat.le_of_ble_eq_true rfl) (c_4 (by omega) (by omega)) ?_
  intro v hh hq
  obtain ⟨rfl, ehh⟩ := hq
  rw [ehh]
  clear ehh
  refine ar_top (x' := nI gg) w3 ?_
  refine ar_call (r := [.ref (n + 2), .ref s0]) (na := 0) (kd := 0) (cm := 7) (fr2 := fr - 1) (lo2 := lo - 26) 60 d_0_57 (ar_hoI (as := [.int (nI nn), .int (nI cc), .int (nI gg)]) rfl rfl rfl) rfl (by omega) (show lo - 26 + (19 + 7) = lo by omega) (Nat.le_of_ble_eq_true rfl) (Nat.le_of_ble_eq_true rfl) (c_7X (by omega) (by omega) w2 u2 (by omega) (hF.sub (F' := [(n + 2, .inr (3, [.int 0, .int 0, .int 0, .null]))]) [3] rfl rfl) hn hs (by omega)) ?_
  intro v h7 hq
  obtain ⟨f, rfl, qF, hRg, qn, qs, qf⟩ := hq
  have qF : ax_hs h7 [(n + 2, .inr (3, [.int (nI nn), .int (nI cc), .int (nI gg), .ref (n + 3)])), (n + 3, .inl (0, gg * nn, .inl f))] := qF
  replace hF : ax_hs h7 [(s0, .inr (0, [.null, .ref nt, .null, .null, .null, .ref n, .ref (n + 1), .int 0, .int 0, .int 0, .int 0])), (n, .inl (0, 48, .inl (fun _ => 0))), (n + 1, .inl (0, 961, .inl (fun _ => 0))), (n + 2, .inr (3, [.int (nI nn), .int (nI cc), .int (nI gg), .ref (n + 3)])), (n + 3, .inl (0, gg * nn, .inl f))] := ax_hs.call (rest := [(s0, .inr (0, [.null, .ref nt, .null, .null, .null, .ref n, .ref (n + 1), .int 0, .int 0, .int 0, .int 0])), (n, .inl (0, 48, .inl (fun _ => 0))), (n + 1, .inl (0, 961, .inl (fun _ => 0)))]) [3] [0, 1, 2] hF qf qF rfl rfl rfl [3] rfl rfl [3] (news := [n + 3]) rfl rfl (by rw [hn]; simp; try omega) rfl
  replace hf := hf.trC qf (by intro x hx hB; simp at hB; first | (rcases hB with rfl <;> first | omega | simp) | omega | simp [hB])
  replace hn : h7.1 = n + 4 := by omega
  replace hs : h7.2.1 = sl + 1013 + gg * nn := by omega
  have qf0 := qf
  clear qF qn qs qf
  obtain ⟨p, hp, hf0, hpl⟩ := nof_all hRg.1 (by omega) u2
  refine ar_putf 63 [.ref (n + 2), .ref nt, .null, .null, .null, .ref n, .ref (n + 1), .int 0, .int 0, .int 0, .int 0] d_0_60 rfl (ci := 0) (k := 0) rfl (by decide +kernel) (hF.at 0 rfl) (Nat.le_of_ble_eq_true rfl) rfl rfl rfl ?_
  replace hF : ax_hs (ax_put h7 s0 (.inr (0, [.ref (n + 2), .ref nt, .null, .null, .null, .ref n, .ref (n + 1), .int 0, .int 0, .int 0, .int 0]))) [(s0, .inr (0, [.ref (n + 2), .ref nt, .null, .null, .null, .ref n, .ref (n + 1), .int 0, .int 0, .int 0, .int 0])), (n, .inl (0, 48, .inl (fun _ => 0))), (n + 1, .inl (0, 961, .inl (fun _ => 0))), (n + 2, .inr (3, [.int (nI nn), .int (nI cc), .int (nI gg), .ref (n + 3)])), (n + 3, .inl (0, gg * nn, .inl f))] := hF.put 0 _ rfl rfl
  replace hf := hf.put (a := s0) (c := .inr (0, [.ref (n + 2), .ref nt, .null, .null, .null, .ref n, .ref (n + 1), .int 0, .int 0, .int 0, .int 0])) (by simp)
  replace hn : (ax_put h7 s0 (.inr (0, [.ref (n + 2), .ref nt, .null, .null, .null, .ref n, .ref (n + 1), .int 0, .int 0, .int 0, .int 0]))).1 = n + 4 := hn
  replace hs : (ax_put h7 s0 (.inr (0, [.ref (n + 2), .ref nt, .null, .null, .null, .ref n, .ref (n + 1), .int 0, .int 0, .int 0, .int 0]))).2.1 = sl + 1013 + gg * nn := hs
  generalize ax_put h7 s0 (.inr (0, [.ref (n + 2), .ref nt, .null, .null, .null, .ref n, .ref (n + 1), .int 0, .int 0, .int 0, .int 0])) = h8 at hF hf hn hs ⊢
  refine ar_aload_n 64 d_0_63 rfl rfl ?_
  refine ar_new 67 d_0_64 rfl (ci := 4) rfl ?_
  rw [hn]
  refine ar_heap (h' := ax_push h8 16 (.inr (4, [.null, .null, .null, .int 0, .null, .null, .null, .null, .int 0, .int 0, .int 0, .int 0, .int 0, .int 0, .int 0, .int 0]))) rfl ?_
  replace hF : ax_hs (ax_push h8 16 (.inr (4, [.null, .null, .null, .int 0, .null, .null, .null, .null, .int 0, .int 0, .int 0, .int 0, .int 0, .int 0, .int 0, .int 0]))) [(s0, .inr (0, [.ref (n + 2), .ref nt, .null, .null, .null, .ref n, .ref (n + 1), .int 0, .int 0, .int 0, .int 0])), (n, .inl (0, 48, .inl (fun _ => 0))), (n + 1, .inl (0, 961, .inl (fun _ => 0))), (n + 2, .inr (3, [.int (nI nn), .int (nI cc), .int (nI gg), .ref (n + 3)])), (n + 3, .inl (0, gg * nn, .inl f)), (n + 4, .inr (4, [.null, .null, .null, .int 0, .null, .null, .null, .null, .int 0, .int 0, .int 0, .int 0, .int 0, .int 0, .int 0, .int 0]))] := hF.push (by omega) 16 _ (by rw [hn]; rfl)
  replace hf := hf.push (n := 16) (c := .inr (4, [.null, .null, .null, .int 0, .null, .null, .null, .null, .int 0, .int 0, .int 0, .int 0, .int 0, .int 0, .int 0, .int 0]))
  replace hn : (ax_push h8 16 (.inr (4, [.null, .null, .null, .int 0, .null, .null, .null, .null, .int 0, .int 0, .int 0, .int 0, .int 0, .int 0, .int 0, .int 0]))).1 = n + 5 := by show h8.1 + 1 = _; rw [hn]
  replace hs : (ax_push h8 16 (.inr (4, [.null, .null, .null, .int 0, .null, .null, .null, .null, .int 0, .int 0, .int 0, .int 0, .int 0, .int 0, .int 0, .int 0]))).2.1 = sl + 1029 + gg * nn := by show h8.2.1 + 16 = _; omega
  generalize ax_push h8 16 (.inr (4, [.null, .null, .null, .int 0, .null, .null, .null, .null, .int 0, .int 0, .int 0, .int 0, .int 0, .int 0, .int 0, .int 0])) = h9 at hF hf hn hs ⊢
  refine ar_dup 68 d_0_67 rfl rfl ?_
  refine ar_aload_n 69 d_0_68 rfl rfl ?_
  refine ar_getf 72 d_0_69 rfl (ci := 0) (k := 0) rfl (hF.at 0 rfl) rfl ?_
  refine ar_aload_n 73 d_0_72 rfl rfl ?_
  refine ar_getf 76 d_0_73 rfl (ci := 0) (k := 1) rfl (hF.at 0 rfl) rfl ?_
  refine ar_call (r := [.ref (n + 4), .ref s0]) (na := 0) (kd := 0) (cm := 9) (fr2 := fr - 1) (lo2 := lo - 23) 79 d_0_76 (ar_hoI (as := [.ref (n + 2), .ref nt]) rfl rfl rfl) rfl (by omega) (show lo - 23 + (19 + 4) = lo by omega) (Nat.le_of_ble_eq_true rfl) (Nat.le_of_ble_eq_true rfl) (c_9 (by omega) (by omega) (hF.sub (F' := [(n + 4, .inr (4, [.null, .null, .null, .int 0, .null, .null, .null, .null, .int 0, .int 0, .int 0, .int 0, .int 0, .int 0, .int 0, .int 0])), (n + 2, .inr (3, [.int (nI nn), .int (nI cc), .int (nI gg), .ref (n + 3)]))]) [5, 3] rfl rfl) hn hs (by omega)) ?_
  intro v h10 hq
  obtain ⟨rfl, qF, hak, qn, qs, qf⟩ := hq
  have qF : ax_hs h10 [(n + 4, .inr (4, [.ref (n + 2), .ref nt, .ref (n + 5), .int 0, .ref (n + 6), .ref (n + 7), .ref (n + 8), .ref (n + 9), .int 0, .int 0, .int 0, .int 0, .int (-1), .int 1, .int (allN nn), .int (allN nn)])), (n + 2, .inr (3, [.int (nI nn), .int (nI cc), .int (nI gg), .ref (n + 3)])), (n + 5, .inl (0, 512, .inl (fun _ => 0))), (n + 6, .inl (0, 100, .inl (fun _ => 0))), (n + 7, .inl (0, 2, .inl (fun _ => 0))), (n + 8, .inl (4, 24, .inr (.inr (.inr (.inr (fun j => if j < 24 then some (n + 10 + 2 * j) else none)))))), (n + 9, .inl (0, 512, .inl (fun _ => 0)))] := qF
  replace hF : ax_hs h10 [(s0, .inr (0, [.ref (n + 2), .ref nt, .null, .null, .null, .ref n, .ref (n + 1), .int 0, .int 0, .int 0, .int 0])), (n, .inl (0, 48, .inl (fun _ => 0))), (n + 1, .inl (0, 961, .inl (fun _ => 0))), (n + 3, .inl (0, gg * nn, .inl f)), (n + 4, .inr (4, [.ref (n + 2), .ref nt, .ref (n + 5), .int 0, .ref (n + 6), .ref (n + 7), .ref (n + 8), .ref (n + 9), .int 0, .int 0, .int 0, .int 0, .int (-1), .int 1, .int (allN nn), .int (allN nn)])), (n + 2, .inr (3, [.int (nI nn), .int (nI cc), .int (nI gg), .ref (n + 3)])), (n + 5, .inl (0, 512, .inl (fun _ => 0))), (n + 6, .inl (0, 100, .inl (fun _ => 0))), (n + 7, .inl (0, 2, .inl (fun _ => 0))), (n + 8, .inl (4, 24, .inr (.inr (.inr (.inr (fun j => if j < 24 then some (n + 10 + 2 * j) else none)))))), (n + 9, .inl (0, 512, .inl (fun _ => 0)))] := ax_hs.call (rest := [(s0, .inr (0, [.ref (n + 2), .ref nt, .null, .null, .null, .ref n, .ref (n + 1), .int 0, .int 0, .int 0, .int 0])), (n, .inl (0, 48, .inl (fun _ => 0))), (n + 1, .inl (0, 961, .inl (fun _ => 0))), (n + 3, .inl (0, gg * nn, .inl f))]) [5, 3] [0, 1, 2, 4] hF qf qF rfl rfl rfl [5] rfl rfl [5, 3] (news := [n + 5, n + 6, n + 7, n + 8, n + 9]) rfl rfl (by rw [hn]; simp; try omega) rfl
  replace hf := hf.trC qf (by intro x hx hB; simp at hB; first | (rcases hB with rfl <;> first | omega | simp) | omega | simp [hB])
  replace hn : h10.1 = n + 58 := by omega
  replace hs : h10.2.1 = sl + 17059 + gg * nn := by omega
  have qf0 := qf
  clear qF qn qs qf
  replace hN := hN.fr hf (by intro x hx hB; simp at hB; subst hB; exact hA_s0 hx)
  have hA : ∀ x, n ≤ x → ¬ NTA nt w x := fun x hx z => by
    rcases z with z | z <;> omega
  refine ph_CX (n := n + 58) hfr hlo w2 (by omega) u2 (by omega) hp hpl hntw (by omega) (hA _ (by omega)) (hA _ (by omega)) hA_s0 (hA _ (by omega)) (hF.sub [0, 5, 3, 4] rfl rfl) hN hn hs (fun h' ids ms j1 j2 j3 j4 j5 j6 j7 => ?_)
  have hR := (hF.sub (F' := [(n, .inl (0, 48, .inl (fun _ => 0))), (n + 1, .inl (0, 961, .inl (fun _ => 0))), (n + 5, .inl (0, 512, .inl (fun _ => 0))), (n + 6, .inl (0, 100, .inl (fun _ => 0))), (n + 7, .inl (0, 2, .inl (fun _ => 0))), (n + 8, .inl (4, 24, .inr (.inr (.inr (.inr (fun j => if j < 24 then some (n + 10 + 2 * j) else none)))))), (n + 9, .inl (0, 512, .inl (fun _ => 0)))]) [1, 2, 6, 7, 8, 9, 10] rfl rfl).fr j7 (by intro x hx; simp only [List.mem_cons, List.not_mem_nil, or_false] at hx; rcases hx with rfl | rfl | rfl | rfl | rfl | rfl | rfl <;> (intro z; rcases z with z | z; exact hA _ (by dsimp only; omega) z; simp at z; omega))
  have j1 : ax_hs h' [(s0, .inr (0, [.ref (n + 2), .ref nt, .ref (n + 4), .ref (n + 66), .ref (n + 58), .ref n, .ref (n + 1), .int 0, .int 0, .int 0, .int 0])), (n + 2, .inr (3, [.int (nI nn), .int (nI cc), .int (nI gg), .ref (n + 3)])), (n + 3, .inl (0, gg * nn, .inl f)), (n + 4, .inr (4, [.ref (n + 2), .ref nt, .ref (n + 5), .int 0, .ref (n + 6), .ref (n + 7), .ref (n + 8), .ref (n + 9), .int 0, .int 0, .int 0, .int 0, .int (-1), .int 1, .int (allN nn), .int (allN nn)])), (n + 66, .inl (5, nn, .inr (.inr (.inr (.inr (fun j => if j < nn then some (n + 67 + 22 * j) else none)))))), (n + 58, .inr (6, [.int (nI gg), .ref (n + 59), .ref (n + 60), .ref (n + 61), .ref (n + 62), .ref (n + 63), .ref (n + 64), .ref (n + 65), .long 0, .int 0, .int 0])), (n + 59, .inl (0, 48, .inl (ax_fill (fun _ => 0) 0 48 (-1)))), (n + 60, .inl (0, 48, .inl (ax_fill (fun _ => 0) 0 48 0))), (n + 61, .inl (0, 48, .inl (fun _ => 0))), (n + 62, .inl (0, 2400, .inl (fun _ => 0))), (n + 63, .inl (0, 512, .inl (ax_fill (fun _ => 0) 0 512 (-1)))), (n + 64, .inl (0, 961, .inl (ax_fill (fun _ => 0) 0 961 (-1)))), (n + 65, .inl (0, 961, .inl (ax_fill (fun _ => 0) 0 961 0)))] := j1
  have hF9 : ax_hs h' [(s0, .inr (0, [.ref (n + 2), .ref nt, .ref (n + 4), .ref (n + 66), .ref (n + 58), .ref n, .ref (n + 1), .int 0, .int 0, .int 0, .int 0])), (n + 2, .inr (3, [.int (nI nn), .int (nI cc), .int (nI gg), .ref (n + 3)])), (n + 3, .inl (0, gg * nn, .inl f)), (n + 4, .inr (4, [.ref (n + 2), .ref nt, .ref (n + 5), .int 0, .ref (n + 6), .ref (n + 7), .ref (n + 8), .ref (n + 9), .int 0, .int 0, .int 0, .int 0, .int (-1), .int 1, .int (allN nn), .int (allN nn)])), (n + 66, .inl (5, nn, .inr (.inr (.inr (.inr (fun j => if j < nn then some (n + 67 + 22 * j) else none)))))), (n + 58, .inr (6, [.int (nI gg), .ref (n + 59), .ref (n + 60), .ref (n + 61), .ref (n + 62), .ref (n + 63), .ref (n + 64), .ref (n + 65), .long 0, .int 0, .int 0])), (n + 59, .inl (0, 48, .inl (ax_fill (fun _ => 0) 0 48 (-1)))), (n + 60, .inl (0, 48, .inl (ax_fill (fun _ => 0) 0 48 0))), (n + 61, .inl (0, 48, .inl (fun _ => 0))), (n + 62, .inl (0, 2400, .inl (fun _ => 0))), (n + 63, .inl (0, 512, .inl (ax_fill (fun _ => 0) 0 512 (-1)))), (n + 64, .inl (0, 961, .inl (ax_fill (fun _ => 0) 0 961 (-1)))), (n + 65, .inl (0, 961, .inl (ax_fill (fun _ => 0) 0 961 0))), (n, .inl (0, 48, .inl (fun _ => 0))), (n + 1, .inl (0, 961, .inl (fun _ => 0))), (n + 5, .inl (0, 512, .inl (fun _ => 0))), (n + 6, .inl (0, 100, .inl (fun _ => 0))), (n + 7, .inl (0, 2, .inl (fun _ => 0))), (n + 8, .inl (4, 24, .inr (.inr (.inr (.inr (fun j => if j < 24 then some (n + 10 + 2 * j) else none)))))), (n + 9, .inl (0, 512, .inl (fun _ => 0)))] := j1.app hR (by intro i j p q hp hq e; have h1 := List.mem_of_getElem? hp; have h2 := List.mem_of_getElem? hq; simp only [List.mem_cons, List.not_mem_nil, or_false] at h1 h2; rcases h1 with rfl | rfl | rfl | rfl | rfl | rfl | rfl | rfl | rfl | rfl | rfl | rfl | rfl <;> rcases h2 with rfl | rfl | rfl | rfl | rfl | rfl | rfl <;> (dsimp only at e; omega))
  exact kk h' nn gg cc p f ids ms ⟨u1, u2, u3⟩ ⟨v1, v2, v3⟩ ⟨w1, w2, w3⟩ ⟨hp, hf0, hpl, hRg⟩ hF9 (fun j hj => (hak j hj).fr j7 (fun z => z.elim (hA _ (by omega)) (fun z => by simp at z; omega)) (fun z => z.elim (hA _ (by omega)) (fun z => by simp at z; omega))) j2 j3 j4 (by omega) (by omega) ((hf.mono (fun x hx => Or.inr hx)).trC j7 (fun x _ hB => hB))
def FreshX (h : ax_H) (x1 x2 x3 : Int32) (s0 n nn gg cc p : Nat) (f : Nat → Int32) : Prop := (3 ≤ nn ∧ nn ≤ 6 ∧ clI x1 3 6 = nI nn) ∧ (2 ≤ cc ∧ cc ≤ 3 ∧ clI x2 2 3 = nI cc) ∧ (1 ≤ gg ∧ gg ≤ 16 ∧ clI x3 1 16 = nI gg) ∧ (p < nn ∧ f 0 = nI p ∧ nof f 0 (allN nn) nn 0 0 = nI p ∧ (Rg nn f ∧ RwA nn gg f)) ∧ s0 < n ∧ ax_hs h (SW s0 n nn gg cc f) ∧ (∀ j, j < 24 → ak_at h (n + 272 + 2 * j)) ∧ (∃ (ids : List Nat) (ms : List Mg), NTL h n (n + 1) ids ms 0 (fun _ => 0) (fun _ => 0) ∧ ms.map (·.1) = LST p nn 1 (allN nn)) ∧ ∀ j, j < nn → ∃ fm, (j = p → MkE nn gg (nI cc) f (allN nn) fm) ∧ ax_hs h (QN (n + 329 + 22 * j) (n + 264) n (nI gg) (nI j) 1 1 (allN nn) (if j = p then 1 else 0) (if j = p then allN nn else 0) 0 0 0 0 0 fm)
set_option maxRecDepth 100000 in
theorem c_0X {L : Nat} {xs : Nat → Int32} {fr lo s0 n sl : Nat} {x1 x2 x3 : Int32} {h : ax_H} (hfr : 6 ≤ fr) (hlo : 130 ≤ lo) (hF : ax_hs h [(s0, .inr (0, [.null, .null, .null, .null, .null, .null, .null, .int 0, .int 0, .int 0, .int 0]))]) (hn : h.1 = n) (hs : h.2.1 = sl) (hn0 : 0 < n) : ax_M L xs 0 fr lo [.ref s0, .int x1, .int x2, .int x3] h (fun r h' => ∃ nn gg cc p f, r = none ∧ FreshX h' x1 x2 x3 s0 n nn gg cc p f ∧ h'.1 = n + 329 + 22 * nn ∧ h'.2.1 = sl + 103560 + gg * nn + nn + 47629 * nn ∧ ax_fr (fun x => x ∈ [s0]) h h') := by
  have hs0 : s0 < n := by
    have := (ax_g_lt (hF.at 0 rfl)).2
    omega
  show ax_A (ax_step L xs) ((0, 0, fr, lo), [(0, .ref s0), (1, .int x1), (2, .int x2), (3, .int x3)], [], h) _
  have hbase : h.1 = n := hn
  have hbasl : h.2.1 = sl := hs
  have hf : ax_fr (fun x => x ∈ [s0]) h h := ax_fr.rf
  refine ar_aload_n 1 d_0_0 rfl rfl ?_
  refine ar_objI 4 d_0_1 rfl rfl (by omega) (by show 0 + 12 ≤ lo; omega) ?_
  refine ar_aload_n 5 d_0_4 rfl rfl ?_
  refine ar_new 8 d_0_5 rfl (ci := 1) rfl ?_
  rw [hn]
  refine ar_heap (h' := ax_push h 4 (.inr (1, [.null, .int 0, .null, .null]))) rfl ?_
  replace hF : ax_hs (ax_push h 4 (.inr (1, [.null, .int 0, .null, .null]))) [(s0, .inr (0, [.null, .null, .null, .null, .null, .null, .null, .int 0, .int 0, .int 0, .int 0])), (n, .inr (1, [.null, .int 0, .null, .null]))] := hF.push (by omega) 4 _ (by rw [hn]; rfl)
  replace hf := hf.push (n := 4) (c := .inr (1, [.null, .int 0, .null, .null]))
  replace hn : (ax_push h 4 (.inr (1, [.null, .int 0, .null, .null]))).1 = n + 1 := by show h.1 + 1 = _; rw [hn]
  replace hs : (ax_push h 4 (.inr (1, [.null, .int 0, .null, .null]))).2.1 = sl + 4 := by show h.2.1 + 4 = _; omega
  generalize ax_push h 4 (.inr (1, [.null, .int 0, .null, .null])) = h1 at hF hf hn hs ⊢
  refine ar_dup 9 d_0_8 rfl rfl ?_
  refine ar_call (r := [.ref n, .ref s0]) (na := 0) (kd := 0) (cm := 2) (fr2 := fr - 1) (lo2 := lo - 21) 12 d_0_9 (ar_hoI (as := []) rfl rfl rfl) rfl (by omega) (show lo - 21 + (19 + 2) = lo by omega) (Nat.le_of_ble_eq_true rfl) (Nat.le_of_ble_eq_true rfl) (c_2 (by omega) (by omega) (hF.sub (F' := [(n, .inr (1, [.null, .int 0, .null, .null]))]) [1] rfl rfl) hn hs (by omega)) ?_
  intro v h9 hq
  obtain ⟨rfl, hNT, qn, qs, qf⟩ := hq
  replace hF : ax_hs h9 [(s0, .inr (0, [.null, .null, .null, .null, .null, .null, .null, .int 0, .int 0, .int 0, .int 0]))] := (hF.sub (F' := [(s0, .inr (0, [.null, .null, .null, .null, .null, .null, .null, .int 0, .int 0, .int 0, .int 0]))]) [0] rfl rfl).fr qf (by intro x hx; simp at hx; subst hx; simp; omega)
  have hN : NTL h9 n (n + 1) [] [] 0 (fun _ => 0) (fun _ => 0) := ⟨_, _, _, _, hNT, rfl, fun i hi => absurd hi (Nat.not_lt_zero i), by decide, by decide, fun i _ _ => Nat.succ_ne_zero _, rfl, rfl⟩
  replace hf := hf.trC qf (by intro x hx hB; simp at hB; omega)
  refine ph_BX (n := n + 262) (sl := sl + 81512) (by omega) (by omega) (Nat.lt_succ_self n) (by omega) (fun z => by rcases z with z | z <;> omega) (by omega) hF hN (by omega) (by omega) (fun h' nn gg cc p f ids ms k1 k2 k3 k4 k5 k6 k7 k8 k9 k10 k11 k12 => ?_)
  exact ⟨nn, gg, cc, p, f, rfl, ⟨k1, k2, k3, k4, hs0, k5, k6, ⟨ids, ms, k7, k8⟩, k9⟩, k10, by omega, hf.trC k12 (fun x hx hB => by rcases hB with hB | hB; rcases hB with hB | hB <;> omega; exact hB)⟩

theorem FreshX.fr {h h' : ax_H} {x1 x2 x3 : Int32} {s0 n nn gg cc p : Nat} {f : Nat → Int32} (k : FreshX h x1 x2 x3 s0 n nn gg cc p f) (hf : ax_fr (fun _ => False) h h') : FreshX h' x1 x2 x3 s0 n nn gg cc p f := by
  obtain ⟨k1, k2, k3, k4, k5, k6, k7, ⟨ids, ms, k8, k9⟩, k10⟩ := k
  exact ⟨k1, k2, k3, k4, k5, k6.fr hf (fun _ _ z => z), fun j hj => (k7 j hj).fr hf (fun z => z) (fun z => z), ⟨ids, ms, k8.fr hf (fun _ _ z => z), k9⟩, fun j hj => by
    obtain ⟨fm, q0, q⟩ := k10 j hj
    exact ⟨fm, q0, q.fr hf (fun _ _ z => z)⟩⟩
theorem FreshX.old {h : ax_H} {x1 x2 x3 : Int32} {s0 n nn gg cc p : Nat} {f : Nat → Int32} (k : FreshX h x1 x2 x3 s0 n nn gg cc p f) : Fresh h x1 x2 x3 s0 n nn gg cc p f := by
  obtain ⟨k1, k2, k3, ⟨a1, a2, a3, a4⟩, k5, k6, k7, k8, k10⟩ := k
  exact ⟨k1, k2, k3, ⟨a1, a2, a3, a4.1⟩, k5, k6, k7, k8, fun j hj => by
    obtain ⟨fm, _, q⟩ := k10 j hj
    exact ⟨fm, q⟩⟩
set_option maxRecDepth 100000 in
theorem law_pX {L : Nat} {xs : Nat → Int32} {n sl : Nat} {h : ax_H} {post : ax_Po} (hL : L < 2 ^ 31) (hF : ax_hs h []) (hn : h.1 = n) (hs : h.2.1 = sl) (hn0 : 0 < n) (kk : ∀ (h' : ax_H) (nn gg cc p m : Nat) (f : Nat → Int32), m = n + 330 + 22 * nn → FreshX h' (scr L xs 0) (scr L xs 1) (scr L xs 2) n (n + 1) nn gg cc p f → ax_hs h' (MW m (m + 1) nn gg cc) → h'.1 = m + 22 → h'.2.1 = sl + 11 + 103560 + gg * nn + nn + 47629 * nn + 39 + 460518 → ax_A (ax_step L xs) ((219, 48, 11, 396), [(0, .ref 0), (1, .ref n), (2, .ref m), (3, .int 3)], [], h') post) : ax_A (ax_step L xs) ((219, 0, 11, 396), [(0, .ref 0)], [], h) post := by
  have hbase : h.1 = n := hn
  have hbasl : h.2.1 = sl := hs
  have hf : ax_fr (fun x => x ∈ []) h h := ax_fr.rf
  refine ar_new 3 d_219_0 rfl (ci := 0) rfl ?_
  rw [hn]
  refine ar_heap (h' := ax_push h 11 (.inr (0, [.null, .null, .null, .null, .null, .null, .null, .int 0, .int 0, .int 0, .int 0]))) rfl ?_
  replace hF : ax_hs (ax_push h 11 (.inr (0, [.null, .null, .null, .null, .null, .null, .null, .int 0, .int 0, .int 0, .int 0]))) [(n, .inr (0, [.null, .null, .null, .null, .null, .null, .null, .int 0, .int 0, .int 0, .int 0]))] := hF.push (by omega) 11 _ (by rw [hn]; rfl)
  replace hf := hf.push (n := 11) (c := .inr (0, [.null, .null, .null, .null, .null, .null, .null, .int 0, .int 0, .int 0, .int 0]))
  replace hn : (ax_push h 11 (.inr (0, [.null, .null, .null, .null, .null, .null, .null, .int 0, .int 0, .int 0, .int 0]))).1 = n + 1 := by show h.1 + 1 = _; rw [hn]
  replace hs : (ax_push h 11 (.inr (0, [.null, .null, .null, .null, .null, .null, .null, .int 0, .int 0, .int 0, .int 0]))).2.1 = sl + 11 := by show h.2.1 + 11 = _; omega
  generalize ax_push h 11 (.inr (0, [.null, .null, .null, .null, .null, .null, .null, .int 0, .int 0, .int 0, .int 0])) = h1 at hF hf hn hs ⊢
  refine ar_dup 4 d_219_3 rfl rfl ?_
  refine ar_aload_n 5 d_219_4 rfl rfl ?_
  refine ar_iconst 6 (v := 0) d_219_5 rfl (by decide) ?_
  refine ar_call (r := [.ref n, .ref n]) (na := 0) (kd := 0) (cm := 174) (fr2 := 11 - 1) (lo2 := 396 - 21) 9 d_219_6 (ar_hoS (as := [.ref 0, .int 0]) rfl rfl rfl) rfl (by omega) (show 396 - 21 + (19 + 2) = 396 by omega) (Nat.le_of_ble_eq_true rfl) (Nat.le_of_ble_eq_true rfl) (c_174 (j := 0) hL (by decide)) ?_
  intro v hh hq
  obtain ⟨rfl, ehh⟩ := hq
  rw [ehh]
  clear ehh
  refine ar_aload_n 10 d_219_9 rfl rfl ?_
  refine ar_iconst 11 (v := 1) d_219_10 rfl (by decide) ?_
  refine ar_call (r := [.int (scr L xs 0), .ref n, .ref n]) (na := 0) (kd := 0) (cm := 174) (fr2 := 11 - 1) (lo2 := 396 - 21) 14 d_219_11 (ar_hoS (as := [.ref 0, .int 1]) rfl rfl rfl) rfl (by omega) (show 396 - 21 + (19 + 2) = 396 by omega) (Nat.le_of_ble_eq_true rfl) (Nat.le_of_ble_eq_true rfl) (c_174 (j := 1) hL (by decide)) ?_
  intro v hh hq
  obtain ⟨rfl, ehh⟩ := hq
  rw [ehh]
  clear ehh
  refine ar_aload_n 15 d_219_14 rfl rfl ?_
  refine ar_iconst 16 (v := 2) d_219_15 rfl (by decide) ?_
  refine ar_call (r := [.int (scr L xs 1), .int (scr L xs 0), .ref n, .ref n]) (na := 0) (kd := 0) (cm := 174) (fr2 := 11 - 1) (lo2 := 396 - 21) 19 d_219_16 (ar_hoS (as := [.ref 0, .int 2]) rfl rfl rfl) rfl (by omega) (show 396 - 21 + (19 + 2) = 396 by omega) (Nat.le_of_ble_eq_true rfl) (Nat.le_of_ble_eq_true rfl) (c_174 (j := 2) hL (by decide)) ?_
  intro v hh hq
  obtain ⟨rfl, ehh⟩ := hq
  rw [ehh]
  clear ehh
  refine ar_call (r := [.ref n]) (na := 0) (kd := 0) (cm := 0) (fr2 := 11 - 1) (lo2 := 396 - 24) 22 d_219_19 (ar_hoI (as := [.int (scr L xs 0), .int (scr L xs 1), .int (scr L xs 2)]) rfl rfl rfl) rfl (by omega) (show 396 - 24 + (19 + 5) = 396 by omega) (Nat.le_of_ble_eq_true rfl) (Nat.le_of_ble_eq_true rfl) (c_0X (by omega) (by omega) (hF.sub (F' := [(n, .inr (0, [.null, .null, .null, .null, .null, .null, .null, .int 0, .int 0, .int 0, .int 0]))]) [0] rfl rfl) hn hs (by omega)) ?_
  intro v h19 hq
  obtain ⟨nn, gg, cc, p, f, rfl, hFr, qn, qs, qf⟩ := hq
  replace hF : ax_hs h19 [] := (hF.sub (F' := []) [] rfl rfl).fr qf (by intro q hq; cases hq)
  obtain ⟨m, hm⟩ : ∃ m, m = n + 330 + 22 * nn := ⟨_, rfl⟩
  replace hn : h19.1 = m := by omega
  obtain ⟨s2, hs2⟩ : ∃ s2, s2 = h19.2.1 := ⟨_, rfl⟩
  replace hs : h19.2.1 = s2 := hs2.symm
  clear hf hbase hbasl
  have hf : ax_fr (fun x => x ∈ ([] : List Nat)) h19 h19 := ax_fr.rf
  have hF9 := hFr
  obtain ⟨⟨u1, u2, u3⟩, ⟨v1, v2, v3⟩, ⟨w1, w2, w3⟩, hrest⟩ := hF9
  clear hrest
  refine ar_astore_n 23 [(0, .ref 0), (1, .ref n)] d_219_22 rfl (by decide) rfl ?_
  refine ar_new 26 d_219_23 rfl (ci := 11) rfl ?_
  rw [hn]
  refine ar_heap (h' := ax_push h19 39 (.inr (11, .int 0 :: .int 0 :: .int 0 :: .int 0 :: .int 0 :: .int 0 :: .int 0 :: .int 0 :: .null :: .int 0 :: .null :: .null :: .null :: .null :: .null :: .null :: .null :: .null :: .null :: .null :: .int 0 :: .int 0 :: .int 0 :: .int 0 :: .int 0 :: .int 0 :: .int 0 :: .null :: .null :: .null :: .null :: .null :: .null :: .null :: .null :: .null :: .null :: .int 0 :: .int 0 :: []))) rfl ?_
  replace hF : ax_hs (ax_push h19 39 (.inr (11, .int 0 :: .int 0 :: .int 0 :: .int 0 :: .int 0 :: .int 0 :: .int 0 :: .int 0 :: .null :: .int 0 :: .null :: .null :: .null :: .null :: .null :: .null :: .null :: .null :: .null :: .null :: .int 0 :: .int 0 :: .int 0 :: .int 0 :: .int 0 :: .int 0 :: .int 0 :: .null :: .null :: .null :: .null :: .null :: .null :: .null :: .null :: .null :: .null :: .int 0 :: .int 0 :: []))) [(m, .inr (11, .int 0 :: .int 0 :: .int 0 :: .int 0 :: .int 0 :: .int 0 :: .int 0 :: .int 0 :: .null :: .int 0 :: .null :: .null :: .null :: .null :: .null :: .null :: .null :: .null :: .null :: .null :: .int 0 :: .int 0 :: .int 0 :: .int 0 :: .int 0 :: .int 0 :: .int 0 :: .null :: .null :: .null :: .null :: .null :: .null :: .null :: .null :: .null :: .null :: .int 0 :: .int 0 :: []))] := hF.push (by omega) 39 _ (by rw [hn]; rfl)
  replace hf := hf.push (n := 39) (c := .inr (11, .int 0 :: .int 0 :: .int 0 :: .int 0 :: .int 0 :: .int 0 :: .int 0 :: .int 0 :: .null :: .int 0 :: .null :: .null :: .null :: .null :: .null :: .null :: .null :: .null :: .null :: .null :: .int 0 :: .int 0 :: .int 0 :: .int 0 :: .int 0 :: .int 0 :: .int 0 :: .null :: .null :: .null :: .null :: .null :: .null :: .null :: .null :: .null :: .null :: .int 0 :: .int 0 :: []))
  replace hn : (ax_push h19 39 (.inr (11, .int 0 :: .int 0 :: .int 0 :: .int 0 :: .int 0 :: .int 0 :: .int 0 :: .int 0 :: .null :: .int 0 :: .null :: .null :: .null :: .null :: .null :: .null :: .null :: .null :: .null :: .null :: .int 0 :: .int 0 :: .int 0 :: .int 0 :: .int 0 :: .int 0 :: .int 0 :: .null :: .null :: .null :: .null :: .null :: .null :: .null :: .null :: .null :: .null :: .int 0 :: .int 0 :: []))).1 = m + 1 := by show h19.1 + 1 = _; rw [hn]
  replace hs : (ax_push h19 39 (.inr (11, .int 0 :: .int 0 :: .int 0 :: .int 0 :: .int 0 :: .int 0 :: .int 0 :: .int 0 :: .null :: .int 0 :: .null :: .null :: .null :: .null :: .null :: .null :: .null :: .null :: .null :: .null :: .int 0 :: .int 0 :: .int 0 :: .int 0 :: .int 0 :: .int 0 :: .int 0 :: .null :: .null :: .null :: .null :: .null :: .null :: .null :: .null :: .null :: .null :: .int 0 :: .int 0 :: []))).2.1 = s2 + 39 := by show h19.2.1 + 39 = _; omega
  generalize ax_push h19 39 (.inr (11, .int 0 :: .int 0 :: .int 0 :: .int 0 :: .int 0 :: .int 0 :: .int 0 :: .int 0 :: .null :: .int 0 :: .null :: .null :: .null :: .null :: .null :: .null :: .null :: .null :: .null :: .null :: .int 0 :: .int 0 :: .int 0 :: .int 0 :: .int 0 :: .int 0 :: .int 0 :: .null :: .null :: .null :: .null :: .null :: .null :: .null :: .null :: .null :: .null :: .int 0 :: .int 0 :: [])) = h21 at hF hf hn hs ⊢
  refine ar_dup 27 d_219_26 rfl rfl ?_
  refine ar_aload_n 28 d_219_27 rfl rfl ?_
  refine ar_iconst 29 (v := 0) d_219_28 rfl (by decide) ?_
  refine ar_call (r := [.ref m, .ref m]) (na := 0) (kd := 0) (cm := 174) (fr2 := 11 - 1) (lo2 := 396 - 21) 32 d_219_29 (ar_hoS (as := [.ref 0, .int 0]) rfl rfl rfl) rfl (by omega) (show 396 - 21 + (19 + 2) = 396 by omega) (Nat.le_of_ble_eq_true rfl) (Nat.le_of_ble_eq_true rfl) (c_174 (j := 0) hL (by decide)) ?_
  intro v hh hq
  obtain ⟨rfl, ehh⟩ := hq
  rw [ehh]
  clear ehh
  refine ar_aload_n 33 d_219_32 rfl rfl ?_
  refine ar_iconst 34 (v := 1) d_219_33 rfl (by decide) ?_
  refine ar_call (r := [.int (scr L xs 0), .ref m, .ref m]) (na := 0) (kd := 0) (cm := 174) (fr2 := 11 - 1) (lo2 := 396 - 21) 37 d_219_34 (ar_hoS (as := [.ref 0, .int 1]) rfl rfl rfl) rfl (by omega) (show 396 - 21 + (19 + 2) = 396 by omega) (Nat.le_of_ble_eq_true rfl) (Nat.le_of_ble_eq_true rfl) (c_174 (j := 1) hL (by decide)) ?_
  intro v hh hq
  obtain ⟨rfl, ehh⟩ := hq
  rw [ehh]
  clear ehh
  refine ar_aload_n 38 d_219_37 rfl rfl ?_
  refine ar_iconst 39 (v := 2) d_219_38 rfl (by decide) ?_
  refine ar_call (r := [.int (scr L xs 1), .int (scr L xs 0), .ref m, .ref m]) (na := 0) (kd := 0) (cm := 174) (fr2 := 11 - 1) (lo2 := 396 - 21) 42 d_219_39 (ar_hoS (as := [.ref 0, .int 2]) rfl rfl rfl) rfl (by omega) (show 396 - 21 + (19 + 2) = 396 by omega) (Nat.le_of_ble_eq_true rfl) (Nat.le_of_ble_eq_true rfl) (c_174 (j := 2) hL (by decide)) ?_
  intro v hh hq
  obtain ⟨rfl, ehh⟩ := hq
  rw [ehh]
  clear ehh
  refine ar_call (r := [.ref m]) (na := 0) (kd := 0) (cm := 175) (fr2 := 11 - 1) (lo2 := 396 - 23) 45 d_219_42 (ar_hoI (as := [.int (scr L xs 0), .int (scr L xs 1), .int (scr L xs 2)]) rfl rfl rfl) rfl (by omega) (show 396 - 23 + (19 + 4) = 396 by omega) (Nat.le_of_ble_eq_true rfl) (Nat.le_of_ble_eq_true rfl) (c_175 (by omega) (by omega) u3 v3 w3 (hF.sub (F' := [(m, .inr (11, .int 0 :: .int 0 :: .int 0 :: .int 0 :: .int 0 :: .int 0 :: .int 0 :: .int 0 :: .null :: .int 0 :: .null :: .null :: .null :: .null :: .null :: .null :: .null :: .null :: .null :: .null :: .int 0 :: .int 0 :: .int 0 :: .int 0 :: .int 0 :: .int 0 :: .int 0 :: .null :: .null :: .null :: .null :: .null :: .null :: .null :: .null :: .null :: .null :: .int 0 :: .int 0 :: []))]) [0] rfl rfl) hn hs (by omega)) ?_
  intro v h39 hq
  obtain ⟨rfl, hM, en, es, ef⟩ := hq
  refine ar_astore_n 46 [(0, .ref 0), (1, .ref n), (2, .ref m)] d_219_45 rfl (by decide) rfl ?_
  refine ar_iconst 47 (v := 3) d_219_46 rfl (by decide) ?_
  refine ar_istore_n 48 [(0, .ref 0), (1, .ref n), (2, .ref m), (3, .int 3)] d_219_47 rfl (by decide) rfl ?_
  exact kk h39 nn gg cc p m f hm (hFr.fr ((hf.trC ef (fun x hx hB => by simp at hB; omega)).mono (fun x hx => by simp at hx))) hM (by omega) (by omega)
theorem law_qX {L : Nat} {xs : Nat → Int32} {post : ax_Po} (hL : L < 2 ^ 31) (kk : ∀ (h' : ax_H) (nn gg cc p m : Nat) (f : Nat → Int32), m = 331 + 22 * nn → FreshX h' (scr L xs 0) (scr L xs 1) (scr L xs 2) 1 2 nn gg cc p f → ax_hs h' (MW m (m + 1) nn gg cc) → h'.1 = m + 22 → h'.2.1 = 11 + 103560 + gg * nn + nn + 47629 * nn + 39 + 460518 → ax_A (ax_step L xs) ((219, 48, 11, 396), [(0, .ref 0), (1, .ref 1), (2, .ref m), (3, .int 3)], [], h') post) : ax_A (ax_step L xs) ((axt_n, 0, 11, 396), [(0, .ref 0)], [], ax_h0) post :=
  law_pX (n := 1) (sl := 0) hL ⟨fun i j p q hp => by simp at hp, fun k q hk => by simp at hk⟩ rfl rfl (by decide) (fun h' nn gg cc p m f e1 e2 e3 e4 e5 => kk h' nn gg cc p m f (by omega) e2 e3 e4 (by omega))


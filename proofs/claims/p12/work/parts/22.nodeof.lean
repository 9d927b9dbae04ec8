/-! nodeOf and maskOf, exactly -/
/-- the NODE behind b others from place i on, k places left -/
def nof (f : Nat → Int32) (r set : Int32) : Nat → Nat → Int32 → Int32
  | 0, _, _ => -1
  | k + 1, i, b => if (set >>> (f i &&& 31)) &&& 1 = 0 then nof f r set k (i + 1) b else if b = r then f i else nof f r set k (i + 1) (b + 1)
def mof (f : Nat → Int32) (C set : Int32) : Nat → Nat → Int32 → Int32 → Int32 × Int32
  | 0, _, m, c => (m, c)
  | k + 1, i, m, c => if C ≤ c then (m, c) else if (set >>> (f i &&& 31)) &&& 1 = 0 then mof f C set k (i + 1) m c else mof f C set k (i + 1) (m ||| (1 <<< (f i &&& 31))) (c + 1)
theorem lp_31 {L : Nat} {xs : Nat → Int32} {fr lo rk o nn gg g : Nat} {C r set : Int32} {f : Nat → Int32} {h : ax_H} {post : ax_Po} (hgg : gg ≤ 16) (hnn : nn ≤ 6) (hg : g < gg) (hF : ax_hs h [(rk, .inr (3, [.int (nI nn), .int C, .int (nI gg), .ref o])), (o, .inl (0, gg * nn, .inl f))]) : ∀ (k i : Nat) (b : Int32), i + k = nn → post (some (.int (nof f r set k (g * nn + i) b))) h → ax_A (ax_step L xs) ((31, 6, fr, lo), [(0, .ref rk), (1, .int (nI g)), (2, .int r), (3, .int set), (4, .int b), (5, .int (nI i))], [], h) post := by
  have hb := ix_b hgg hnn
  intro k
  induction k with
  | zero =>
    intro i b hi hp
    have e : i = nn := by omega
    subst e
    refine ar_iload 8 d_31_6 rfl rfl ?_
    refine ar_aload_n 9 d_31_8 rfl rfl ?_
    refine ar_getf 12 d_31_9 rfl (ci := 3) (k := 0) rfl (hF.at 0 rfl) rfl ?_
    refine ar_icmp_ge 58 15 d_31_12 (by decide) rfl (fun _ => ?_) (fun c => absurd (nI_le (Nat.le_refl _) (by omega)) c)
    refine ar_iconst 59 (v := -1) d_31_58 rfl (by decide) ?_
    exact ar_iret d_31_59 rfl rfl (hp)
  | succ k ih =>
    intro i b hi hp
    have hin : i < nn := by omega
    have hx := ix_lt hg hin
    refine ar_iload 8 d_31_6 rfl rfl ?_
    refine ar_aload_n 9 d_31_8 rfl rfl ?_
    refine ar_getf 12 d_31_9 rfl (ci := 3) (k := 0) rfl (hF.at 0 rfl) rfl ?_
    refine ar_icmp_ge 58 15 d_31_12 (by decide) rfl (fun c => absurd c (nI_ge hin (by omega))) (fun _ => ?_)
    refine ar_aload_n 16 d_31_15 rfl rfl ?_
    refine ar_getf 19 d_31_16 rfl (ci := 3) (k := 3) rfl (hF.at 0 rfl) rfl ?_
    refine ar_iload_n 20 d_31_19 rfl rfl ?_
    refine ar_aload_n 21 d_31_20 rfl rfl ?_
    refine ar_getf 24 d_31_21 rfl (ci := 3) (k := 0) rfl (hF.at 0 rfl) rfl ?_
    refine ar_imul 25 d_31_24 rfl ?_
    refine ar_iload 27 d_31_25 rfl rfl ?_
    refine ar_iadd 28 d_31_27 rfl ?_
    refine ar_top (x' := nI (g * nn + i)) (ix_a g nn i) ?_
    refine ar_iald 29 d_31_28 rfl (hF.at 1 rfl) (vp_in_nI hx (by omega)) ?_
    refine ar_top (x' := f (g * nn + i)) (by rw [nI_clamp (by omega)]) ?_
    refine ar_istore 31 [(0, .ref rk), (1, .int (nI g)), (2, .int r), (3, .int set), (4, .int b), (5, .int (nI i)), (6, .int (f (g * nn + i)))] d_31_29 rfl (by decide) rfl ?_
    refine ar_iload_n 32 d_31_31 rfl rfl ?_
    refine ar_iload 34 d_31_32 rfl rfl ?_
    refine ar_ishr 35 d_31_34 rfl ?_
    refine ar_iconst 36 (v := 1) d_31_35 rfl (by decide) ?_
    refine ar_iand 37 d_31_36 rfl ?_
    unfold nof at hp
    refine ar_if_eq 52 40 d_31_37 (by decide) rfl (fun c1 => ?_) (fun c1 => ?_)
    · rw [if_pos c1] at hp
      refine ar_iinc 55 [(0, .ref rk), (1, .int (nI g)), (2, .int r), (3, .int set), (4, .int b), (5, .int (nI (i + 1))), (6, .int (f (g * nn + i)))] d_31_52 rfl rfl (nI_1 i) (by decide) rfl ?_
      refine ar_goto 6 d_31_55 (by decide) ?_
      refine ar_wk [0, 1, 2, 3, 4, 5] rfl (by simp) ?_
      exact ih (i + 1) b (by omega) hp
    · rw [if_neg c1] at hp
      refine ar_iload 42 d_31_40 rfl rfl ?_
      refine ar_iload_n 43 d_31_42 rfl rfl ?_
      refine ar_icmp_ne 49 46 d_31_43 (by decide) rfl (fun c2 => ?_) (fun c2 => ?_)
      · rw [if_neg c2] at hp
        refine ar_iinc 52 [(0, .ref rk), (1, .int (nI g)), (2, .int r), (3, .int set), (4, .int (b + 1)), (5, .int (nI i)), (6, .int (f (g * nn + i)))] d_31_49 rfl rfl (rfl) (by decide) rfl ?_
        refine ar_iinc 55 [(0, .ref rk), (1, .int (nI g)), (2, .int r), (3, .int set), (4, .int (b + 1)), (5, .int (nI (i + 1))), (6, .int (f (g * nn + i)))] d_31_52 rfl rfl (nI_1 i) (by decide) rfl ?_
        refine ar_goto 6 d_31_55 (by decide) ?_
        refine ar_wk [0, 1, 2, 3, 4, 5] rfl (by simp) ?_
        exact ih (i + 1) (b + 1) (by omega) hp
      · rw [if_pos (Decidable.of_not_not c2)] at hp
        refine ar_iload 48 d_31_46 rfl rfl ?_
        exact ar_iret d_31_48 rfl rfl (hp)
theorem c_31 {L : Nat} {xs : Nat → Int32} {fr lo rk o nn gg g : Nat} {C r set : Int32} {f : Nat → Int32} {h : ax_H} (hgg : gg ≤ 16) (hnn : nn ≤ 6) (hg : g < gg) (hF : ax_hs h [(rk, .inr (3, [.int (nI nn), .int C, .int (nI gg), .ref o])), (o, .inl (0, gg * nn, .inl f))]) : ax_M L xs 31 fr lo [.ref rk, .int (nI g), .int r, .int set] h (fun v h' => v = some (.int (nof f r set nn (g * nn) 0)) ∧ h' = h) := by
  show ax_A (ax_step L xs) ((31, 0, fr, lo), [(0, .ref rk), (1, .int (nI g)), (2, .int r), (3, .int set)], [], h) _
  refine ar_iconst 1 (v := 0) d_31_0 rfl (by decide) ?_
  refine ar_istore 3 [(0, .ref rk), (1, .int (nI g)), (2, .int r), (3, .int set), (4, .int 0)] d_31_1 rfl (by decide) rfl ?_
  refine ar_iconst 4 (v := 0) d_31_3 rfl (by decide) ?_
  refine ar_istore 6 [(0, .ref rk), (1, .int (nI g)), (2, .int r), (3, .int set), (4, .int 0), (5, .int 0)] d_31_4 rfl (by decide) rfl ?_
  exact lp_31 hgg hnn hg hF nn 0 0 (Nat.zero_add nn) ⟨rfl, rfl⟩
def mof2 (C : Int32) (q : Int32 × Int32) : Int32 := if q.2 = C then q.1 else 0
theorem le_34 {L : Nat} {xs : Nat → Int32} {fr lo rk o nn gg g : Nat} {C set : Int32} {f : Nat → Int32} {h : ax_H} {m c z : Int32} {post : ax_Po} (hF : ax_hs h [(rk, .inr (3, [.int (nI nn), .int C, .int (nI gg), .ref o])), (o, .inl (0, gg * nn, .inl f))]) (hp : post (some (.int (mof2 C (m, c)))) h) : ax_A (ax_step L xs) ((34, 67, fr, lo), [(0, .ref rk), (1, .int (nI g)), (2, .int set), (3, .int m), (4, .int c), (5, .int z)], [], h) post := by
  unfold mof2 at hp
  dsimp only at hp
  refine ar_iload 69 d_34_67 rfl rfl ?_
  refine ar_aload_n 70 d_34_69 rfl rfl ?_
  refine ar_getf 73 d_34_70 rfl (ci := 3) (k := 1) rfl (hF.at 0 rfl) rfl ?_
  refine ar_icmp_ne 80 76 d_34_73 (by decide) rfl (fun c1 => ?_) (fun c1 => ?_)
  · rw [if_neg c1] at hp
    refine ar_iconst 81 (v := 0) d_34_80 rfl (by decide) ?_
    exact ar_iret d_34_81 rfl rfl (hp)
  · rw [if_pos (Decidable.of_not_not c1)] at hp
    refine ar_iload_n 77 d_34_76 rfl rfl ?_
    refine ar_goto 81 d_34_77 (by decide) ?_
    exact ar_iret d_34_81 rfl rfl (hp)
theorem lp_34 {L : Nat} {xs : Nat → Int32} {fr lo rk o nn gg g : Nat} {C set : Int32} {f : Nat → Int32} {h : ax_H} {post : ax_Po} (hgg : gg ≤ 16) (hnn : nn ≤ 6) (hg : g < gg) (hF : ax_hs h [(rk, .inr (3, [.int (nI nn), .int C, .int (nI gg), .ref o])), (o, .inl (0, gg * nn, .inl f))]) : ∀ (k i : Nat) (m c : Int32), i + k = nn → post (some (.int (mof2 C (mof f C set k (g * nn + i) m c)))) h → ax_A (ax_step L xs) ((34, 8, fr, lo), [(0, .ref rk), (1, .int (nI g)), (2, .int set), (3, .int m), (4, .int c), (5, .int (nI i))], [], h) post := by
  have hb := ix_b hgg hnn
  intro k
  induction k with
  | zero =>
    intro i m c hi hp
    have e : i = nn := by omega
    subst e
    refine ar_iload 10 d_34_8 rfl rfl ?_
    refine ar_aload_n 11 d_34_10 rfl rfl ?_
    refine ar_getf 14 d_34_11 rfl (ci := 3) (k := 0) rfl (hF.at 0 rfl) rfl ?_
    refine ar_icmp_ge 67 17 d_34_14 (by decide) rfl (fun _ => ?_) (fun c => absurd (nI_le (Nat.le_refl _) (by omega)) c)
    exact le_34 hF hp
  | succ k ih =>
    intro i m c hi hp
    have hin : i < nn := by omega
    have hx := ix_lt hg hin
    unfold mof at hp
    refine ar_iload 10 d_34_8 rfl rfl ?_
    refine ar_aload_n 11 d_34_10 rfl rfl ?_
    refine ar_getf 14 d_34_11 rfl (ci := 3) (k := 0) rfl (hF.at 0 rfl) rfl ?_
    refine ar_icmp_ge 67 17 d_34_14 (by decide) rfl (fun c => absurd c (nI_ge hin (by omega))) (fun _ => ?_)
    refine ar_iload 19 d_34_17 rfl rfl ?_
    refine ar_aload_n 20 d_34_19 rfl rfl ?_
    refine ar_getf 23 d_34_20 rfl (ci := 3) (k := 1) rfl (hF.at 0 rfl) rfl ?_
    refine ar_icmp_ge 67 26 d_34_23 (by decide) rfl (fun c1 => ?_) (fun c1 => ?_)
    · rw [if_pos c1] at hp
      exact le_34 hF hp
    · rw [if_neg c1] at hp
      refine ar_aload_n 27 d_34_26 rfl rfl ?_
      refine ar_getf 30 d_34_27 rfl (ci := 3) (k := 3) rfl (hF.at 0 rfl) rfl ?_
      refine ar_iload_n 31 d_34_30 rfl rfl ?_
      refine ar_aload_n 32 d_34_31 rfl rfl ?_
      refine ar_getf 35 d_34_32 rfl (ci := 3) (k := 0) rfl (hF.at 0 rfl) rfl ?_
      refine ar_imul 36 d_34_35 rfl ?_
      refine ar_iload 38 d_34_36 rfl rfl ?_
      refine ar_iadd 39 d_34_38 rfl ?_
      refine ar_top (x' := nI (g * nn + i)) (ix_a g nn i) ?_
      refine ar_iald 40 d_34_39 rfl (hF.at 1 rfl) (vp_in_nI hx (by omega)) ?_
      refine ar_top (x' := f (g * nn + i)) (by rw [nI_clamp (by omega)]) ?_
      refine ar_istore 42 [(0, .ref rk), (1, .int (nI g)), (2, .int set), (3, .int m), (4, .int c), (5, .int (nI i)), (6, .int (f (g * nn + i)))] d_34_40 rfl (by decide) rfl ?_
      refine ar_iload_n 43 d_34_42 rfl rfl ?_
      refine ar_iload 45 d_34_43 rfl rfl ?_
      refine ar_ishr 46 d_34_45 rfl ?_
      refine ar_iconst 47 (v := 1) d_34_46 rfl (by decide) ?_
      refine ar_iand 48 d_34_47 rfl ?_
      refine ar_if_eq 61 51 d_34_48 (by decide) rfl (fun c2 => ?_) (fun c2 => ?_)
      · rw [if_pos c2] at hp
        refine ar_iinc 64 [(0, .ref rk), (1, .int (nI g)), (2, .int set), (3, .int m), (4, .int c), (5, .int (nI (i + 1))), (6, .int (f (g * nn + i)))] d_34_61 rfl rfl (nI_1 i) (by decide) rfl ?_
        refine ar_goto 8 d_34_64 (by decide) ?_
        refine ar_wk [0, 1, 2, 3, 4, 5] rfl (by simp) ?_
        exact ih (i + 1) m c (by omega) hp
      · rw [if_neg c2] at hp
        refine ar_iload_n 52 d_34_51 rfl rfl ?_
        refine ar_iconst 53 (v := 1) d_34_52 rfl (by decide) ?_
        refine ar_iload 55 d_34_53 rfl rfl ?_
        refine ar_ishl 56 d_34_55 rfl ?_
        refine ar_ior 57 d_34_56 rfl ?_
        refine ar_istore_n 58 [(0, .ref rk), (1, .int (nI g)), (2, .int set), (3, .int (m ||| (1 <<< ((f (g * nn + i)) &&& 31)))), (4, .int c), (5, .int (nI i)), (6, .int (f (g * nn + i)))] d_34_57 rfl (by decide) rfl ?_
        refine ar_iinc 61 [(0, .ref rk), (1, .int (nI g)), (2, .int set), (3, .int (m ||| (1 <<< ((f (g * nn + i)) &&& 31)))), (4, .int (c + 1)), (5, .int (nI i)), (6, .int (f (g * nn + i)))] d_34_58 rfl rfl (rfl) (by decide) rfl ?_
        refine ar_iinc 64 [(0, .ref rk), (1, .int (nI g)), (2, .int set), (3, .int (m ||| (1 <<< ((f (g * nn + i)) &&& 31)))), (4, .int (c + 1)), (5, .int (nI (i + 1))), (6, .int (f (g * nn + i)))] d_34_61 rfl rfl (nI_1 i) (by decide) rfl ?_
        refine ar_goto 8 d_34_64 (by decide) ?_
        refine ar_wk [0, 1, 2, 3, 4, 5] rfl (by simp) ?_
        exact ih (i + 1) _ (c + 1) (by omega) hp
theorem c_34 {L : Nat} {xs : Nat → Int32} {fr lo rk o nn gg g : Nat} {C set : Int32} {f : Nat → Int32} {h : ax_H} (hgg : gg ≤ 16) (hnn : nn ≤ 6) (hg : g < gg) (hF : ax_hs h [(rk, .inr (3, [.int (nI nn), .int C, .int (nI gg), .ref o])), (o, .inl (0, gg * nn, .inl f))]) : ax_M L xs 34 fr lo [.ref rk, .int (nI g), .int set] h (fun v h' => v = some (.int (mof2 C (mof f C set nn (g * nn) 0 0))) ∧ h' = h) := by
  show ax_A (ax_step L xs) ((34, 0, fr, lo), [(0, .ref rk), (1, .int (nI g)), (2, .int set)], [], h) _
  refine ar_iconst 1 (v := 0) d_34_0 rfl (by decide) ?_
  refine ar_istore_n 2 [(0, .ref rk), (1, .int (nI g)), (2, .int set), (3, .int 0)] d_34_1 rfl (by decide) rfl ?_
  refine ar_iconst 3 (v := 0) d_34_2 rfl (by decide) ?_
  refine ar_istore 5 [(0, .ref rk), (1, .int (nI g)), (2, .int set), (3, .int 0), (4, .int 0)] d_34_3 rfl (by decide) rfl ?_
  refine ar_iconst 6 (v := 0) d_34_5 rfl (by decide) ?_
  refine ar_istore 8 [(0, .ref rk), (1, .int (nI g)), (2, .int set), (3, .int 0), (4, .int 0), (5, .int 0)] d_34_6 rfl (by decide) rfl ?_
  exact lp_34 hgg hnn hg hF nn 0 0 0 (Nat.zero_add nn) ⟨rfl, rfl⟩


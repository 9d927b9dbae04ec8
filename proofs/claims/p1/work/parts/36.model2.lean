/-! the reference: end, isUp, isDown, audit -/
theorem d_178_0 : decode (axt_b 178) 0 = .ok (.iload_n 1, 1) := by decide +kernel
theorem d_178_1 : decode (axt_b 178) 1 = .ok (.ifCond .lt 11, 3) := by decide +kernel
theorem d_178_4 : decode (axt_b 178) 4 = .ok (.iload_n 1, 1) := by decide +kernel
theorem d_178_5 : decode (axt_b 178) 5 = .ok (.aload_n 0, 1) := by decide +kernel
theorem d_178_6 : decode (axt_b 178) 6 = .ok (.getfield 95, 3) := by decide +kernel
theorem d_178_9 : decode (axt_b 178) 9 = .ok (.if_icmp .le 5, 3) := by decide +kernel
theorem d_178_12 : decode (axt_b 178) 12 = .ok (.iconst (-1), 1) := by decide +kernel
theorem d_178_13 : decode (axt_b 178) 13 = .ok (.ireturn, 1) := by decide +kernel
theorem d_178_14 : decode (axt_b 178) 14 = .ok (.aload_n 0, 1) := by decide +kernel
theorem d_178_15 : decode (axt_b 178) 15 = .ok (.iload_n 1, 1) := by decide +kernel
theorem d_178_16 : decode (axt_b 178) 16 = .ok (.putfield 95, 3) := by decide +kernel
theorem d_178_19 : decode (axt_b 178) 19 = .ok (.iload_n 1, 1) := by decide +kernel
theorem d_178_20 : decode (axt_b 178) 20 = .ok (.ireturn, 1) := by decide +kernel
theorem d_187_0 : decode (axt_b 187) 0 = .ok (.iload_n 1, 1) := by decide +kernel
theorem d_187_1 : decode (axt_b 187) 1 = .ok (.ifCond .lt 26, 3) := by decide +kernel
theorem d_187_4 : decode (axt_b 187) 4 = .ok (.iload_n 1, 1) := by decide +kernel
theorem d_187_5 : decode (axt_b 187) 5 = .ok (.aload_n 0, 1) := by decide +kernel
theorem d_187_6 : decode (axt_b 187) 6 = .ok (.getfield 80, 3) := by decide +kernel
theorem d_187_9 : decode (axt_b 187) 9 = .ok (.if_icmp .ge 18, 3) := by decide +kernel
theorem d_187_12 : decode (axt_b 187) 12 = .ok (.aload_n 0, 1) := by decide +kernel
theorem d_187_13 : decode (axt_b 187) 13 = .ok (.getfield 89, 3) := by decide +kernel
theorem d_187_16 : decode (axt_b 187) 16 = .ok (.iload_n 1, 1) := by decide +kernel
theorem d_187_17 : decode (axt_b 187) 17 = .ok (.ishr, 1) := by decide +kernel
theorem d_187_18 : decode (axt_b 187) 18 = .ok (.iconst 1, 1) := by decide +kernel
theorem d_187_19 : decode (axt_b 187) 19 = .ok (.iand, 1) := by decide +kernel
theorem d_187_20 : decode (axt_b 187) 20 = .ok (.ifCond .eq 7, 3) := by decide +kernel
theorem d_187_23 : decode (axt_b 187) 23 = .ok (.iconst 1, 1) := by decide +kernel
theorem d_187_24 : decode (axt_b 187) 24 = .ok (.goto 4, 3) := by decide +kernel
theorem d_187_27 : decode (axt_b 187) 27 = .ok (.iconst 0, 1) := by decide +kernel
theorem d_187_28 : decode (axt_b 187) 28 = .ok (.ireturn, 1) := by decide +kernel
theorem d_189_0 : decode (axt_b 189) 0 = .ok (.iload_n 1, 1) := by decide +kernel
theorem d_189_1 : decode (axt_b 189) 1 = .ok (.ifCond .lt 26, 3) := by decide +kernel
theorem d_189_4 : decode (axt_b 189) 4 = .ok (.iload_n 1, 1) := by decide +kernel
theorem d_189_5 : decode (axt_b 189) 5 = .ok (.aload_n 0, 1) := by decide +kernel
theorem d_189_6 : decode (axt_b 189) 6 = .ok (.getfield 80, 3) := by decide +kernel
theorem d_189_9 : decode (axt_b 189) 9 = .ok (.if_icmp .ge 18, 3) := by decide +kernel
theorem d_189_12 : decode (axt_b 189) 12 = .ok (.aload_n 0, 1) := by decide +kernel
theorem d_189_13 : decode (axt_b 189) 13 = .ok (.getfield 89, 3) := by decide +kernel
theorem d_189_16 : decode (axt_b 189) 16 = .ok (.iload_n 1, 1) := by decide +kernel
theorem d_189_17 : decode (axt_b 189) 17 = .ok (.ishr, 1) := by decide +kernel
theorem d_189_18 : decode (axt_b 189) 18 = .ok (.iconst 1, 1) := by decide +kernel
theorem d_189_19 : decode (axt_b 189) 19 = .ok (.iand, 1) := by decide +kernel
theorem d_189_20 : decode (axt_b 189) 20 = .ok (.ifCond .ne 7, 3) := by decide +kernel
theorem d_189_23 : decode (axt_b 189) 23 = .ok (.iconst 1, 1) := by decide +kernel
theorem d_189_24 : decode (axt_b 189) 24 = .ok (.goto 4, 3) := by decide +kernel
theorem d_189_27 : decode (axt_b 189) 27 = .ok (.iconst 0, 1) := by decide +kernel
theorem d_189_28 : decode (axt_b 189) 28 = .ok (.ireturn, 1) := by decide +kernel
theorem d_216_0 : decode (axt_b 216) 0 = .ok (.aload_n 0, 1) := by decide +kernel
theorem d_216_1 : decode (axt_b 216) 1 = .ok (.getfield 108, 3) := by decide +kernel
theorem d_216_4 : decode (axt_b 216) 4 = .ok (.ifCond .eq 7, 3) := by decide +kernel
theorem d_216_7 : decode (axt_b 216) 7 = .ok (.iconst 0, 1) := by decide +kernel
theorem d_216_8 : decode (axt_b 216) 8 = .ok (.goto 5, 3) := by decide +kernel
theorem d_216_11 : decode (axt_b 216) 11 = .ok (.bipush (-6), 2) := by decide +kernel
theorem d_216_13 : decode (axt_b 216) 13 = .ok (.ireturn, 1) := by decide +kernel
theorem c_178 {L : Nat} {xs : Nat → Int32} {fr lo m : Nat} {h : ax_H} {fs : List Value} {x t : Int32} (hg : ax_g h m = some (.inr (11, fs))) (hl : fs.length = 39) (h9 : fs[9]? = some (.int t)) : ax_M L xs 178 fr lo [.ref m, .int x] h (fun r h' => ((x < 0 ∨ ¬ x ≤ t) ∧ r = some (.int (-1)) ∧ h' = h) ∨ (¬ x < 0 ∧ x ≤ t ∧ r = some (.int x) ∧ h' = ax_put h m (.inr (11, fs.set 9 (.int x))))) := by
  show ax_A (ax_step L xs) ((178, 0, fr, lo), [(0, .ref m), (1, .int x)], [], h) _
  refine ar_iload_n 1 d_178_0 rfl rfl ?_
  refine ar_if_lt 12 4 d_178_1 (by decide) rfl (fun c1 => ?_) (fun c1 => ?_)
  · refine ar_iconst 13 (v := -1) d_178_12 rfl (by decide) ?_
    exact ar_iret d_178_13 rfl rfl (Or.inl ⟨Or.inl c1, rfl, rfl⟩)
  · refine ar_iload_n 5 d_178_4 rfl rfl ?_
    refine ar_aload_n 6 d_178_5 rfl rfl ?_
    refine ar_getf 9 d_178_6 rfl (ci := 11) (k := 9) rfl hg h9 ?_
    refine ar_icmp_le 14 12 d_178_9 (by decide) rfl (fun c2 => ?_) (fun c2 => ?_)
    · refine ar_aload_n 15 d_178_14 rfl rfl ?_
      refine ar_iload_n 16 d_178_15 rfl rfl ?_
      refine ar_putf 19 (fs.set 9 (.int x)) d_178_16 rfl (ci := 11) (k := 9) rfl rfl hg (by rw [hl]; decide) rfl rfl rfl ?_
      refine ar_iload_n 20 d_178_19 rfl rfl ?_
      exact ar_iret d_178_20 rfl rfl (Or.inr ⟨c1, c2, rfl, rfl⟩)
    · refine ar_iconst 13 (v := -1) d_178_12 rfl (by decide) ?_
      exact ar_iret d_178_13 rfl rfl (Or.inl ⟨Or.inr c2, rfl, rfl⟩)
theorem c_187 {L : Nat} {xs : Nat → Int32} {fr lo m : Nat} {h : ax_H} {fs : List Value} {x t u : Int32} (hg : ax_g h m = some (.inr (11, fs))) (h0 : fs[0]? = some (.int t)) (h3 : fs[3]? = some (.int u)) : ax_M L xs 187 fr lo [.ref m, .int x] h (fun r h' => (¬ x < 0 ∧ ¬ t ≤ x ∧ ¬ ((u >>> (x &&& 31)) &&& 1 = 0) ∧ r = some (.int 1) ∧ h' = h) ∨ ((x < 0 ∨ t ≤ x ∨ (u >>> (x &&& 31)) &&& 1 = 0) ∧ r = some (.int 0) ∧ h' = h)) := by
  show ax_A (ax_step L xs) ((187, 0, fr, lo), [(0, .ref m), (1, .int x)], [], h) _
  refine ar_iload_n 1 d_187_0 rfl rfl ?_
  refine ar_if_lt 27 4 d_187_1 (by decide) rfl (fun c1 => ?_) (fun c1 => ?_)
  · refine ar_iconst 28 (v := 0) d_187_27 rfl (by decide) ?_
    exact ar_iret d_187_28 rfl rfl (Or.inr ⟨Or.inl c1, rfl, rfl⟩)
  · refine ar_iload_n 5 d_187_4 rfl rfl ?_
    refine ar_aload_n 6 d_187_5 rfl rfl ?_
    refine ar_getf 9 d_187_6 rfl (ci := 11) (k := 0) rfl hg h0 ?_
    refine ar_icmp_ge 27 12 d_187_9 (by decide) rfl (fun c2 => ?_) (fun c2 => ?_)
    · refine ar_iconst 28 (v := 0) d_187_27 rfl (by decide) ?_
      exact ar_iret d_187_28 rfl rfl (Or.inr ⟨Or.inr (Or.inl c2), rfl, rfl⟩)
    · refine ar_aload_n 13 d_187_12 rfl rfl ?_
      refine ar_getf 16 d_187_13 rfl (ci := 11) (k := 3) rfl hg h3 ?_
      refine ar_iload_n 17 d_187_16 rfl rfl ?_
      refine ar_ishr 18 d_187_17 rfl ?_
      refine ar_iconst 19 (v := 1) d_187_18 rfl (by decide) ?_
      refine ar_iand 20 d_187_19 rfl ?_
      refine ar_if_eq 27 23 d_187_20 (by decide) rfl (fun c3 => ?_) (fun c3 => ?_)
      · refine ar_iconst 28 (v := 0) d_187_27 rfl (by decide) ?_
        exact ar_iret d_187_28 rfl rfl (Or.inr ⟨Or.inr (Or.inr c3), rfl, rfl⟩)
      · refine ar_iconst 24 (v := 1) d_187_23 rfl (by decide) ?_
        refine ar_goto 28 d_187_24 (by decide) ?_
        exact ar_iret d_187_28 rfl rfl (Or.inl ⟨c1, c2, c3, rfl, rfl⟩)
theorem c_189 {L : Nat} {xs : Nat → Int32} {fr lo m : Nat} {h : ax_H} {fs : List Value} {x t u : Int32} (hg : ax_g h m = some (.inr (11, fs))) (h0 : fs[0]? = some (.int t)) (h3 : fs[3]? = some (.int u)) : ax_M L xs 189 fr lo [.ref m, .int x] h (fun r h' => (¬ x < 0 ∧ ¬ t ≤ x ∧ ¬ ((u >>> (x &&& 31)) &&& 1 ≠ 0) ∧ r = some (.int 1) ∧ h' = h) ∨ ((x < 0 ∨ t ≤ x ∨ (u >>> (x &&& 31)) &&& 1 ≠ 0) ∧ r = some (.int 0) ∧ h' = h)) := by
  show ax_A (ax_step L xs) ((189, 0, fr, lo), [(0, .ref m), (1, .int x)], [], h) _
  refine ar_iload_n 1 d_189_0 rfl rfl ?_
  refine ar_if_lt 27 4 d_189_1 (by decide) rfl (fun c1 => ?_) (fun c1 => ?_)
  · refine ar_iconst 28 (v := 0) d_189_27 rfl (by decide) ?_
    exact ar_iret d_189_28 rfl rfl (Or.inr ⟨Or.inl c1, rfl, rfl⟩)
  · refine ar_iload_n 5 d_189_4 rfl rfl ?_
    refine ar_aload_n 6 d_189_5 rfl rfl ?_
    refine ar_getf 9 d_189_6 rfl (ci := 11) (k := 0) rfl hg h0 ?_
    refine ar_icmp_ge 27 12 d_189_9 (by decide) rfl (fun c2 => ?_) (fun c2 => ?_)
    · refine ar_iconst 28 (v := 0) d_189_27 rfl (by decide) ?_
      exact ar_iret d_189_28 rfl rfl (Or.inr ⟨Or.inr (Or.inl c2), rfl, rfl⟩)
    · refine ar_aload_n 13 d_189_12 rfl rfl ?_
      refine ar_getf 16 d_189_13 rfl (ci := 11) (k := 3) rfl hg h3 ?_
      refine ar_iload_n 17 d_189_16 rfl rfl ?_
      refine ar_ishr 18 d_189_17 rfl ?_
      refine ar_iconst 19 (v := 1) d_189_18 rfl (by decide) ?_
      refine ar_iand 20 d_189_19 rfl ?_
      refine ar_if_ne 27 23 d_189_20 (by decide) rfl (fun c3 => ?_) (fun c3 => ?_)
      · refine ar_iconst 28 (v := 0) d_189_27 rfl (by decide) ?_
        exact ar_iret d_189_28 rfl rfl (Or.inr ⟨Or.inr (Or.inr c3), rfl, rfl⟩)
      · refine ar_iconst 24 (v := 1) d_189_23 rfl (by decide) ?_
        refine ar_goto 28 d_189_24 (by decide) ?_
        exact ar_iret d_189_28 rfl rfl (Or.inl ⟨c1, c2, c3, rfl, rfl⟩)
theorem c_216 {L : Nat} {xs : Nat → Int32} {fr lo m : Nat} {h : ax_H} {fs : List Value} {t : Int32} (hg : ax_g h m = some (.inr (11, fs))) (h7 : fs[7]? = some (.int t)) : ax_M L xs 216 fr lo [.ref m] h (fun r h' => (t = 0 ∧ r = some (.int (-6)) ∧ h' = h) ∨ (¬ t = 0 ∧ r = some (.int 0) ∧ h' = h)) := by
  show ax_A (ax_step L xs) ((216, 0, fr, lo), [(0, .ref m)], [], h) _
  refine ar_aload_n 1 d_216_0 rfl rfl ?_
  refine ar_getf 4 d_216_1 rfl (ci := 11) (k := 7) rfl hg h7 ?_
  refine ar_if_eq 11 7 d_216_4 (by decide) rfl (fun c => ?_) (fun c => ?_)
  · refine ar_bipush 13 (v := -6) d_216_11 rfl (by decide) ?_
    exact ar_iret d_216_13 rfl rfl (Or.inl ⟨c, rfl, rfl⟩)
  · refine ar_iconst 8 (v := 0) d_216_7 rfl (by decide) ?_
    refine ar_goto 13 d_216_8 (by decide) ?_
    exact ar_iret d_216_13 rfl rfl (Or.inr ⟨c, rfl, rfl⟩)

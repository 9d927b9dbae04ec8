/-! the reference: deliver, lose, twice, stir, tick -/
theorem d_181_0 : decode (axt_b 181) 0 = .ok (.aload_n 0, 1) := by decide +kernel
theorem d_181_1 : decode (axt_b 181) 1 = .ok (.iconst 0, 1) := by decide +kernel
theorem d_181_2 : decode (axt_b 181) 2 = .ok (.putfield 108, 3) := by decide +kernel
theorem d_181_5 : decode (axt_b 181) 5 = .ok (.return_, 1) := by decide +kernel
theorem d_182_0 : decode (axt_b 182) 0 = .ok (.aload_n 0, 1) := by decide +kernel
theorem d_182_1 : decode (axt_b 182) 1 = .ok (.iconst 0, 1) := by decide +kernel
theorem d_182_2 : decode (axt_b 182) 2 = .ok (.putfield 108, 3) := by decide +kernel
theorem d_182_5 : decode (axt_b 182) 5 = .ok (.return_, 1) := by decide +kernel
theorem d_183_0 : decode (axt_b 183) 0 = .ok (.aload_n 0, 1) := by decide +kernel
theorem d_183_1 : decode (axt_b 183) 1 = .ok (.iconst 0, 1) := by decide +kernel
theorem d_183_2 : decode (axt_b 183) 2 = .ok (.putfield 108, 3) := by decide +kernel
theorem d_183_5 : decode (axt_b 183) 5 = .ok (.return_, 1) := by decide +kernel
theorem d_184_0 : decode (axt_b 184) 0 = .ok (.iload_n 1, 1) := by decide +kernel
theorem d_184_1 : decode (axt_b 184) 1 = .ok (.iconst 1, 1) := by decide +kernel
theorem d_184_2 : decode (axt_b 184) 2 = .ok (.if_icmp .lt 10, 3) := by decide +kernel
theorem d_184_5 : decode (axt_b 184) 5 = .ok (.iload_n 1, 1) := by decide +kernel
theorem d_184_6 : decode (axt_b 184) 6 = .ok (.sipush 500, 3) := by decide +kernel
theorem d_184_9 : decode (axt_b 184) 9 = .ok (.if_icmp .le 5, 3) := by decide +kernel
theorem d_184_12 : decode (axt_b 184) 12 = .ok (.iconst (-1), 1) := by decide +kernel
theorem d_184_13 : decode (axt_b 184) 13 = .ok (.ireturn, 1) := by decide +kernel
theorem d_184_14 : decode (axt_b 184) 14 = .ok (.aload_n 0, 1) := by decide +kernel
theorem d_184_15 : decode (axt_b 184) 15 = .ok (.iconst 0, 1) := by decide +kernel
theorem d_184_16 : decode (axt_b 184) 16 = .ok (.putfield 108, 3) := by decide +kernel
theorem d_184_19 : decode (axt_b 184) 19 = .ok (.iload_n 1, 1) := by decide +kernel
theorem d_184_20 : decode (axt_b 184) 20 = .ok (.ireturn, 1) := by decide +kernel
theorem d_185_0 : decode (axt_b 185) 0 = .ok (.iload_n 1, 1) := by decide +kernel
theorem d_185_1 : decode (axt_b 185) 1 = .ok (.iconst 1, 1) := by decide +kernel
theorem d_185_2 : decode (axt_b 185) 2 = .ok (.if_icmp .lt 9, 3) := by decide +kernel
theorem d_185_5 : decode (axt_b 185) 5 = .ok (.iload_n 1, 1) := by decide +kernel
theorem d_185_6 : decode (axt_b 185) 6 = .ok (.bipush 50, 2) := by decide +kernel
theorem d_185_8 : decode (axt_b 185) 8 = .ok (.if_icmp .le 5, 3) := by decide +kernel
theorem d_185_11 : decode (axt_b 185) 11 = .ok (.iconst (-1), 1) := by decide +kernel
theorem d_185_12 : decode (axt_b 185) 12 = .ok (.ireturn, 1) := by decide +kernel
theorem d_185_13 : decode (axt_b 185) 13 = .ok (.aload_n 0, 1) := by decide +kernel
theorem d_185_14 : decode (axt_b 185) 14 = .ok (.iconst 0, 1) := by decide +kernel
theorem d_185_15 : decode (axt_b 185) 15 = .ok (.putfield 108, 3) := by decide +kernel
theorem d_185_18 : decode (axt_b 185) 18 = .ok (.iload_n 1, 1) := by decide +kernel
theorem d_185_19 : decode (axt_b 185) 19 = .ok (.ireturn, 1) := by decide +kernel
theorem c_181 {L : Nat} {xs : Nat → Int32} {fr lo m : Nat} {h : ax_H} {fs : List Value} {x : Int32} (hg : ax_g h m = some (.inr (11, fs))) (hl : fs.length = 39) : ax_M L xs 181 fr lo [.ref m, .int x] h (fun r h' => r = none ∧ h' = ax_put h m (.inr (11, fs.set 7 (.int 0)))) := by
  show ax_A (ax_step L xs) ((181, 0, fr, lo), [(0, .ref m), (1, .int x)], [], h) _
  refine ar_aload_n 1 d_181_0 rfl rfl ?_
  refine ar_iconst 2 (v := 0) d_181_1 rfl (by decide) ?_
  refine ar_putf 5 (fs.set 7 (.int 0)) d_181_2 rfl (ci := 11) (k := 7) rfl rfl hg (by rw [hl]; decide) rfl rfl rfl ?_
  exact ar_ret d_181_5 rfl (⟨rfl, rfl⟩)
theorem c_182 {L : Nat} {xs : Nat → Int32} {fr lo m : Nat} {h : ax_H} {fs : List Value} {x : Int32} (hg : ax_g h m = some (.inr (11, fs))) (hl : fs.length = 39) : ax_M L xs 182 fr lo [.ref m, .int x] h (fun r h' => r = none ∧ h' = ax_put h m (.inr (11, fs.set 7 (.int 0)))) := by
  show ax_A (ax_step L xs) ((182, 0, fr, lo), [(0, .ref m), (1, .int x)], [], h) _
  refine ar_aload_n 1 d_182_0 rfl rfl ?_
  refine ar_iconst 2 (v := 0) d_182_1 rfl (by decide) ?_
  refine ar_putf 5 (fs.set 7 (.int 0)) d_182_2 rfl (ci := 11) (k := 7) rfl rfl hg (by rw [hl]; decide) rfl rfl rfl ?_
  exact ar_ret d_182_5 rfl (⟨rfl, rfl⟩)
theorem c_183 {L : Nat} {xs : Nat → Int32} {fr lo m : Nat} {h : ax_H} {fs : List Value} {x : Int32} (hg : ax_g h m = some (.inr (11, fs))) (hl : fs.length = 39) : ax_M L xs 183 fr lo [.ref m, .int x] h (fun r h' => r = none ∧ h' = ax_put h m (.inr (11, fs.set 7 (.int 0)))) := by
  show ax_A (ax_step L xs) ((183, 0, fr, lo), [(0, .ref m), (1, .int x)], [], h) _
  refine ar_aload_n 1 d_183_0 rfl rfl ?_
  refine ar_iconst 2 (v := 0) d_183_1 rfl (by decide) ?_
  refine ar_putf 5 (fs.set 7 (.int 0)) d_183_2 rfl (ci := 11) (k := 7) rfl rfl hg (by rw [hl]; decide) rfl rfl rfl ?_
  exact ar_ret d_183_5 rfl (⟨rfl, rfl⟩)
theorem c_184 {L : Nat} {xs : Nat → Int32} {fr lo m : Nat} {h : ax_H} {fs : List Value} {x y : Int32} (hg : ax_g h m = some (.inr (11, fs))) (hl : fs.length = 39) : ax_M L xs 184 fr lo [.ref m, .int x, .int y] h (fun r h' => ((x < 1 ∨ ¬ x ≤ 500) ∧ r = some (.int (-1)) ∧ h' = h) ∨ (¬ x < 1 ∧ x ≤ 500 ∧ r = some (.int x) ∧ h' = ax_put h m (.inr (11, fs.set 7 (.int 0))))) := by
  show ax_A (ax_step L xs) ((184, 0, fr, lo), [(0, .ref m), (1, .int x), (2, .int y)], [], h) _
  refine ar_iload_n 1 d_184_0 rfl rfl ?_
  refine ar_iconst 2 (v := 1) d_184_1 rfl (by decide) ?_
  refine ar_icmp_lt 12 5 d_184_2 (by decide) rfl (fun c1 => ?_) (fun c1 => ?_)
  · refine ar_iconst 13 (v := -1) d_184_12 rfl (by decide) ?_
    exact ar_iret d_184_13 rfl rfl (Or.inl ⟨Or.inl c1, rfl, rfl⟩)
  · refine ar_iload_n 6 d_184_5 rfl rfl ?_
    refine ar_sipush 9 (v := 500) d_184_6 rfl (by decide) ?_
    refine ar_icmp_le 14 12 d_184_9 (by decide) rfl (fun c2 => ?_) (fun c2 => ?_)
    · refine ar_aload_n 15 d_184_14 rfl rfl ?_
      refine ar_iconst 16 (v := 0) d_184_15 rfl (by decide) ?_
      refine ar_putf 19 (fs.set 7 (.int 0)) d_184_16 rfl (ci := 11) (k := 7) rfl rfl hg (by rw [hl]; decide) rfl rfl rfl ?_
      refine ar_iload_n 20 d_184_19 rfl rfl ?_
      exact ar_iret d_184_20 rfl rfl (Or.inr ⟨c1, c2, rfl, rfl⟩)
    · refine ar_iconst 13 (v := -1) d_184_12 rfl (by decide) ?_
      exact ar_iret d_184_13 rfl rfl (Or.inl ⟨Or.inr c2, rfl, rfl⟩)
theorem c_185 {L : Nat} {xs : Nat → Int32} {fr lo m : Nat} {h : ax_H} {fs : List Value} {x : Int32} (hg : ax_g h m = some (.inr (11, fs))) (hl : fs.length = 39) : ax_M L xs 185 fr lo [.ref m, .int x] h (fun r h' => ((x < 1 ∨ ¬ x ≤ 50) ∧ r = some (.int (-1)) ∧ h' = h) ∨ (¬ x < 1 ∧ x ≤ 50 ∧ r = some (.int x) ∧ h' = ax_put h m (.inr (11, fs.set 7 (.int 0))))) := by
  show ax_A (ax_step L xs) ((185, 0, fr, lo), [(0, .ref m), (1, .int x)], [], h) _
  refine ar_iload_n 1 d_185_0 rfl rfl ?_
  refine ar_iconst 2 (v := 1) d_185_1 rfl (by decide) ?_
  refine ar_icmp_lt 11 5 d_185_2 (by decide) rfl (fun c1 => ?_) (fun c1 => ?_)
  · refine ar_iconst 12 (v := -1) d_185_11 rfl (by decide) ?_
    exact ar_iret d_185_12 rfl rfl (Or.inl ⟨Or.inl c1, rfl, rfl⟩)
  · refine ar_iload_n 6 d_185_5 rfl rfl ?_
    refine ar_bipush 8 (v := 50) d_185_6 rfl (by decide) ?_
    refine ar_icmp_le 13 11 d_185_8 (by decide) rfl (fun c2 => ?_) (fun c2 => ?_)
    · refine ar_aload_n 14 d_185_13 rfl rfl ?_
      refine ar_iconst 15 (v := 0) d_185_14 rfl (by decide) ?_
      refine ar_putf 18 (fs.set 7 (.int 0)) d_185_15 rfl (ci := 11) (k := 7) rfl rfl hg (by rw [hl]; decide) rfl rfl rfl ?_
      refine ar_iload_n 19 d_185_18 rfl rfl ?_
      exact ar_iret d_185_19 rfl rfl (Or.inr ⟨c1, c2, rfl, rfl⟩)
    · refine ar_iconst 12 (v := -1) d_185_11 rfl (by decide) ?_
      exact ar_iret d_185_12 rfl rfl (Or.inl ⟨Or.inr c2, rfl, rfl⟩)

/-! DISKS, exactly: isFull, isFresh, freshSlot, otherStamp, stamp, seal, isSealed, openFresh, write, erase; slotOf, freeSlot, seek -/
theorem d_57_0 : decode (axt_b 57) 0 = .ok (.aload_n 0, 1) := by decide +kernel
theorem d_57_1 : decode (axt_b 57) 1 = .ok (.getfield 22, 3) := by decide +kernel
theorem d_57_4 : decode (axt_b 57) 4 = .ok (.iload_n 1, 1) := by decide +kernel
theorem d_57_5 : decode (axt_b 57) 5 = .ok (.iaload, 1) := by decide +kernel
theorem d_57_6 : decode (axt_b 57) 6 = .ok (.ifCond .lt 7, 3) := by decide +kernel
theorem d_57_9 : decode (axt_b 57) 9 = .ok (.iconst 1, 1) := by decide +kernel
theorem d_57_10 : decode (axt_b 57) 10 = .ok (.goto 4, 3) := by decide +kernel
theorem d_57_13 : decode (axt_b 57) 13 = .ok (.iconst 0, 1) := by decide +kernel
theorem d_57_14 : decode (axt_b 57) 14 = .ok (.ireturn, 1) := by decide +kernel
theorem d_61_0 : decode (axt_b 61) 0 = .ok (.aload_n 0, 1) := by decide +kernel
theorem d_61_1 : decode (axt_b 61) 1 = .ok (.getfield 19, 3) := by decide +kernel
theorem d_61_4 : decode (axt_b 61) 4 = .ok (.iload_n 1, 1) := by decide +kernel
theorem d_61_5 : decode (axt_b 61) 5 = .ok (.iaload, 1) := by decide +kernel
theorem d_61_6 : decode (axt_b 61) 6 = .ok (.ireturn, 1) := by decide +kernel
theorem d_62_0 : decode (axt_b 62) 0 = .ok (.iconst 0, 1) := by decide +kernel
theorem d_62_1 : decode (axt_b 62) 1 = .ok (.istore_n 1, 1) := by decide +kernel
theorem d_62_2 : decode (axt_b 62) 2 = .ok (.iload_n 1, 1) := by decide +kernel
theorem d_62_3 : decode (axt_b 62) 3 = .ok (.sipush 280, 3) := by decide +kernel
theorem d_62_6 : decode (axt_b 62) 6 = .ok (.if_icmp .ge 32, 3) := by decide +kernel
theorem d_62_9 : decode (axt_b 62) 9 = .ok (.aload_n 0, 1) := by decide +kernel
theorem d_62_10 : decode (axt_b 62) 10 = .ok (.getfield 18, 3) := by decide +kernel
theorem d_62_13 : decode (axt_b 62) 13 = .ok (.iload_n 1, 1) := by decide +kernel
theorem d_62_14 : decode (axt_b 62) 14 = .ok (.iaload, 1) := by decide +kernel
theorem d_62_15 : decode (axt_b 62) 15 = .ok (.iconst (-1), 1) := by decide +kernel
theorem d_62_16 : decode (axt_b 62) 16 = .ok (.if_icmp .ne 16, 3) := by decide +kernel
theorem d_62_19 : decode (axt_b 62) 19 = .ok (.aload_n 0, 1) := by decide +kernel
theorem d_62_20 : decode (axt_b 62) 20 = .ok (.getfield 12, 3) := by decide +kernel
theorem d_62_23 : decode (axt_b 62) 23 = .ok (.iload_n 1, 1) := by decide +kernel
theorem d_62_24 : decode (axt_b 62) 24 = .ok (.invokevirtual 157, 3) := by decide +kernel
theorem d_62_27 : decode (axt_b 62) 27 = .ok (.ifCond .ne 5, 3) := by decide +kernel
theorem d_62_30 : decode (axt_b 62) 30 = .ok (.iload_n 1, 1) := by decide +kernel
theorem d_62_31 : decode (axt_b 62) 31 = .ok (.ireturn, 1) := by decide +kernel
theorem d_62_32 : decode (axt_b 62) 32 = .ok (.iinc 1 1, 3) := by decide +kernel
theorem d_62_35 : decode (axt_b 62) 35 = .ok (.goto (-33), 3) := by decide +kernel
theorem d_62_38 : decode (axt_b 62) 38 = .ok (.iconst (-1), 1) := by decide +kernel
theorem d_62_39 : decode (axt_b 62) 39 = .ok (.ireturn, 1) := by decide +kernel
theorem d_63_0 : decode (axt_b 63) 0 = .ok (.aload_n 0, 1) := by decide +kernel
theorem d_63_1 : decode (axt_b 63) 1 = .ok (.iload_n 1, 1) := by decide +kernel
theorem d_63_2 : decode (axt_b 63) 2 = .ok (.invokevirtual 39, 3) := by decide +kernel
theorem d_63_5 : decode (axt_b 63) 5 = .ok (.istore_n 3, 1) := by decide +kernel
theorem d_63_6 : decode (axt_b 63) 6 = .ok (.iload_n 3, 1) := by decide +kernel
theorem d_63_7 : decode (axt_b 63) 7 = .ok (.ifCond .lt 37, 3) := by decide +kernel
theorem d_63_10 : decode (axt_b 63) 10 = .ok (.aload_n 2, 1) := by decide +kernel
theorem d_63_11 : decode (axt_b 63) 11 = .ok (.iconst 0, 1) := by decide +kernel
theorem d_63_12 : decode (axt_b 63) 12 = .ok (.aload_n 0, 1) := by decide +kernel
theorem d_63_13 : decode (axt_b 63) 13 = .ok (.getfield 16, 3) := by decide +kernel
theorem d_63_16 : decode (axt_b 63) 16 = .ok (.iload_n 3, 1) := by decide +kernel
theorem d_63_17 : decode (axt_b 63) 17 = .ok (.sipush 128, 3) := by decide +kernel
theorem d_63_20 : decode (axt_b 63) 20 = .ok (.imul, 1) := by decide +kernel
theorem d_63_21 : decode (axt_b 63) 21 = .ok (.sipush 128, 3) := by decide +kernel
theorem d_63_24 : decode (axt_b 63) 24 = .ok (.invokestatic 43, 3) := by decide +kernel
theorem d_63_27 : decode (axt_b 63) 27 = .ok (.aload_n 0, 1) := by decide +kernel
theorem d_63_28 : decode (axt_b 63) 28 = .ok (.getfield 16, 3) := by decide +kernel
theorem d_63_31 : decode (axt_b 63) 31 = .ok (.iload_n 3, 1) := by decide +kernel
theorem d_63_32 : decode (axt_b 63) 32 = .ok (.sipush 128, 3) := by decide +kernel
theorem d_63_35 : decode (axt_b 63) 35 = .ok (.imul, 1) := by decide +kernel
theorem d_63_36 : decode (axt_b 63) 36 = .ok (.aload_n 0, 1) := by decide +kernel
theorem d_63_37 : decode (axt_b 63) 37 = .ok (.iload_n 1, 1) := by decide +kernel
theorem d_63_38 : decode (axt_b 63) 38 = .ok (.invokevirtual 49, 3) := by decide +kernel
theorem d_63_41 : decode (axt_b 63) 41 = .ok (.invokestatic 31, 3) := by decide +kernel
theorem d_63_44 : decode (axt_b 63) 44 = .ok (.return_, 1) := by decide +kernel
theorem d_64_0 : decode (axt_b 64) 0 = .ok (.aload_n 0, 1) := by decide +kernel
theorem d_64_1 : decode (axt_b 64) 1 = .ok (.getfield 10, 3) := by decide +kernel
theorem d_64_4 : decode (axt_b 64) 4 = .ok (.iload_n 1, 1) := by decide +kernel
theorem d_64_5 : decode (axt_b 64) 5 = .ok (.sipush 128, 3) := by decide +kernel
theorem d_64_8 : decode (axt_b 64) 8 = .ok (.imul, 1) := by decide +kernel
theorem d_64_9 : decode (axt_b 64) 9 = .ok (.bipush 127, 2) := by decide +kernel
theorem d_64_11 : decode (axt_b 64) 11 = .ok (.iadd, 1) := by decide +kernel
theorem d_64_12 : decode (axt_b 64) 12 = .ok (.iaload, 1) := by decide +kernel
theorem d_64_13 : decode (axt_b 64) 13 = .ok (.sipush 255, 3) := by decide +kernel
theorem d_64_16 : decode (axt_b 64) 16 = .ok (.iand, 1) := by decide +kernel
theorem d_64_17 : decode (axt_b 64) 17 = .ok (.iconst 1, 1) := by decide +kernel
theorem d_64_18 : decode (axt_b 64) 18 = .ok (.if_icmp .ne 7, 3) := by decide +kernel
theorem d_64_21 : decode (axt_b 64) 21 = .ok (.iconst 2, 1) := by decide +kernel
theorem d_64_22 : decode (axt_b 64) 22 = .ok (.goto 4, 3) := by decide +kernel
theorem d_64_25 : decode (axt_b 64) 25 = .ok (.iconst 1, 1) := by decide +kernel
theorem d_64_26 : decode (axt_b 64) 26 = .ok (.ireturn, 1) := by decide +kernel
theorem d_65_0 : decode (axt_b 65) 0 = .ok (.aload_n 0, 1) := by decide +kernel
theorem d_65_1 : decode (axt_b 65) 1 = .ok (.iload_n 1, 1) := by decide +kernel
theorem d_65_2 : decode (axt_b 65) 2 = .ok (.iload_n 2, 1) := by decide +kernel
theorem d_65_3 : decode (axt_b 65) 3 = .ok (.bipush 24, 2) := by decide +kernel
theorem d_65_5 : decode (axt_b 65) 5 = .ok (.ishl, 1) := by decide +kernel
theorem d_65_6 : decode (axt_b 65) 6 = .ok (.iastore, 1) := by decide +kernel
theorem d_65_7 : decode (axt_b 65) 7 = .ok (.aload_n 0, 1) := by decide +kernel
theorem d_65_8 : decode (axt_b 65) 8 = .ok (.iload_n 1, 1) := by decide +kernel
theorem d_65_9 : decode (axt_b 65) 9 = .ok (.bipush 127, 2) := by decide +kernel
theorem d_65_11 : decode (axt_b 65) 11 = .ok (.iadd, 1) := by decide +kernel
theorem d_65_12 : decode (axt_b 65) 12 = .ok (.iload_n 2, 1) := by decide +kernel
theorem d_65_13 : decode (axt_b 65) 13 = .ok (.iastore, 1) := by decide +kernel
theorem d_65_14 : decode (axt_b 65) 14 = .ok (.return_, 1) := by decide +kernel
theorem d_117_0 : decode (axt_b 117) 0 = .ok (.aload_n 0, 1) := by decide +kernel
theorem d_117_1 : decode (axt_b 117) 1 = .ok (.iload_n 1, 1) := by decide +kernel
theorem d_117_2 : decode (axt_b 117) 2 = .ok (.iconst 1, 1) := by decide +kernel
theorem d_117_3 : decode (axt_b 117) 3 = .ok (.iadd, 1) := by decide +kernel
theorem d_117_4 : decode (axt_b 117) 4 = .ok (.iload_n 2, 1) := by decide +kernel
theorem d_117_5 : decode (axt_b 117) 5 = .ok (.iastore, 1) := by decide +kernel
theorem d_117_6 : decode (axt_b 117) 6 = .ok (.aload_n 0, 1) := by decide +kernel
theorem d_117_7 : decode (axt_b 117) 7 = .ok (.iload_n 1, 1) := by decide +kernel
theorem d_117_8 : decode (axt_b 117) 8 = .ok (.iconst 1, 1) := by decide +kernel
theorem d_117_9 : decode (axt_b 117) 9 = .ok (.invokestatic 31, 3) := by decide +kernel
theorem d_117_12 : decode (axt_b 117) 12 = .ok (.return_, 1) := by decide +kernel
theorem d_120_0 : decode (axt_b 120) 0 = .ok (.aload_n 0, 1) := by decide +kernel
theorem d_120_1 : decode (axt_b 120) 1 = .ok (.iload_n 1, 1) := by decide +kernel
theorem d_120_2 : decode (axt_b 120) 2 = .ok (.iaload, 1) := by decide +kernel
theorem d_120_3 : decode (axt_b 120) 3 = .ok (.ifCond .eq 7, 3) := by decide +kernel
theorem d_120_6 : decode (axt_b 120) 6 = .ok (.iconst 1, 1) := by decide +kernel
theorem d_120_7 : decode (axt_b 120) 7 = .ok (.goto 4, 3) := by decide +kernel
theorem d_120_10 : decode (axt_b 120) 10 = .ok (.iconst 0, 1) := by decide +kernel
theorem d_120_11 : decode (axt_b 120) 11 = .ok (.ireturn, 1) := by decide +kernel
theorem d_156_0 : decode (axt_b 156) 0 = .ok (.iconst 0, 1) := by decide +kernel
theorem d_156_1 : decode (axt_b 156) 1 = .ok (.istore_n 2, 1) := by decide +kernel
theorem d_156_2 : decode (axt_b 156) 2 = .ok (.iload_n 2, 1) := by decide +kernel
theorem d_156_3 : decode (axt_b 156) 3 = .ok (.sipush 280, 3) := by decide +kernel
theorem d_156_6 : decode (axt_b 156) 6 = .ok (.if_icmp .ge 28, 3) := by decide +kernel
theorem d_156_9 : decode (axt_b 156) 9 = .ok (.aload_n 0, 1) := by decide +kernel
theorem d_156_10 : decode (axt_b 156) 10 = .ok (.iload_n 2, 1) := by decide +kernel
theorem d_156_11 : decode (axt_b 156) 11 = .ok (.invokevirtual 70, 3) := by decide +kernel
theorem d_156_14 : decode (axt_b 156) 14 = .ok (.iload_n 1, 1) := by decide +kernel
theorem d_156_15 : decode (axt_b 156) 15 = .ok (.if_icmp .ne 13, 3) := by decide +kernel
theorem d_156_18 : decode (axt_b 156) 18 = .ok (.aload_n 0, 1) := by decide +kernel
theorem d_156_19 : decode (axt_b 156) 19 = .ok (.iload_n 2, 1) := by decide +kernel
theorem d_156_20 : decode (axt_b 156) 20 = .ok (.invokevirtual 73, 3) := by decide +kernel
theorem d_156_23 : decode (axt_b 156) 23 = .ok (.ifCond .eq 5, 3) := by decide +kernel
theorem d_156_26 : decode (axt_b 156) 26 = .ok (.iload_n 2, 1) := by decide +kernel
theorem d_156_27 : decode (axt_b 156) 27 = .ok (.ireturn, 1) := by decide +kernel
theorem d_156_28 : decode (axt_b 156) 28 = .ok (.iinc 2 1, 3) := by decide +kernel
theorem d_156_31 : decode (axt_b 156) 31 = .ok (.goto (-29), 3) := by decide +kernel
theorem d_156_34 : decode (axt_b 156) 34 = .ok (.iconst (-1), 1) := by decide +kernel
theorem d_156_35 : decode (axt_b 156) 35 = .ok (.ireturn, 1) := by decide +kernel
/-- the first of k places from i on, or -1 -/
def fst1 (P : Nat → Bool) : Nat → Nat → Int32
  | 0, _ => -1
  | k + 1, i => if P i = true then nI i else fst1 P k (i + 1)
theorem fst1_spec (P : Nat → Bool) : ∀ (k i : Nat), (∃ j, i ≤ j ∧ j < i + k ∧ P j = true ∧ (∀ l, i ≤ l → l < j → P l = false) ∧ fst1 P k i = nI j) ∨ ((∀ l, i ≤ l → l < i + k → P l = false) ∧ fst1 P k i = -1) := by
  intro k
  induction k with
  | zero =>
    intro i
    exact Or.inr ⟨fun l h1 h2 => by omega, rfl⟩
  | succ k ih =>
    intro i
    by_cases hP : P i = true
    · exact Or.inl ⟨i, by omega, by omega, hP, fun l h1 h2 => by omega, if_pos hP⟩
    · have e : fst1 P (k + 1) i = fst1 P k (i + 1) := if_neg hP
      have hPf : P i = false := by simpa using hP
      rcases ih (i + 1) with ⟨j, h1, h2, h3, h4, h5⟩ | ⟨h1, h2⟩
      · refine Or.inl ⟨j, by omega, by omega, h3, fun l h6 h7 => ?_, e.trans h5⟩
        by_cases hl : l = i
        · rw [hl]
          exact hPf
        · exact h4 l (by omega) h7
      · refine Or.inr ⟨fun l h6 h7 => ?_, e.trans h2⟩
        by_cases hl : l = i
        · rw [hl]
          exact hPf
        · exact h1 l (by omega) (by omega)
theorem c_57 {L : Nat} {xs : Nat → Int32} {fr lo : Nat} {h : ax_H} {dk da db dc dd : Nat} {dn : Int32} {ow : Nat → Int32} {i : Nat} (hi : i < 280) (hF : ax_hs h [(dk, .inr (8, [.ref da, .ref db, .ref dc, .ref dd, .int dn])), (dd, .inl (0, 280, .inl ow))]) : ax_M L xs 57 fr lo [.ref dk, .int (nI i)] h (fun r h' => r = some (.int (if ow i < 0 then 0 else 1)) ∧ h' = h) := by
  show ax_A (ax_step L xs) ((57, 0, fr, lo), [(0, .ref dk), (1, .int (nI i))], [], h) _
  refine ar_aload_n 1 d_57_0 rfl rfl ?_
  refine ar_getf 4 d_57_1 rfl (ci := 8) (k := 3) rfl (hF.at 0 rfl) rfl ?_
  refine ar_iload_n 5 d_57_4 rfl rfl ?_
  refine ar_iald 6 d_57_5 rfl (hF.at 1 rfl) (nI_in hi (by omega)) ?_
  refine ar_top (x' := ow i) (by rw [nI_clamp (by omega)]) ?_
  refine ar_if_lt 13 9 d_57_6 (by decide) rfl (fun c1 => ?_) (fun c1 => ?_)
  · refine ar_iconst 14 (v := 0) d_57_13 rfl (by decide) ?_
    exact ar_iret d_57_14 rfl rfl (⟨by rw [if_pos c1], rfl⟩)
  · refine ar_iconst 10 (v := 1) d_57_9 rfl (by decide) ?_
    refine ar_goto 14 d_57_10 (by decide) ?_
    exact ar_iret d_57_14 rfl rfl (⟨by rw [if_neg c1], rfl⟩)
theorem c_61 {L : Nat} {xs : Nat → Int32} {fr lo : Nat} {h : ax_H} {dk da db dc dd : Nat} {dn : Int32} {sw : Nat → Int32} {i : Nat} (hi : i < 32) (hF : ax_hs h [(dk, .inr (8, [.ref da, .ref db, .ref dc, .ref dd, .int dn])), (dc, .inl (0, 32, .inl sw))]) : ax_M L xs 61 fr lo [.ref dk, .int (nI i)] h (fun r h' => r = some (.int (sw i)) ∧ h' = h) := by
  show ax_A (ax_step L xs) ((61, 0, fr, lo), [(0, .ref dk), (1, .int (nI i))], [], h) _
  refine ar_aload_n 1 d_61_0 rfl rfl ?_
  refine ar_getf 4 d_61_1 rfl (ci := 8) (k := 2) rfl (hF.at 0 rfl) rfl ?_
  refine ar_iload_n 5 d_61_4 rfl rfl ?_
  refine ar_iald 6 d_61_5 rfl (hF.at 1 rfl) (nI_in hi (by omega)) ?_
  refine ar_top (x' := sw i) (by rw [nI_clamp (by omega)]) ?_
  exact ar_iret d_61_6 rfl rfl (⟨rfl, rfl⟩)
/-- the STAMP of a new block at the place i -/
def ostB (ff : Nat → Int32) (i : Nat) : Int32 := if lstB (ff (i * 128 + 127)) = 1 then 2 else 1
theorem c_64 {L : Nat} {xs : Nat → Int32} {fr lo : Nat} {h : ax_H} {dk da db dc dd : Nat} {dn : Int32} {ff : Nat → Int32} {i : Nat} (hi : i < 280) (hF : ax_hs h [(dk, .inr (8, [.ref da, .ref db, .ref dc, .ref dd, .int dn])), (da, .inl (0, 35840, .inl ff))]) : ax_M L xs 64 fr lo [.ref dk, .int (nI i)] h (fun r h' => r = some (.int (ostB ff i)) ∧ h' = h) := by
  show ax_A (ax_step L xs) ((64, 0, fr, lo), [(0, .ref dk), (1, .int (nI i))], [], h) _
  refine ar_aload_n 1 d_64_0 rfl rfl ?_
  refine ar_getf 4 d_64_1 rfl (ci := 8) (k := 0) rfl (hF.at 0 rfl) rfl ?_
  refine ar_iload_n 5 d_64_4 rfl rfl ?_
  refine ar_sipush 8 (v := 128) d_64_5 rfl (by decide) ?_
  refine ar_imul 9 d_64_8 rfl ?_
  refine ar_top (x' := nI (i * 128)) (pk_mul i 128) ?_
  refine ar_bipush 11 (v := 127) d_64_9 rfl (by decide) ?_
  refine ar_iadd 12 d_64_11 rfl ?_
  refine ar_top (x' := nI (i * 128 + 127)) (nI_add (i * 128) 127) ?_
  refine ar_iald 13 d_64_12 rfl (hF.at 1 rfl) (nI_in (by omega) (by omega)) ?_
  refine ar_top (x' := ff (i * 128 + 127)) (by rw [nI_clamp (by omega)]) ?_
  refine ar_sipush 16 (v := 255) d_64_13 rfl (by decide) ?_
  refine ar_iand 17 d_64_16 rfl ?_
  refine ar_top (x' := lstB (ff (i * 128 + 127))) (rfl) ?_
  refine ar_iconst 18 (v := 1) d_64_17 rfl (by decide) ?_
  refine ar_icmp_ne 25 21 d_64_18 (by decide) rfl (fun c1 => ?_) (fun c1 => ?_)
  · refine ar_iconst 26 (v := 1) d_64_25 rfl (by decide) ?_
    exact ar_iret d_64_26 rfl rfl (⟨by rw [ostB, if_neg c1], rfl⟩)
  · refine ar_iconst 22 (v := 2) d_64_21 rfl (by decide) ?_
    refine ar_goto 26 d_64_22 (by decide) ?_
    exact ar_iret d_64_26 rfl rfl (⟨by rw [ostB, if_pos (Decidable.not_not.mp c1)], rfl⟩)
theorem c_120 {L : Nat} {xs : Nat → Int32} {fr lo : Nat} {h : ax_H} {a N i : Nat} {wf : Nat → Int32} (hN : N < 2 ^ 31) (hi : i < N) (hF : ax_hs h [(a, .inl (0, N, .inl wf))]) : ax_M L xs 120 fr lo [.ref a, .int (nI i)] h (fun r h' => r = some (.int (if wf i = 0 then 0 else 1)) ∧ h' = h) := by
  show ax_A (ax_step L xs) ((120, 0, fr, lo), [(0, .ref a), (1, .int (nI i))], [], h) _
  refine ar_aload_n 1 d_120_0 rfl rfl ?_
  refine ar_iload_n 2 d_120_1 rfl rfl ?_
  refine ar_iald 3 d_120_2 rfl (hF.at 0 rfl) (nI_in hi (by omega)) ?_
  refine ar_top (x' := wf i) (by rw [nI_clamp (by omega)]) ?_
  refine ar_if_eq 10 6 d_120_3 (by decide) rfl (fun c1 => ?_) (fun c1 => ?_)
  · refine ar_iconst 11 (v := 0) d_120_10 rfl (by decide) ?_
    exact ar_iret d_120_11 rfl rfl (⟨by rw [if_pos c1], rfl⟩)
  · refine ar_iconst 7 (v := 1) d_120_6 rfl (by decide) ?_
    refine ar_goto 11 d_120_7 (by decide) ?_
    exact ar_iret d_120_11 rfl rfl (⟨by rw [if_neg c1], rfl⟩)
def stmp (wf : Nat → Int32) (i : Nat) (v : Int32) : Nat → Int32 := upd (upd wf i (v <<< (24 &&& 31))) (i + 127) v
def seald (wf : Nat → Int32) (i : Nat) (t : Int32) : Nat → Int32 := stmp (upd wf (i + 1) t) i 1
theorem c_65 {L : Nat} {xs : Nat → Int32} {fr lo : Nat} {h : ax_H} {a N i : Nat} {wf : Nat → Int32} {v : Int32} (hN : N < 2 ^ 31) (hi : i + 127 < N) (hF : ax_hs h [(a, .inl (0, N, .inl wf))]) : ax_M L xs 65 fr lo [.ref a, .int (nI i), .int v] h (fun r h' => r = none ∧ h' = ax_put h a (.inl (0, N, .inl (stmp wf i v)))) := by
  show ax_A (ax_step L xs) ((65, 0, fr, lo), [(0, .ref a), (1, .int (nI i)), (2, .int v)], [], h) _
  refine ar_aload_n 1 d_65_0 rfl rfl ?_
  refine ar_iload_n 2 d_65_1 rfl rfl ?_
  refine ar_iload_n 3 d_65_2 rfl rfl ?_
  refine ar_bipush 5 (v := 24) d_65_3 rfl (by decide) ?_
  refine ar_ishl 6 d_65_5 rfl ?_
  refine ar_iast 7 d_65_6 rfl (hF.at 0 rfl) (nI_in (by omega) (by omega)) ?_
  have hF : ax_hs (ax_put h a (.inl (0, N, .inl (upd wf (nI i).toNatClampNeg (v <<< (24 &&& 31)))))) [(a, .inl (0, N, .inl (upd wf (nI i).toNatClampNeg (v <<< (24 &&& 31)))))] := hF.put 0 _ rfl rfl
  refine ar_aload_n 8 d_65_7 rfl rfl ?_
  refine ar_iload_n 9 d_65_8 rfl rfl ?_
  refine ar_bipush 11 (v := 127) d_65_9 rfl (by decide) ?_
  refine ar_iadd 12 d_65_11 rfl ?_
  refine ar_top (x' := nI (i + 127)) (nI_add i 127) ?_
  refine ar_iload_n 13 d_65_12 rfl rfl ?_
  refine ar_iast 14 d_65_13 rfl (hF.at 0 rfl) (nI_in (by omega) (by omega)) ?_
  have hF : ax_hs (ax_put (ax_put h a (.inl (0, N, .inl (upd wf (nI i).toNatClampNeg (v <<< (24 &&& 31)))))) a (.inl (0, N, .inl (upd (upd wf (nI i).toNatClampNeg (v <<< (24 &&& 31))) (nI (i + 127)).toNatClampNeg v)))) [(a, .inl (0, N, .inl (upd (upd wf (nI i).toNatClampNeg (v <<< (24 &&& 31))) (nI (i + 127)).toNatClampNeg v)))] := hF.put 0 _ rfl rfl
  exact ar_ret d_65_14 rfl (⟨rfl, by rw [nI_clamp (by omega), nI_clamp (by omega), ag_put2]; rfl⟩)
theorem c_117 {L : Nat} {xs : Nat → Int32} {fr lo : Nat} {h : ax_H} {a N i : Nat} {wf : Nat → Int32} {v : Int32} (hfr : 1 ≤ fr) (hlo : 30 ≤ lo) (hN : N < 2 ^ 31) (hi : i + 127 < N) (hF : ax_hs h [(a, .inl (0, N, .inl wf))]) : ax_M L xs 117 fr lo [.ref a, .int (nI i), .int v] h (fun r h' => r = none ∧ h' = ax_put h a (.inl (0, N, .inl (seald wf i v)))) := by
  show ax_A (ax_step L xs) ((117, 0, fr, lo), [(0, .ref a), (1, .int (nI i)), (2, .int v)], [], h) _
  refine ar_aload_n 1 d_117_0 rfl rfl ?_
  refine ar_iload_n 2 d_117_1 rfl rfl ?_
  refine ar_iconst 3 (v := 1) d_117_2 rfl (by decide) ?_
  refine ar_iadd 4 d_117_3 rfl ?_
  refine ar_top (x' := nI (i + 1)) (nI_add i 1) ?_
  refine ar_iload_n 5 d_117_4 rfl rfl ?_
  refine ar_iast 6 d_117_5 rfl (hF.at 0 rfl) (nI_in (by omega) (by omega)) ?_
  have hF : ax_hs (ax_put h a (.inl (0, N, .inl (upd wf (nI (i + 1)).toNatClampNeg v)))) [(a, .inl (0, N, .inl (upd wf (nI (i + 1)).toNatClampNeg v)))] := hF.put 0 _ rfl rfl
  refine ar_aload_n 7 d_117_6 rfl rfl ?_
  refine ar_iload_n 8 d_117_7 rfl rfl ?_
  refine ar_iconst 9 (v := 1) d_117_8 rfl (by decide) ?_
  refine ar_call (r := []) (na := 0) (kd := 0) (cm := 65) (fr2 := fr - 1) (lo2 := lo - 22) 12 d_117_9 (ar_hoS (as := [.ref a, .int (nI i), .int 1]) rfl rfl rfl) rfl (by omega) (show lo - 22 + (19 + 3) = lo by omega) (Nat.le_of_ble_eq_true rfl) (Nat.le_of_ble_eq_true rfl) (c_65 hN hi hF) ?_
  intro v hh hq
  obtain ⟨rfl, rfl⟩ := hq
  exact ar_ret d_117_12 rfl (⟨rfl, by rw [nI_clamp (by omega), ag_put2]; rfl⟩)
theorem c_22 {L : Nat} {xs : Nat → Int32} {fr lo : Nat} {h : ax_H} {nd rk nt dk ld tg : Nat} {me up ne ns : Int32} {t : Int32} {tf : Nat → Int32} (hF : ax_hs h [(nd, .inr (7, [.int me, .ref rk, .ref nt, .ref dk, .ref ld, .ref tg, .int up, .int ne, .int ns])), (tg, .inl (0, 280, .inl tf))]) : ax_M L xs 22 fr lo [.ref nd, .int t] h (fun r h' => r = some (.int (fst1 (fun i => decide (tf i = t)) 280 0)) ∧ h' = h) := by
  have key : ∀ (k i : Nat), i + k = 280 → ax_A (ax_step L xs) ((22, 2, fr, lo), [(0, .ref nd), (1, .int t), (2, .int (nI i))], [], h) (fun r h' => r = some (.int (fst1 (fun i => decide (tf i = t)) k i)) ∧ h' = h) := by
    intro k
    induction k with
    | zero =>
      intro i hi
      have e0 : i = 280 := by omega
      subst e0
      refine ar_iload_n 3 d_22_2 rfl rfl ?_
      refine ar_sipush 6 (v := 280) d_22_3 rfl (by decide) ?_
      refine ar_top (x' := nI 280) rfl ?_
      refine ar_icmp_ge 27 9 d_22_6 (by decide) rfl (fun _ => ?_) (fun c => absurd (Int32.le_refl _) c)
      refine ar_iconst 28 (v := -1) d_22_27 rfl (by decide) ?_
      exact ar_iret d_22_28 rfl rfl (⟨rfl, rfl⟩)
    | succ k ih =>
      intro i hi
      have hi9 : i < 280 := by omega
      refine ar_iload_n 3 d_22_2 rfl rfl ?_
      refine ar_sipush 6 (v := 280) d_22_3 rfl (by decide) ?_
      refine ar_top (x' := nI 280) rfl ?_
      refine ar_icmp_ge 27 9 d_22_6 (by decide) rfl (fun c => absurd c (nI_ge hi9 (by omega))) (fun _ => ?_)
      refine ar_aload_n 10 d_22_9 rfl rfl ?_
      refine ar_getf 13 d_22_10 rfl (ci := 7) (k := 5) rfl (hF.at 0 rfl) rfl ?_
      refine ar_iload_n 14 d_22_13 rfl rfl ?_
      refine ar_iald 15 d_22_14 rfl (hF.at 1 rfl) (nI_in hi9 (by omega)) ?_
      refine ar_top (x' := tf i) (by rw [nI_clamp (by omega)]) ?_
      refine ar_iload_n 16 d_22_15 rfl rfl ?_
      refine ar_icmp_ne 21 19 d_22_16 (by decide) rfl (fun c1 => ?_) (fun c1 => ?_)
      · refine ar_iinc 24 [(0, .ref nd), (1, .int t), (2, .int (nI (i + 1)))] d_22_21 rfl rfl (nI_1 i) (by decide) rfl ?_
        refine ar_goto 2 d_22_24 (by decide) ?_
        rw [show fst1 (fun i => decide (tf i = t)) (k + 1) i = fst1 (fun i => decide (tf i = t)) k (i + 1) from if_neg (fun z => c1 (of_decide_eq_true z))]
        exact ih (i + 1) (by omega)
      · refine ar_iload_n 20 d_22_19 rfl rfl ?_
        exact ar_iret d_22_20 rfl rfl (⟨by rw [show fst1 (fun i => decide (tf i = t)) (k + 1) i = nI i from if_pos (decide_eq_true (Decidable.not_not.mp c1))], rfl⟩)
  show ax_A (ax_step L xs) ((22, 0, fr, lo), [(0, .ref nd), (1, .int t)], [], h) _
  refine ar_iconst 1 (v := 0) d_22_0 rfl (by decide) ?_
  refine ar_istore_n 2 [(0, .ref nd), (1, .int t), (2, .int 0)] d_22_1 rfl (by decide) rfl ?_
  exact key 280 0 (by omega)
theorem c_62 {L : Nat} {xs : Nat → Int32} {fr lo : Nat} {h : ax_H} {nd rk nt dk ld tg : Nat} {me up ne ns : Int32} {da db dc dd : Nat} {dn : Int32} {tf ow : Nat → Int32} (hfr : 1 ≤ fr) (hlo : 40 ≤ lo) (hF : ax_hs h [(nd, .inr (7, [.int me, .ref rk, .ref nt, .ref dk, .ref ld, .ref tg, .int up, .int ne, .int ns])), (dk, .inr (8, [.ref da, .ref db, .ref dc, .ref dd, .int dn])), (tg, .inl (0, 280, .inl tf)), (dd, .inl (0, 280, .inl ow))]) : ax_M L xs 62 fr lo [.ref nd] h (fun r h' => r = some (.int (fst1 (fun i => decide (tf i = -1 ∧ ow i < 0)) 280 0)) ∧ h' = h) := by
  have key : ∀ (k i : Nat), i + k = 280 → ax_A (ax_step L xs) ((62, 2, fr, lo), [(0, .ref nd), (1, .int (nI i))], [], h) (fun r h' => r = some (.int (fst1 (fun i => decide (tf i = -1 ∧ ow i < 0)) k i)) ∧ h' = h) := by
    intro k
    induction k with
    | zero =>
      intro i hi
      have e0 : i = 280 := by omega
      subst e0
      refine ar_iload_n 3 d_62_2 rfl rfl ?_
      refine ar_sipush 6 (v := 280) d_62_3 rfl (by decide) ?_
      refine ar_top (x' := nI 280) rfl ?_
      refine ar_icmp_ge 38 9 d_62_6 (by decide) rfl (fun _ => ?_) (fun c => absurd (Int32.le_refl _) c)
      refine ar_iconst 39 (v := -1) d_62_38 rfl (by decide) ?_
      exact ar_iret d_62_39 rfl rfl (⟨rfl, rfl⟩)
    | succ k ih =>
      intro i hi
      have hi9 : i < 280 := by omega
      refine ar_iload_n 3 d_62_2 rfl rfl ?_
      refine ar_sipush 6 (v := 280) d_62_3 rfl (by decide) ?_
      refine ar_top (x' := nI 280) rfl ?_
      refine ar_icmp_ge 38 9 d_62_6 (by decide) rfl (fun c => absurd c (nI_ge hi9 (by omega))) (fun _ => ?_)
      refine ar_aload_n 10 d_62_9 rfl rfl ?_
      refine ar_getf 13 d_62_10 rfl (ci := 7) (k := 5) rfl (hF.at 0 rfl) rfl ?_
      refine ar_iload_n 14 d_62_13 rfl rfl ?_
      refine ar_iald 15 d_62_14 rfl (hF.at 2 rfl) (nI_in hi9 (by omega)) ?_
      refine ar_top (x' := tf i) (by rw [nI_clamp (by omega)]) ?_
      refine ar_iconst 16 (v := -1) d_62_15 rfl (by decide) ?_
      refine ar_icmp_ne 32 19 d_62_16 (by decide) rfl (fun c1 => ?_) (fun c1 => ?_)
      · refine ar_iinc 35 [(0, .ref nd), (1, .int (nI (i + 1)))] d_62_32 rfl rfl (nI_1 i) (by decide) rfl ?_
        refine ar_goto 2 d_62_35 (by decide) ?_
        rw [show fst1 (fun i => decide (tf i = -1 ∧ ow i < 0)) (k + 1) i = fst1 (fun i => decide (tf i = -1 ∧ ow i < 0)) k (i + 1) from if_neg (fun z => c1 (of_decide_eq_true z).1)]
        exact ih (i + 1) (by omega)
      · refine ar_aload_n 20 d_62_19 rfl rfl ?_
        refine ar_getf 23 d_62_20 rfl (ci := 7) (k := 3) rfl (hF.at 0 rfl) rfl ?_
        refine ar_iload_n 24 d_62_23 rfl rfl ?_
        refine ar_call (r := []) (na := 0) (kd := 0) (cm := 57) (fr2 := fr - 1) (lo2 := lo - 21) 27 d_62_24 (ar_hoV (as := [.int (nI i)]) rfl rfl rfl (hF.at 1 rfl)) rfl (by omega) (show lo - 21 + (19 + 2) = lo by omega) (Nat.le_of_ble_eq_true rfl) (Nat.le_of_ble_eq_true rfl) (c_57 hi9 (hF.sub (F' := [(dk, .inr (8, [.ref da, .ref db, .ref dc, .ref dd, .int dn])), (dd, .inl (0, 280, .inl ow))]) [1, 3] rfl rfl)) ?_
        intro v hh hq
        obtain ⟨rfl, ehh⟩ := hq
        rw [ehh]
        clear ehh
        refine ar_if_ne 32 30 d_62_27 (by decide) rfl (fun c2 => ?_) (fun c2 => ?_)
        · refine ar_iinc 35 [(0, .ref nd), (1, .int (nI (i + 1)))] d_62_32 rfl rfl (nI_1 i) (by decide) rfl ?_
          refine ar_goto 2 d_62_35 (by decide) ?_
          rw [show fst1 (fun i => decide (tf i = -1 ∧ ow i < 0)) (k + 1) i = fst1 (fun i => decide (tf i = -1 ∧ ow i < 0)) k (i + 1) from if_neg (fun z => c2 (by rw [if_pos (of_decide_eq_true z).2]))]
          exact ih (i + 1) (by omega)
        · refine ar_iload_n 31 d_62_30 rfl rfl ?_
          exact ar_iret d_62_31 rfl rfl (⟨by rw [show fst1 (fun i => decide (tf i = -1 ∧ ow i < 0)) (k + 1) i = nI i from if_pos (decide_eq_true ⟨Decidable.not_not.mp c1, by by_cases q : ow i < 0; exact q; exact absurd (by rw [if_neg q]; decide) c2⟩)], rfl⟩)
  show ax_A (ax_step L xs) ((62, 0, fr, lo), [(0, .ref nd)], [], h) _
  refine ar_iconst 1 (v := 0) d_62_0 rfl (by decide) ?_
  refine ar_istore_n 2 [(0, .ref nd), (1, .int 0)] d_62_1 rfl (by decide) rfl ?_
  exact key 280 0 (by omega)
theorem c_156 {L : Nat} {xs : Nat → Int32} {fr lo : Nat} {h : ax_H} {dk da db dc dd : Nat} {dn : Int32} {t : Int32} {ff : Nat → Int32} (hfr : 1 ≤ fr) (hlo : 40 ≤ lo) (hF : ax_hs h [(dk, .inr (8, [.ref da, .ref db, .ref dc, .ref dd, .int dn])), (da, .inl (0, 35840, .inl ff))]) : ax_M L xs 156 fr lo [.ref dk, .int t] h (fun r h' => r = some (.int (fst1 (fun i => decide (ff (i * 128 + 1) = t ∧ ¬ fstB (ff (i * 128)) = 0 ∧ fstB (ff (i * 128)) = lstB (ff (i * 128 + 127)))) 280 0)) ∧ h' = h) := by
  have key : ∀ (k i : Nat), i + k = 280 → ax_A (ax_step L xs) ((156, 2, fr, lo), [(0, .ref dk), (1, .int t), (2, .int (nI i))], [], h) (fun r h' => r = some (.int (fst1 (fun i => decide (ff (i * 128 + 1) = t ∧ ¬ fstB (ff (i * 128)) = 0 ∧ fstB (ff (i * 128)) = lstB (ff (i * 128 + 127)))) k i)) ∧ h' = h) := by
    intro k
    induction k with
    | zero =>
      intro i hi
      have e0 : i = 280 := by omega
      subst e0
      refine ar_iload_n 3 d_156_2 rfl rfl ?_
      refine ar_sipush 6 (v := 280) d_156_3 rfl (by decide) ?_
      refine ar_top (x' := nI 280) rfl ?_
      refine ar_icmp_ge 34 9 d_156_6 (by decide) rfl (fun _ => ?_) (fun c => absurd (Int32.le_refl _) c)
      refine ar_iconst 35 (v := -1) d_156_34 rfl (by decide) ?_
      exact ar_iret d_156_35 rfl rfl (⟨rfl, rfl⟩)
    | succ k ih =>
      intro i hi
      have hi9 : i < 280 := by omega
      refine ar_iload_n 3 d_156_2 rfl rfl ?_
      refine ar_sipush 6 (v := 280) d_156_3 rfl (by decide) ?_
      refine ar_top (x' := nI 280) rfl ?_
      refine ar_icmp_ge 34 9 d_156_6 (by decide) rfl (fun c => absurd c (nI_ge hi9 (by omega))) (fun _ => ?_)
      refine ar_aload_n 10 d_156_9 rfl rfl ?_
      refine ar_iload_n 11 d_156_10 rfl rfl ?_
      refine ar_call (r := []) (na := 0) (kd := 0) (cm := 21) (fr2 := fr - 1) (lo2 := lo - 21) 14 d_156_11 (ar_hoV (as := [.int (nI i)]) rfl rfl rfl (hF.at 0 rfl)) rfl (by omega) (show lo - 21 + (19 + 2) = lo by omega) (Nat.le_of_ble_eq_true rfl) (Nat.le_of_ble_eq_true rfl) (c_21 hi9 hF) ?_
      intro v hh hq
      obtain ⟨rfl, ehh⟩ := hq
      rw [ehh]
      clear ehh
      refine ar_iload_n 15 d_156_14 rfl rfl ?_
      refine ar_icmp_ne 28 18 d_156_15 (by decide) rfl (fun c1 => ?_) (fun c1 => ?_)
      · refine ar_iinc 31 [(0, .ref dk), (1, .int t), (2, .int (nI (i + 1)))] d_156_28 rfl rfl (nI_1 i) (by decide) rfl ?_
        refine ar_goto 2 d_156_31 (by decide) ?_
        rw [show fst1 (fun i => decide (ff (i * 128 + 1) = t ∧ ¬ fstB (ff (i * 128)) = 0 ∧ fstB (ff (i * 128)) = lstB (ff (i * 128 + 127)))) (k + 1) i = fst1 (fun i => decide (ff (i * 128 + 1) = t ∧ ¬ fstB (ff (i * 128)) = 0 ∧ fstB (ff (i * 128)) = lstB (ff (i * 128 + 127)))) k (i + 1) from if_neg (fun z => c1 (of_decide_eq_true z).1)]
        exact ih (i + 1) (by omega)
      · refine ar_aload_n 19 d_156_18 rfl rfl ?_
        refine ar_iload_n 20 d_156_19 rfl rfl ?_
        by_cases hw : whB ff i
        · refine ar_call (r := []) (na := 0) (kd := 0) (cm := 20) (fr2 := fr - 1) (lo2 := lo - 23) 23 d_156_20 (ar_hoV (as := [.int (nI i)]) rfl rfl rfl (hF.at 0 rfl)) rfl (by omega) (show lo - 23 + (19 + 4) = lo by omega) (Nat.le_of_ble_eq_true rfl) (Nat.le_of_ble_eq_true rfl) (c_20T hi9 hw hF) ?_
          intro v hh hq
          obtain ⟨rfl, ehh⟩ := hq
          rw [ehh]
          clear ehh
          refine ar_if_eq 28 26 d_156_23 (by decide) rfl (fun c => absurd c (by decide)) (fun _ => ?_)
          refine ar_iload_n 27 d_156_26 rfl rfl ?_
          exact ar_iret d_156_27 rfl rfl (⟨by rw [show fst1 (fun i => decide (ff (i * 128 + 1) = t ∧ ¬ fstB (ff (i * 128)) = 0 ∧ fstB (ff (i * 128)) = lstB (ff (i * 128 + 127)))) (k + 1) i = nI i from if_pos (decide_eq_true ⟨Decidable.not_not.mp c1, hw⟩)], rfl⟩)
        · refine ar_call (r := []) (na := 0) (kd := 0) (cm := 20) (fr2 := fr - 1) (lo2 := lo - 23) 23 d_156_20 (ar_hoV (as := [.int (nI i)]) rfl rfl rfl (hF.at 0 rfl)) rfl (by omega) (show lo - 23 + (19 + 4) = lo by omega) (Nat.le_of_ble_eq_true rfl) (Nat.le_of_ble_eq_true rfl) (c_20F hi9 hw hF) ?_
          intro v hh hq
          obtain ⟨rfl, ehh⟩ := hq
          rw [ehh]
          clear ehh
          refine ar_if_eq 28 26 d_156_23 (by decide) rfl (fun _ => ?_) (fun c => absurd (rfl) c)
          refine ar_iinc 31 [(0, .ref dk), (1, .int t), (2, .int (nI (i + 1)))] d_156_28 rfl rfl (nI_1 i) (by decide) rfl ?_
          refine ar_goto 2 d_156_31 (by decide) ?_
          rw [show fst1 (fun i => decide (ff (i * 128 + 1) = t ∧ ¬ fstB (ff (i * 128)) = 0 ∧ fstB (ff (i * 128)) = lstB (ff (i * 128 + 127)))) (k + 1) i = fst1 (fun i => decide (ff (i * 128 + 1) = t ∧ ¬ fstB (ff (i * 128)) = 0 ∧ fstB (ff (i * 128)) = lstB (ff (i * 128 + 127)))) k (i + 1) from if_neg (fun z => hw (of_decide_eq_true z).2)]
          exact ih (i + 1) (by omega)
  show ax_A (ax_step L xs) ((156, 0, fr, lo), [(0, .ref dk), (1, .int t)], [], h) _
  refine ar_iconst 1 (v := 0) d_156_0 rfl (by decide) ?_
  refine ar_istore_n 2 [(0, .ref dk), (1, .int t), (2, .int 0)] d_156_1 rfl (by decide) rfl ?_
  exact key 280 0 (by omega)
theorem c_26N {L : Nat} {xs : Nat → Int32} {fr lo : Nat} {h : ax_H} {n sl : Nat} {dk da db dc dd i c : Nat} {sw ow : Nat → Int32} (hi : i < 280) (hc : c < 32) (h1 : ow i < 0) (hF : ax_hs h [(dk, .inr (8, [.ref da, .ref db, .ref dc, .ref dd, .int (nI c)])), (dc, .inl (0, 32, .inl sw)), (dd, .inl (0, 280, .inl ow))]) (hn : h.1 = n) (hs : h.2.1 = sl) (hn0 : 0 < n) : ax_M L xs 26 fr lo [.ref dk, .int (nI i)] h (fun r h' => r = some (.int (nI c)) ∧ ax_hs h' [(dk, .inr (8, [.ref da, .ref db, .ref dc, .ref dd, .int (nI (c + 1))])), (dc, .inl (0, 32, .inl (upd sw c (nI i)))), (dd, .inl (0, 280, .inl (upd ow i (nI c))))] ∧ h'.1 = n ∧ h'.2.1 = sl ∧ ax_fr (fun x => x ∈ [dk, dc, dd]) h h') := by
  show ax_A (ax_step L xs) ((26, 0, fr, lo), [(0, .ref dk), (1, .int (nI i))], [], h) _
  have hbase : h.1 = n := hn
  have hbasl : h.2.1 = sl := hs
  have hf : ax_fr (fun x => x ∈ [dk, dc, dd]) h h := ax_fr.rf
  refine ar_aload_n 1 d_26_0 rfl rfl ?_
  refine ar_getf 4 d_26_1 rfl (ci := 8) (k := 3) rfl (hF.at 0 rfl) rfl ?_
  refine ar_iload_n 5 d_26_4 rfl rfl ?_
  refine ar_iald 6 d_26_5 rfl (hF.at 2 rfl) (nI_in hi (by omega)) ?_
  refine ar_top (x' := ow i) (by rw [nI_clamp (by omega)]) ?_
  refine ar_if_ge 48 9 d_26_6 (by decide) rfl (fun c => absurd c (Int32.not_le.mpr h1)) (fun _ => ?_)
  refine ar_aload_n 10 d_26_9 rfl rfl ?_
  refine ar_getf 13 d_26_10 rfl (ci := 8) (k := 4) rfl (hF.at 0 rfl) rfl ?_
  refine ar_bipush 15 (v := 32) d_26_13 rfl (by decide) ?_
  refine ar_top (x' := nI 32) rfl ?_
  refine ar_icmp_ge 48 18 d_26_15 (by decide) rfl (fun c => absurd c (nI_ge (b := 32) hc (by omega))) (fun _ => ?_)
  refine ar_aload_n 19 d_26_18 rfl rfl ?_
  refine ar_getf 22 d_26_19 rfl (ci := 8) (k := 3) rfl (hF.at 0 rfl) rfl ?_
  refine ar_iload_n 23 d_26_22 rfl rfl ?_
  refine ar_aload_n 24 d_26_23 rfl rfl ?_
  refine ar_getf 27 d_26_24 rfl (ci := 8) (k := 4) rfl (hF.at 0 rfl) rfl ?_
  refine ar_iast 28 d_26_27 rfl (hF.at 2 rfl) (nI_in hi (by omega)) ?_
  replace hF : ax_hs (ax_put h dd (.inl (0, 280, .inl (upd ow (nI i).toNatClampNeg (nI c))))) [(dk, .inr (8, [.ref da, .ref db, .ref dc, .ref dd, .int (nI c)])), (dc, .inl (0, 32, .inl sw)), (dd, .inl (0, 280, .inl (upd ow (nI i).toNatClampNeg (nI c))))] := hF.put 2 _ rfl rfl
  replace hf := hf.put (a := dd) (c := .inl (0, 280, .inl (upd ow (nI i).toNatClampNeg (nI c)))) (by simp)
  replace hn : (ax_put h dd (.inl (0, 280, .inl (upd ow (nI i).toNatClampNeg (nI c))))).1 = n := hn
  replace hs : (ax_put h dd (.inl (0, 280, .inl (upd ow (nI i).toNatClampNeg (nI c))))).2.1 = sl := hs
  generalize ax_put h dd (.inl (0, 280, .inl (upd ow (nI i).toNatClampNeg (nI c)))) = h1 at hF hf hn hs ⊢
  refine ar_aload_n 29 d_26_28 rfl rfl ?_
  refine ar_getf 32 d_26_29 rfl (ci := 8) (k := 2) rfl (hF.at 0 rfl) rfl ?_
  refine ar_aload_n 33 d_26_32 rfl rfl ?_
  refine ar_getf 36 d_26_33 rfl (ci := 8) (k := 4) rfl (hF.at 0 rfl) rfl ?_
  refine ar_iload_n 37 d_26_36 rfl rfl ?_
  refine ar_iast 38 d_26_37 rfl (hF.at 1 rfl) (nI_in hc (by omega)) ?_
  replace hF : ax_hs (ax_put h1 dc (.inl (0, 32, .inl (upd sw (nI c).toNatClampNeg (nI i))))) [(dk, .inr (8, [.ref da, .ref db, .ref dc, .ref dd, .int (nI c)])), (dc, .inl (0, 32, .inl (upd sw (nI c).toNatClampNeg (nI i)))), (dd, .inl (0, 280, .inl (upd ow (nI i).toNatClampNeg (nI c))))] := hF.put 1 _ rfl rfl
  replace hf := hf.put (a := dc) (c := .inl (0, 32, .inl (upd sw (nI c).toNatClampNeg (nI i)))) (by simp)
  replace hn : (ax_put h1 dc (.inl (0, 32, .inl (upd sw (nI c).toNatClampNeg (nI i))))).1 = n := hn
  replace hs : (ax_put h1 dc (.inl (0, 32, .inl (upd sw (nI c).toNatClampNeg (nI i))))).2.1 = sl := hs
  generalize ax_put h1 dc (.inl (0, 32, .inl (upd sw (nI c).toNatClampNeg (nI i)))) = h2 at hF hf hn hs ⊢
  refine ar_aload_n 39 d_26_38 rfl rfl ?_
  refine ar_dup 40 d_26_39 rfl rfl ?_
  refine ar_getf 43 d_26_40 rfl (ci := 8) (k := 4) rfl (hF.at 0 rfl) rfl ?_
  refine ar_iconst 44 (v := 1) d_26_43 rfl (by decide) ?_
  refine ar_iadd 45 d_26_44 rfl ?_
  refine ar_top (x' := nI (c + 1)) (nI_1 c) ?_
  refine ar_putf 48 [.ref da, .ref db, .ref dc, .ref dd, .int (nI (c + 1))] d_26_45 rfl (ci := 8) (k := 4) rfl rfl (hF.at 0 rfl) (Nat.le_of_ble_eq_true rfl) rfl rfl rfl ?_
  replace hF : ax_hs (ax_put h2 dk (.inr (8, [.ref da, .ref db, .ref dc, .ref dd, .int (nI (c + 1))]))) [(dk, .inr (8, [.ref da, .ref db, .ref dc, .ref dd, .int (nI (c + 1))])), (dc, .inl (0, 32, .inl (upd sw (nI c).toNatClampNeg (nI i)))), (dd, .inl (0, 280, .inl (upd ow (nI i).toNatClampNeg (nI c))))] := hF.put 0 _ rfl rfl
  replace hf := hf.put (a := dk) (c := .inr (8, [.ref da, .ref db, .ref dc, .ref dd, .int (nI (c + 1))])) (by simp)
  replace hn : (ax_put h2 dk (.inr (8, [.ref da, .ref db, .ref dc, .ref dd, .int (nI (c + 1))]))).1 = n := hn
  replace hs : (ax_put h2 dk (.inr (8, [.ref da, .ref db, .ref dc, .ref dd, .int (nI (c + 1))]))).2.1 = sl := hs
  generalize ax_put h2 dk (.inr (8, [.ref da, .ref db, .ref dc, .ref dd, .int (nI (c + 1))])) = h3 at hF hf hn hs ⊢
  refine ar_aload_n 49 d_26_48 rfl rfl ?_
  refine ar_getf 52 d_26_49 rfl (ci := 8) (k := 3) rfl (hF.at 0 rfl) rfl ?_
  refine ar_iload_n 53 d_26_52 rfl rfl ?_
  refine ar_iald 54 d_26_53 rfl (hF.at 2 rfl) (nI_in hi (by omega)) ?_
  refine ar_top (x' := nI c) (by rw [nI_clamp (by omega)]; exact upd_s _ _ _) ?_
  rw [nI_clamp (show c < 2 ^ 31 by omega), nI_clamp (show i < 2 ^ 31 by omega)] at hF
  exact ar_iret d_26_54 rfl rfl (⟨rfl, hF, hn, hs, hf⟩)
theorem c_26O {L : Nat} {xs : Nat → Int32} {fr lo : Nat} {h : ax_H} {dk da db dc dd i c : Nat} {ow : Nat → Int32} (hi : i < 280) (hc : c ≤ 32) (h1 : ¬ ow i < 0 ∨ 32 ≤ c) (hF : ax_hs h [(dk, .inr (8, [.ref da, .ref db, .ref dc, .ref dd, .int (nI c)])), (dd, .inl (0, 280, .inl ow))]) : ax_M L xs 26 fr lo [.ref dk, .int (nI i)] h (fun r h' => r = some (.int (ow i)) ∧ h' = h) := by
  show ax_A (ax_step L xs) ((26, 0, fr, lo), [(0, .ref dk), (1, .int (nI i))], [], h) _
  refine ar_aload_n 1 d_26_0 rfl rfl ?_
  refine ar_getf 4 d_26_1 rfl (ci := 8) (k := 3) rfl (hF.at 0 rfl) rfl ?_
  refine ar_iload_n 5 d_26_4 rfl rfl ?_
  refine ar_iald 6 d_26_5 rfl (hF.at 1 rfl) (nI_in hi (by omega)) ?_
  refine ar_top (x' := ow i) (by rw [nI_clamp (by omega)]) ?_
  refine ar_if_ge 48 9 d_26_6 (by decide) rfl (fun c1 => ?_) (fun c1 => ?_)
  · refine ar_aload_n 49 d_26_48 rfl rfl ?_
    refine ar_getf 52 d_26_49 rfl (ci := 8) (k := 3) rfl (hF.at 0 rfl) rfl ?_
    refine ar_iload_n 53 d_26_52 rfl rfl ?_
    refine ar_iald 54 d_26_53 rfl (hF.at 1 rfl) (nI_in hi (by omega)) ?_
    refine ar_top (x' := ow i) (by rw [nI_clamp (by omega)]) ?_
    exact ar_iret d_26_54 rfl rfl (⟨rfl, rfl⟩)
  · refine ar_aload_n 10 d_26_9 rfl rfl ?_
    refine ar_getf 13 d_26_10 rfl (ci := 8) (k := 4) rfl (hF.at 0 rfl) rfl ?_
    refine ar_bipush 15 (v := 32) d_26_13 rfl (by decide) ?_
    refine ar_top (x' := nI 32) rfl ?_
    refine ar_icmp_ge 48 18 d_26_15 (by decide) rfl (fun _ => ?_) (fun c => absurd (nI_le (h1.resolve_left (fun z => c1 (Int32.not_lt.mp z))) (by omega)) c)
    refine ar_aload_n 49 d_26_48 rfl rfl ?_
    refine ar_getf 52 d_26_49 rfl (ci := 8) (k := 3) rfl (hF.at 0 rfl) rfl ?_
    refine ar_iload_n 53 d_26_52 rfl rfl ?_
    refine ar_iald 54 d_26_53 rfl (hF.at 1 rfl) (nI_in hi (by omega)) ?_
    refine ar_top (x' := ow i) (by rw [nI_clamp (by omega)]) ?_
    exact ar_iret d_26_54 rfl rfl (⟨rfl, rfl⟩)


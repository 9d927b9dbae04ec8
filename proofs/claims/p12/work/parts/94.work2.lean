/-! Work.take, Leader.oneOf, exactly -/
theorem d_127_0 : decode (axt_b 127) 0 = .ok (.aload_n 0, 1) := by decide +kernel
theorem d_127_1 : decode (axt_b 127) 1 = .ok (.getfield 91, 3) := by decide +kernel
theorem d_127_4 : decode (axt_b 127) 4 = .ok (.istore_n 2, 1) := by decide +kernel
theorem d_127_5 : decode (axt_b 127) 5 = .ok (.iconst 0, 1) := by decide +kernel
theorem d_127_6 : decode (axt_b 127) 6 = .ok (.istore_n 3, 1) := by decide +kernel
theorem d_127_7 : decode (axt_b 127) 7 = .ok (.iload_n 3, 1) := by decide +kernel
theorem d_127_8 : decode (axt_b 127) 8 = .ok (.aload_n 0, 1) := by decide +kernel
theorem d_127_9 : decode (axt_b 127) 9 = .ok (.getfield 22, 3) := by decide +kernel
theorem d_127_12 : decode (axt_b 127) 12 = .ok (.getfield 98, 3) := by decide +kernel
theorem d_127_15 : decode (axt_b 127) 15 = .ok (.if_icmp .ge 29, 3) := by decide +kernel
theorem d_127_18 : decode (axt_b 127) 18 = .ok (.iload_n 1, 1) := by decide +kernel
theorem d_127_19 : decode (axt_b 127) 19 = .ok (.iload_n 2, 1) := by decide +kernel
theorem d_127_20 : decode (axt_b 127) 20 = .ok (.ishr, 1) := by decide +kernel
theorem d_127_21 : decode (axt_b 127) 21 = .ok (.iconst 1, 1) := by decide +kernel
theorem d_127_22 : decode (axt_b 127) 22 = .ok (.iand, 1) := by decide +kernel
theorem d_127_23 : decode (axt_b 127) 23 = .ok (.ifCond .ne 21, 3) := by decide +kernel
theorem d_127_26 : decode (axt_b 127) 26 = .ok (.iload_n 2, 1) := by decide +kernel
theorem d_127_27 : decode (axt_b 127) 27 = .ok (.iconst 1, 1) := by decide +kernel
theorem d_127_28 : decode (axt_b 127) 28 = .ok (.iadd, 1) := by decide +kernel
theorem d_127_29 : decode (axt_b 127) 29 = .ok (.aload_n 0, 1) := by decide +kernel
theorem d_127_30 : decode (axt_b 127) 30 = .ok (.getfield 22, 3) := by decide +kernel
theorem d_127_33 : decode (axt_b 127) 33 = .ok (.getfield 98, 3) := by decide +kernel
theorem d_127_36 : decode (axt_b 127) 36 = .ok (.irem, 1) := by decide +kernel
theorem d_127_37 : decode (axt_b 127) 37 = .ok (.istore_n 2, 1) := by decide +kernel
theorem d_127_38 : decode (axt_b 127) 38 = .ok (.iinc 3 1, 3) := by decide +kernel
theorem d_127_41 : decode (axt_b 127) 41 = .ok (.goto (-34), 3) := by decide +kernel
theorem d_127_44 : decode (axt_b 127) 44 = .ok (.iload_n 2, 1) := by decide +kernel
theorem d_127_45 : decode (axt_b 127) 45 = .ok (.ireturn, 1) := by decide +kernel
def oneO (x : Int32) (N : Nat) : Nat → Nat → Nat
  | 0, t => t
  | k + 1, t => if (x >>> (nI t &&& 31)) &&& 1 = 0 then oneO x N k ((t + 1) % N) else t
theorem oneO_lt (x : Int32) {N : Nat} (h0 : 0 < N) : ∀ (k t : Nat), t < N → oneO x N k t < N
  | 0, _, h => h
  | k + 1, t, h => by
    have ih := oneO_lt x h0 k ((t + 1) % N) (Nat.mod_lt _ h0)
    unfold oneO
    split
    · exact ih
    · exact h
theorem c_127 {L : Nat} {xs : Nat → Int32} {fr lo : Nat} {h : ax_H} {ld rk nt tb wk ma sp nn gg o t : Nat} {C me ep st hd cl ni md x : Int32} {ak : Int64} (hnn : nn ≤ 6) (hn0 : 0 < nn) (ht : t < nn) (gl : ax_g h ld = some (.inr (9, [.int me, .ref rk, .ref nt, .ref tb, .ref wk, .ref ma, .ref sp, .int ep, .int st, .int hd, .int cl, .long ak, .int ni, .int (nI t), .int md]))) (gr : ax_g h rk = some (.inr (3, [.int (nI nn), .int C, .int (nI gg), .ref o]))) : ax_M L xs 127 fr lo [.ref ld, .int x] h (fun r h' => r = some (.int (nI (oneO x nn nn t))) ∧ h' = h) := by
  have key : ∀ (k i v : Nat), i + k = nn → v < nn → ax_A (ax_step L xs) ((127, 7, fr, lo), [(0, .ref ld), (1, .int x), (2, .int (nI v)), (3, .int (nI i))], [], h) (fun r h' => r = some (.int (nI (oneO x nn k v))) ∧ h' = h) := by
    intro k
    induction k with
    | zero =>
      intro i v hi hv
      have e0 : i = nn := by omega
      subst e0
      refine ar_iload_n 8 d_127_7 rfl rfl ?_
      refine ar_aload_n 9 d_127_8 rfl rfl ?_
      refine ar_getf 12 d_127_9 rfl (ci := 9) (k := 1) rfl gl rfl ?_
      refine ar_getf 15 d_127_12 rfl (ci := 3) (k := 0) rfl gr rfl ?_
      refine ar_icmp_ge 44 18 d_127_15 (by decide) rfl (fun _ => ?_) (fun c => absurd (Int32.le_refl _) c)
      refine ar_iload_n 45 d_127_44 rfl rfl ?_
      exact ar_iret d_127_45 rfl rfl (⟨rfl, rfl⟩)
    | succ k ih =>
      intro i v hi hv
      have hic : i < nn := by omega
      refine ar_iload_n 8 d_127_7 rfl rfl ?_
      refine ar_aload_n 9 d_127_8 rfl rfl ?_
      refine ar_getf 12 d_127_9 rfl (ci := 9) (k := 1) rfl gl rfl ?_
      refine ar_getf 15 d_127_12 rfl (ci := 3) (k := 0) rfl gr rfl ?_
      refine ar_icmp_ge 44 18 d_127_15 (by decide) rfl (fun c => absurd c (nI_ge hic (by omega))) (fun _ => ?_)
      refine ar_iload_n 19 d_127_18 rfl rfl ?_
      refine ar_iload_n 20 d_127_19 rfl rfl ?_
      refine ar_ishr 21 d_127_20 rfl ?_
      refine ar_iconst 22 (v := 1) d_127_21 rfl (by decide) ?_
      refine ar_iand 23 d_127_22 rfl ?_
      refine ar_if_ne 44 26 d_127_23 (by decide) rfl (fun c1 => ?_) (fun c1 => ?_)
      · refine ar_iload_n 45 d_127_44 rfl rfl ?_
        exact ar_iret d_127_45 rfl rfl (⟨by rw [show oneO x nn (k + 1) v = v from if_neg c1], rfl⟩)
      · refine ar_iload_n 27 d_127_26 rfl rfl ?_
        refine ar_iconst 28 (v := 1) d_127_27 rfl (by decide) ?_
        refine ar_iadd 29 d_127_28 rfl ?_
        refine ar_top (x' := nI (v + 1)) (nI_1 v) ?_
        refine ar_aload_n 30 d_127_29 rfl rfl ?_
        refine ar_getf 33 d_127_30 rfl (ci := 9) (k := 1) rfl gl rfl ?_
        refine ar_getf 36 d_127_33 rfl (ci := 3) (k := 0) rfl gr rfl ?_
        refine ar_irem 37 d_127_36 rfl (nI_nz9 (by omega) (by omega)) ?_
        refine ar_top (x' := nI ((v + 1) % nn)) (pk_rem (by omega) (by omega) (by omega)) ?_
        refine ar_istore_n 38 [(0, .ref ld), (1, .int x), (2, .int (nI ((v + 1) % nn))), (3, .int (nI i))] d_127_37 rfl (by decide) rfl ?_
        refine ar_iinc 41 [(0, .ref ld), (1, .int x), (2, .int (nI ((v + 1) % nn))), (3, .int (nI (i + 1)))] d_127_38 rfl rfl (nI_1 i) (by decide) rfl ?_
        refine ar_goto 7 d_127_41 (by decide) ?_
        rw [show oneO x nn (k + 1) v = oneO x nn k ((v + 1) % nn) from if_pos (Decidable.not_not.mp c1)]
        exact ih (i + 1) _ (by omega) (Nat.mod_lt _ hn0)
  show ax_A (ax_step L xs) ((127, 0, fr, lo), [(0, .ref ld), (1, .int x)], [], h) _
  refine ar_aload_n 1 d_127_0 rfl rfl ?_
  refine ar_getf 4 d_127_1 rfl (ci := 9) (k := 13) rfl gl rfl ?_
  refine ar_istore_n 5 [(0, .ref ld), (1, .int x), (2, .int (nI t))] d_127_4 rfl (by decide) rfl ?_
  refine ar_iconst 6 (v := 0) d_127_5 rfl (by decide) ?_
  refine ar_istore_n 7 [(0, .ref ld), (1, .int x), (2, .int (nI t)), (3, .int 0)] d_127_6 rfl (by decide) rfl ?_
  exact key nn 0 t (by omega) ht


/-! Table, exactly: find, groupOf, tagAt, renew, setName, copyName, add, remove -/
theorem d_77_0 : decode (axt_b 77) 0 = .ok (.iload_n 1, 1) := by decide +kernel
theorem d_77_1 : decode (axt_b 77) 1 = .ok (.sipush 10240, 3) := by decide +kernel
theorem d_77_4 : decode (axt_b 77) 4 = .ok (.idiv, 1) := by decide +kernel
theorem d_77_5 : decode (axt_b 77) 5 = .ok (.istore_n 2, 1) := by decide +kernel
theorem d_77_6 : decode (axt_b 77) 6 = .ok (.iconst (-1), 1) := by decide +kernel
theorem d_77_7 : decode (axt_b 77) 7 = .ok (.istore_n 3, 1) := by decide +kernel
theorem d_77_8 : decode (axt_b 77) 8 = .ok (.iload_n 2, 1) := by decide +kernel
theorem d_77_9 : decode (axt_b 77) 9 = .ok (.sipush 512, 3) := by decide +kernel
theorem d_77_12 : decode (axt_b 77) 12 = .ok (.if_icmp .ne 10, 3) := by decide +kernel
theorem d_77_15 : decode (axt_b 77) 15 = .ok (.sipush 960, 3) := by decide +kernel
theorem d_77_18 : decode (axt_b 77) 18 = .ok (.istore_n 3, 1) := by decide +kernel
theorem d_77_19 : decode (axt_b 77) 19 = .ok (.goto 42, 3) := by decide +kernel
theorem d_77_22 : decode (axt_b 77) 22 = .ok (.iload_n 1, 1) := by decide +kernel
theorem d_77_23 : decode (axt_b 77) 23 = .ok (.ifCond .lt 38, 3) := by decide +kernel
theorem d_77_26 : decode (axt_b 77) 26 = .ok (.iload_n 2, 1) := by decide +kernel
theorem d_77_27 : decode (axt_b 77) 27 = .ok (.sipush 512, 3) := by decide +kernel
theorem d_77_30 : decode (axt_b 77) 30 = .ok (.if_icmp .ge 31, 3) := by decide +kernel
theorem d_77_33 : decode (axt_b 77) 33 = .ok (.aload_n 0, 1) := by decide +kernel
theorem d_77_34 : decode (axt_b 77) 34 = .ok (.getfield 24, 3) := by decide +kernel
theorem d_77_37 : decode (axt_b 77) 37 = .ok (.iload_n 2, 1) := by decide +kernel
theorem d_77_38 : decode (axt_b 77) 38 = .ok (.iaload, 1) := by decide +kernel
theorem d_77_39 : decode (axt_b 77) 39 = .ok (.ifCond .lt 22, 3) := by decide +kernel
theorem d_77_42 : decode (axt_b 77) 42 = .ok (.aload_n 0, 1) := by decide +kernel
theorem d_77_43 : decode (axt_b 77) 43 = .ok (.getfield 24, 3) := by decide +kernel
theorem d_77_46 : decode (axt_b 77) 46 = .ok (.iload_n 2, 1) := by decide +kernel
theorem d_77_47 : decode (axt_b 77) 47 = .ok (.iaload, 1) := by decide +kernel
theorem d_77_48 : decode (axt_b 77) 48 = .ok (.bipush 20, 2) := by decide +kernel
theorem d_77_50 : decode (axt_b 77) 50 = .ok (.imul, 1) := by decide +kernel
theorem d_77_51 : decode (axt_b 77) 51 = .ok (.iload_n 1, 1) := by decide +kernel
theorem d_77_52 : decode (axt_b 77) 52 = .ok (.sipush 512, 3) := by decide +kernel
theorem d_77_55 : decode (axt_b 77) 55 = .ok (.idiv, 1) := by decide +kernel
theorem d_77_56 : decode (axt_b 77) 56 = .ok (.bipush 20, 2) := by decide +kernel
theorem d_77_58 : decode (axt_b 77) 58 = .ok (.irem, 1) := by decide +kernel
theorem d_77_59 : decode (axt_b 77) 59 = .ok (.iadd, 1) := by decide +kernel
theorem d_77_60 : decode (axt_b 77) 60 = .ok (.istore_n 3, 1) := by decide +kernel
theorem d_77_61 : decode (axt_b 77) 61 = .ok (.iload_n 3, 1) := by decide +kernel
theorem d_77_62 : decode (axt_b 77) 62 = .ok (.ifCond .lt 21, 3) := by decide +kernel
theorem d_77_65 : decode (axt_b 77) 65 = .ok (.aload_n 0, 1) := by decide +kernel
theorem d_77_66 : decode (axt_b 77) 66 = .ok (.getfield 27, 3) := by decide +kernel
theorem d_77_69 : decode (axt_b 77) 69 = .ok (.iload_n 3, 1) := by decide +kernel
theorem d_77_70 : decode (axt_b 77) 70 = .ok (.iaload, 1) := by decide +kernel
theorem d_77_71 : decode (axt_b 77) 71 = .ok (.iload_n 1, 1) := by decide +kernel
theorem d_77_72 : decode (axt_b 77) 72 = .ok (.sipush 512, 3) := by decide +kernel
theorem d_77_75 : decode (axt_b 77) 75 = .ok (.irem, 1) := by decide +kernel
theorem d_77_76 : decode (axt_b 77) 76 = .ok (.if_icmp .ne 7, 3) := by decide +kernel
theorem d_77_79 : decode (axt_b 77) 79 = .ok (.iload_n 3, 1) := by decide +kernel
theorem d_77_80 : decode (axt_b 77) 80 = .ok (.goto 4, 3) := by decide +kernel
theorem d_77_83 : decode (axt_b 77) 83 = .ok (.iconst (-1), 1) := by decide +kernel
theorem d_77_84 : decode (axt_b 77) 84 = .ok (.ireturn, 1) := by decide +kernel
theorem d_106_0 : decode (axt_b 106) 0 = .ok (.iconst 0, 1) := by decide +kernel
theorem d_106_1 : decode (axt_b 106) 1 = .ok (.istore_n 2, 1) := by decide +kernel
theorem d_106_2 : decode (axt_b 106) 2 = .ok (.iload_n 2, 1) := by decide +kernel
theorem d_106_3 : decode (axt_b 106) 3 = .ok (.bipush 47, 2) := by decide +kernel
theorem d_106_5 : decode (axt_b 106) 5 = .ok (.if_icmp .ge 18, 3) := by decide +kernel
theorem d_106_8 : decode (axt_b 106) 8 = .ok (.aload_n 0, 1) := by decide +kernel
theorem d_106_9 : decode (axt_b 106) 9 = .ok (.getfield 9, 3) := by decide +kernel
theorem d_106_12 : decode (axt_b 106) 12 = .ok (.iload_n 2, 1) := by decide +kernel
theorem d_106_13 : decode (axt_b 106) 13 = .ok (.iaload, 1) := by decide +kernel
theorem d_106_14 : decode (axt_b 106) 14 = .ok (.ifCond .lt 9, 3) := by decide +kernel
theorem d_106_17 : decode (axt_b 106) 17 = .ok (.iinc 2 1, 3) := by decide +kernel
theorem d_106_20 : decode (axt_b 106) 20 = .ok (.goto (-18), 3) := by decide +kernel
theorem d_106_23 : decode (axt_b 106) 23 = .ok (.aload_n 0, 1) := by decide +kernel
theorem d_106_24 : decode (axt_b 106) 24 = .ok (.getfield 9, 3) := by decide +kernel
theorem d_106_27 : decode (axt_b 106) 27 = .ok (.iload_n 2, 1) := by decide +kernel
theorem d_106_28 : decode (axt_b 106) 28 = .ok (.iload_n 1, 1) := by decide +kernel
theorem d_106_29 : decode (axt_b 106) 29 = .ok (.iastore, 1) := by decide +kernel
theorem d_106_30 : decode (axt_b 106) 30 = .ok (.aload_n 0, 1) := by decide +kernel
theorem d_106_31 : decode (axt_b 106) 31 = .ok (.getfield 24, 3) := by decide +kernel
theorem d_106_34 : decode (axt_b 106) 34 = .ok (.iload_n 1, 1) := by decide +kernel
theorem d_106_35 : decode (axt_b 106) 35 = .ok (.iload_n 2, 1) := by decide +kernel
theorem d_106_36 : decode (axt_b 106) 36 = .ok (.iastore, 1) := by decide +kernel
theorem d_106_37 : decode (axt_b 106) 37 = .ok (.aload_n 0, 1) := by decide +kernel
theorem d_106_38 : decode (axt_b 106) 38 = .ok (.dup, 1) := by decide +kernel
theorem d_106_39 : decode (axt_b 106) 39 = .ok (.getfield 46, 3) := by decide +kernel
theorem d_106_42 : decode (axt_b 106) 42 = .ok (.lconst 1, 1) := by decide +kernel
theorem d_106_43 : decode (axt_b 106) 43 = .ok (.iload_n 2, 1) := by decide +kernel
theorem d_106_44 : decode (axt_b 106) 44 = .ok (.lshl, 1) := by decide +kernel
theorem d_106_45 : decode (axt_b 106) 45 = .ok (.lor, 1) := by decide +kernel
theorem d_106_46 : decode (axt_b 106) 46 = .ok (.putfield 46, 3) := by decide +kernel
theorem d_106_49 : decode (axt_b 106) 49 = .ok (.aload_n 0, 1) := by decide +kernel
theorem d_106_50 : decode (axt_b 106) 50 = .ok (.dup, 1) := by decide +kernel
theorem d_106_51 : decode (axt_b 106) 51 = .ok (.getfield 50, 3) := by decide +kernel
theorem d_106_54 : decode (axt_b 106) 54 = .ok (.iconst 1, 1) := by decide +kernel
theorem d_106_55 : decode (axt_b 106) 55 = .ok (.iadd, 1) := by decide +kernel
theorem d_106_56 : decode (axt_b 106) 56 = .ok (.putfield 50, 3) := by decide +kernel
theorem d_106_59 : decode (axt_b 106) 59 = .ok (.iload_n 2, 1) := by decide +kernel
theorem d_106_60 : decode (axt_b 106) 60 = .ok (.ireturn, 1) := by decide +kernel
theorem d_111_0 : decode (axt_b 111) 0 = .ok (.aload_n 0, 1) := by decide +kernel
theorem d_111_1 : decode (axt_b 111) 1 = .ok (.getfield 24, 3) := by decide +kernel
theorem d_111_4 : decode (axt_b 111) 4 = .ok (.aload_n 0, 1) := by decide +kernel
theorem d_111_5 : decode (axt_b 111) 5 = .ok (.getfield 9, 3) := by decide +kernel
theorem d_111_8 : decode (axt_b 111) 8 = .ok (.iload_n 1, 1) := by decide +kernel
theorem d_111_9 : decode (axt_b 111) 9 = .ok (.iaload, 1) := by decide +kernel
theorem d_111_10 : decode (axt_b 111) 10 = .ok (.iconst (-1), 1) := by decide +kernel
theorem d_111_11 : decode (axt_b 111) 11 = .ok (.iastore, 1) := by decide +kernel
theorem d_111_12 : decode (axt_b 111) 12 = .ok (.aload_n 0, 1) := by decide +kernel
theorem d_111_13 : decode (axt_b 111) 13 = .ok (.getfield 9, 3) := by decide +kernel
theorem d_111_16 : decode (axt_b 111) 16 = .ok (.iload_n 1, 1) := by decide +kernel
theorem d_111_17 : decode (axt_b 111) 17 = .ok (.iconst (-1), 1) := by decide +kernel
theorem d_111_18 : decode (axt_b 111) 18 = .ok (.iastore, 1) := by decide +kernel
theorem d_111_19 : decode (axt_b 111) 19 = .ok (.aload_n 0, 1) := by decide +kernel
theorem d_111_20 : decode (axt_b 111) 20 = .ok (.getfield 15, 3) := by decide +kernel
theorem d_111_23 : decode (axt_b 111) 23 = .ok (.iload_n 1, 1) := by decide +kernel
theorem d_111_24 : decode (axt_b 111) 24 = .ok (.iconst 0, 1) := by decide +kernel
theorem d_111_25 : decode (axt_b 111) 25 = .ok (.iastore, 1) := by decide +kernel
theorem d_111_26 : decode (axt_b 111) 26 = .ok (.aload_n 0, 1) := by decide +kernel
theorem d_111_27 : decode (axt_b 111) 27 = .ok (.getfield 27, 3) := by decide +kernel
theorem d_111_30 : decode (axt_b 111) 30 = .ok (.iload_n 1, 1) := by decide +kernel
theorem d_111_31 : decode (axt_b 111) 31 = .ok (.bipush 20, 2) := by decide +kernel
theorem d_111_33 : decode (axt_b 111) 33 = .ok (.imul, 1) := by decide +kernel
theorem d_111_34 : decode (axt_b 111) 34 = .ok (.iload_n 1, 1) := by decide +kernel
theorem d_111_35 : decode (axt_b 111) 35 = .ok (.iconst 1, 1) := by decide +kernel
theorem d_111_36 : decode (axt_b 111) 36 = .ok (.iadd, 1) := by decide +kernel
theorem d_111_37 : decode (axt_b 111) 37 = .ok (.bipush 20, 2) := by decide +kernel
theorem d_111_39 : decode (axt_b 111) 39 = .ok (.imul, 1) := by decide +kernel
theorem d_111_40 : decode (axt_b 111) 40 = .ok (.iconst (-1), 1) := by decide +kernel
theorem d_111_41 : decode (axt_b 111) 41 = .ok (.invokestatic 74, 3) := by decide +kernel
theorem d_111_44 : decode (axt_b 111) 44 = .ok (.aload_n 0, 1) := by decide +kernel
theorem d_111_45 : decode (axt_b 111) 45 = .ok (.dup, 1) := by decide +kernel
theorem d_111_46 : decode (axt_b 111) 46 = .ok (.getfield 46, 3) := by decide +kernel
theorem d_111_49 : decode (axt_b 111) 49 = .ok (.lconst 1, 1) := by decide +kernel
theorem d_111_50 : decode (axt_b 111) 50 = .ok (.iload_n 1, 1) := by decide +kernel
theorem d_111_51 : decode (axt_b 111) 51 = .ok (.lshl, 1) := by decide +kernel
theorem d_111_52 : decode (axt_b 111) 52 = .ok (.ldc2_w 77, 3) := by decide +kernel
theorem d_111_55 : decode (axt_b 111) 55 = .ok (.lxor, 1) := by decide +kernel
theorem d_111_56 : decode (axt_b 111) 56 = .ok (.land, 1) := by decide +kernel
theorem d_111_57 : decode (axt_b 111) 57 = .ok (.putfield 46, 3) := by decide +kernel
theorem d_111_60 : decode (axt_b 111) 60 = .ok (.aload_n 0, 1) := by decide +kernel
theorem d_111_61 : decode (axt_b 111) 61 = .ok (.dup, 1) := by decide +kernel
theorem d_111_62 : decode (axt_b 111) 62 = .ok (.getfield 50, 3) := by decide +kernel
theorem d_111_65 : decode (axt_b 111) 65 = .ok (.iconst 1, 1) := by decide +kernel
theorem d_111_66 : decode (axt_b 111) 66 = .ok (.isub, 1) := by decide +kernel
theorem d_111_67 : decode (axt_b 111) 67 = .ok (.putfield 50, 3) := by decide +kernel
theorem d_111_70 : decode (axt_b 111) 70 = .ok (.return_, 1) := by decide +kernel
theorem d_116_0 : decode (axt_b 116) 0 = .ok (.iload_n 1, 1) := by decide +kernel
theorem d_116_1 : decode (axt_b 116) 1 = .ok (.sipush 960, 3) := by decide +kernel
theorem d_116_4 : decode (axt_b 116) 4 = .ok (.if_icmp .ne 9, 3) := by decide +kernel
theorem d_116_7 : decode (axt_b 116) 7 = .ok (.sipush 10240, 3) := by decide +kernel
theorem d_116_10 : decode (axt_b 116) 10 = .ok (.goto 20, 3) := by decide +kernel
theorem d_116_13 : decode (axt_b 116) 13 = .ok (.aload_n 0, 1) := by decide +kernel
theorem d_116_14 : decode (axt_b 116) 14 = .ok (.getfield 9, 3) := by decide +kernel
theorem d_116_17 : decode (axt_b 116) 17 = .ok (.iload_n 1, 1) := by decide +kernel
theorem d_116_18 : decode (axt_b 116) 18 = .ok (.bipush 20, 2) := by decide +kernel
theorem d_116_20 : decode (axt_b 116) 20 = .ok (.idiv, 1) := by decide +kernel
theorem d_116_21 : decode (axt_b 116) 21 = .ok (.iaload, 1) := by decide +kernel
theorem d_116_22 : decode (axt_b 116) 22 = .ok (.bipush 20, 2) := by decide +kernel
theorem d_116_24 : decode (axt_b 116) 24 = .ok (.imul, 1) := by decide +kernel
theorem d_116_25 : decode (axt_b 116) 25 = .ok (.iload_n 1, 1) := by decide +kernel
theorem d_116_26 : decode (axt_b 116) 26 = .ok (.bipush 20, 2) := by decide +kernel
theorem d_116_28 : decode (axt_b 116) 28 = .ok (.irem, 1) := by decide +kernel
theorem d_116_29 : decode (axt_b 116) 29 = .ok (.iadd, 1) := by decide +kernel
theorem d_116_30 : decode (axt_b 116) 30 = .ok (.istore_n 2, 1) := by decide +kernel
theorem d_116_31 : decode (axt_b 116) 31 = .ok (.iload_n 2, 1) := by decide +kernel
theorem d_116_32 : decode (axt_b 116) 32 = .ok (.sipush 512, 3) := by decide +kernel
theorem d_116_35 : decode (axt_b 116) 35 = .ok (.imul, 1) := by decide +kernel
theorem d_116_36 : decode (axt_b 116) 36 = .ok (.aload_n 0, 1) := by decide +kernel
theorem d_116_37 : decode (axt_b 116) 37 = .ok (.getfield 27, 3) := by decide +kernel
theorem d_116_40 : decode (axt_b 116) 40 = .ok (.iload_n 1, 1) := by decide +kernel
theorem d_116_41 : decode (axt_b 116) 41 = .ok (.iaload, 1) := by decide +kernel
theorem d_116_42 : decode (axt_b 116) 42 = .ok (.iadd, 1) := by decide +kernel
theorem d_116_43 : decode (axt_b 116) 43 = .ok (.ireturn, 1) := by decide +kernel
theorem div_toI {x : Int32} {c : Nat} (h0 : 0 < c) (hc : c < 2 ^ 31) (hx : x.toInt < 0) : (x / nI c).toInt ≤ 0 := by
  have hx1 := Int32.le_toInt x
  have hc' := nI_toInt' hc
  have h3 := Int.neg_tdiv (a := -x.toInt) (b := (c : Int))
  rw [Int.neg_neg] at h3
  have h4 := Int.tdiv_nonneg (a := -x.toInt) (b := (c : Int)) (by omega) (by omega)
  have h1 : (x.toInt.tdiv (c : Int)).natAbs ≤ x.toInt.natAbs := by
    rw [Int.natAbs_tdiv]
    exact Nat.div_le_self _ _
  rw [Int32.toInt_div, hc', Int.bmod_eq_of_le] <;> omega
def tfind (fo vf : Nat → Int32) (t : Nat) : Int32 :=
  if t / 10240 = 512 then (if vf 960 = nI (t % 512) then nI 960 else -1)
  else if t / 10240 < 512 ∧ ¬ fo (t / 10240) < 0 then (if vf ((fo (t / 10240)).toNatClampNeg * 20 + t / 512 % 20) = nI (t % 512) then nI ((fo (t / 10240)).toNatClampNeg * 20 + t / 512 % 20) else -1)
  else -1
def grp (jf : Nat → Int32) (G a : Nat) : Nat := if a = 960 ∨ a % 20 = 19 then 0 else ((jf (a / 20)).toNatClampNeg * 31 + a % 20 * 7) % G
def tgA (jf vf : Nat → Int32) (a : Nat) : Int32 := (if a = 960 then 10240 else jf (a / 20) * 20 + nI (a % 20)) * 512 + vf a
theorem c_77M {L : Nat} {xs : Nat → Int32} {fr lo : Nat} {h : ax_H} {tb : Nat} {x : Int32} (hx : x < 0) : ax_M L xs 77 fr lo [.ref tb, .int x] h (fun r h' => r = some (.int (-1)) ∧ h' = h) := by
  have hne : ¬ x / 10240 = 512 := fun e => by
    have h0 : (0 : Int32).toInt = 0 := by decide
    have h1 := div_toI (x := x) (c := 10240) (by omega) (by omega) (by rw [Int32.lt_iff_toInt_lt, h0] at hx; exact hx)
    have h2 : (x / nI 10240).toInt = 512 := by
      have e' : x / nI 10240 = 512 := e
      rw [e']
      decide
    omega
  show ax_A (ax_step L xs) ((77, 0, fr, lo), [(0, .ref tb), (1, .int x)], [], h) _
  refine ar_iload_n 1 d_77_0 rfl rfl ?_
  refine ar_sipush 4 (v := 10240) d_77_1 rfl (by decide) ?_
  refine ar_idiv 5 d_77_4 rfl (by decide) ?_
  refine ar_istore_n 6 [(0, .ref tb), (1, .int x), (2, .int (x / 10240))] d_77_5 rfl (by decide) rfl ?_
  refine ar_iconst 7 (v := -1) d_77_6 rfl (by decide) ?_
  refine ar_istore_n 8 [(0, .ref tb), (1, .int x), (2, .int (x / 10240)), (3, .int (-1))] d_77_7 rfl (by decide) rfl ?_
  refine ar_iload_n 9 d_77_8 rfl rfl ?_
  refine ar_sipush 12 (v := 512) d_77_9 rfl (by decide) ?_
  refine ar_icmp_ne 22 15 d_77_12 (by decide) rfl (fun _ => ?_) (fun c => absurd (hne) c)
  refine ar_iload_n 23 d_77_22 rfl rfl ?_
  refine ar_if_lt 61 26 d_77_23 (by decide) rfl (fun _ => ?_) (fun c => absurd (hx) c)
  refine ar_iload_n 62 d_77_61 rfl rfl ?_
  refine ar_if_lt 83 65 d_77_62 (by decide) rfl (fun _ => ?_) (fun c => absurd (by decide) c)
  refine ar_iconst 84 (v := -1) d_77_83 rfl (by decide) ?_
  exact ar_iret d_77_84 rfl rfl (⟨rfl, rfl⟩)
theorem c_77 {L : Nat} {xs : Nat → Int32} {fr lo : Nat} {h : ax_H} {tb a1 a2 a3 a4 a5 a6 a7 : Nat} {g fl an : Int32} {kn : Int64} {fo vf : Nat → Int32} {t : Nat} (ht : t < 2 ^ 31) (hfo : ∀ i, i < 512 → (fo i).toNatClampNeg < 48) (gt : ax_g h tb = some (.inr (6, [.int g, .ref a1, .ref a2, .ref a3, .ref a4, .ref a5, .ref a6, .ref a7, .long kn, .int fl, .int an]))) (g5 : ax_g h a5 = some (.inl (0, 512, .inl fo))) (g6 : ax_g h a6 = some (.inl (0, 961, .inl vf))) : ax_M L xs 77 fr lo [.ref tb, .int (nI t)] h (fun r h' => r = some (.int (tfind fo vf t)) ∧ h' = h) := by
  show ax_A (ax_step L xs) ((77, 0, fr, lo), [(0, .ref tb), (1, .int (nI t))], [], h) _
  refine ar_iload_n 1 d_77_0 rfl rfl ?_
  refine ar_sipush 4 (v := 10240) d_77_1 rfl (by decide) ?_
  refine ar_idiv 5 d_77_4 rfl (by decide) ?_
  refine ar_top (x' := nI (t / 10240)) (pk_div (d := 10240) ht (by omega) (by omega)) ?_
  refine ar_istore_n 6 [(0, .ref tb), (1, .int (nI t)), (2, .int (nI (t / 10240)))] d_77_5 rfl (by decide) rfl ?_
  refine ar_iconst 7 (v := -1) d_77_6 rfl (by decide) ?_
  refine ar_istore_n 8 [(0, .ref tb), (1, .int (nI t)), (2, .int (nI (t / 10240))), (3, .int (-1))] d_77_7 rfl (by decide) rfl ?_
  refine ar_iload_n 9 d_77_8 rfl rfl ?_
  refine ar_sipush 12 (v := 512) d_77_9 rfl (by decide) ?_
  refine ar_top (x' := nI 512) rfl ?_
  refine ar_icmp_ne 22 15 d_77_12 (by decide) rfl (fun c1 => ?_) (fun c1 => ?_)
  · have k1 : ¬ t / 10240 = 512 := fun z => c1 (by rw [z])
    refine ar_iload_n 23 d_77_22 rfl rfl ?_
    refine ar_if_lt 61 26 d_77_23 (by decide) rfl (fun c => absurd c (nI_pos ht)) (fun _ => ?_)
    refine ar_iload_n 27 d_77_26 rfl rfl ?_
    refine ar_sipush 30 (v := 512) d_77_27 rfl (by decide) ?_
    refine ar_top (x' := nI 512) rfl ?_
    refine ar_icmp_ge 61 33 d_77_30 (by decide) rfl (fun c2 => ?_) (fun c2 => ?_)
    · have k2 : 512 ≤ t / 10240 := (nI_leI (by omega) (by omega)).mp c2
      refine ar_iload_n 62 d_77_61 rfl rfl ?_
      refine ar_if_lt 83 65 d_77_62 (by decide) rfl (fun _ => ?_) (fun c => absurd (by decide) c)
      refine ar_iconst 84 (v := -1) d_77_83 rfl (by decide) ?_
      exact ar_iret d_77_84 rfl rfl (⟨by rw [tfind, if_neg k1, if_neg (fun z => absurd z.1 (by omega))], rfl⟩)
    · have k2 : t / 10240 < 512 := Nat.lt_of_not_le (fun z => c2 ((nI_leI (a := 512) (b := t / 10240) (by omega) (by omega)).mpr z))
      refine ar_aload_n 34 d_77_33 rfl rfl ?_
      refine ar_getf 37 d_77_34 rfl (ci := 6) (k := 5) rfl gt rfl ?_
      refine ar_iload_n 38 d_77_37 rfl rfl ?_
      refine ar_iald 39 d_77_38 rfl g5 (nI_in (by omega) (by omega)) ?_
      refine ar_top (x' := fo (t / 10240)) (by rw [nI_clamp (by omega)]) ?_
      refine ar_if_lt 61 42 d_77_39 (by decide) rfl (fun c3 => ?_) (fun c3 => ?_)
      · refine ar_iload_n 62 d_77_61 rfl rfl ?_
        refine ar_if_lt 83 65 d_77_62 (by decide) rfl (fun _ => ?_) (fun c => absurd (by decide) c)
        refine ar_iconst 84 (v := -1) d_77_83 rfl (by decide) ?_
        exact ar_iret d_77_84 rfl rfl (⟨by rw [tfind, if_neg k1, if_neg (fun z => z.2 c3)], rfl⟩)
      · have k3 := nI_cl c3
        have k4 : (fo (t / 10240)).toNatClampNeg < 48 := hfo _ k2
        refine ar_aload_n 43 d_77_42 rfl rfl ?_
        refine ar_getf 46 d_77_43 rfl (ci := 6) (k := 5) rfl gt rfl ?_
        refine ar_iload_n 47 d_77_46 rfl rfl ?_
        refine ar_iald 48 d_77_47 rfl g5 (nI_in (by omega) (by omega)) ?_
        refine ar_top (x' := fo (t / 10240)) (by rw [nI_clamp (by omega)]) ?_
        refine ar_bipush 50 (v := 20) d_77_48 rfl (by decide) ?_
        refine ar_imul 51 d_77_50 rfl ?_
        refine ar_top (x' := nI ((fo (t / 10240)).toNatClampNeg * 20)) (by rw [← pk_mul, ← k3]; rfl) ?_
        refine ar_iload_n 52 d_77_51 rfl rfl ?_
        refine ar_sipush 55 (v := 512) d_77_52 rfl (by decide) ?_
        refine ar_idiv 56 d_77_55 rfl (by decide) ?_
        refine ar_top (x' := nI (t / 512)) (pk_div (d := 512) ht (by omega) (by omega)) ?_
        refine ar_bipush 58 (v := 20) d_77_56 rfl (by decide) ?_
        refine ar_irem 59 d_77_58 rfl (by decide) ?_
        refine ar_top (x' := nI (t / 512 % 20)) (pk_rem (d := 20) (by omega) (by omega) (by omega)) ?_
        refine ar_iadd 60 d_77_59 rfl ?_
        refine ar_top (x' := nI ((fo (t / 10240)).toNatClampNeg * 20 + t / 512 % 20)) (nI_add _ _) ?_
        refine ar_istore_n 61 [(0, .ref tb), (1, .int (nI t)), (2, .int (nI (t / 10240))), (3, .int (nI ((fo (t / 10240)).toNatClampNeg * 20 + t / 512 % 20)))] d_77_60 rfl (by decide) rfl ?_
        refine ar_iload_n 62 d_77_61 rfl rfl ?_
        refine ar_if_lt 83 65 d_77_62 (by decide) rfl (fun c => absurd c (nI_pos (by omega))) (fun _ => ?_)
        refine ar_aload_n 66 d_77_65 rfl rfl ?_
        refine ar_getf 69 d_77_66 rfl (ci := 6) (k := 6) rfl gt rfl ?_
        refine ar_iload_n 70 d_77_69 rfl rfl ?_
        refine ar_iald 71 d_77_70 rfl g6 (nI_in (by omega) (by omega)) ?_
        refine ar_top (x' := vf ((fo (t / 10240)).toNatClampNeg * 20 + t / 512 % 20)) (by rw [nI_clamp (by omega)]) ?_
        refine ar_iload_n 72 d_77_71 rfl rfl ?_
        refine ar_sipush 75 (v := 512) d_77_72 rfl (by decide) ?_
        refine ar_irem 76 d_77_75 rfl (by decide) ?_
        refine ar_top (x' := nI (t % 512)) (pk_rem (d := 512) ht (by omega) (by omega)) ?_
        refine ar_icmp_ne 83 79 d_77_76 (by decide) rfl (fun c4 => ?_) (fun c4 => ?_)
        · refine ar_iconst 84 (v := -1) d_77_83 rfl (by decide) ?_
          exact ar_iret d_77_84 rfl rfl (⟨by rw [tfind, if_neg k1, if_pos ⟨k2, c3⟩, if_neg c4], rfl⟩)
        · refine ar_iload_n 80 d_77_79 rfl rfl ?_
          refine ar_goto 84 d_77_80 (by decide) ?_
          exact ar_iret d_77_84 rfl rfl (⟨by rw [tfind, if_neg k1, if_pos ⟨k2, c3⟩, if_pos (Decidable.not_not.mp c4)], rfl⟩)
  · have k1 : t / 10240 = 512 := nI_inj (by omega) (by omega) (Decidable.not_not.mp c1)
    refine ar_sipush 18 (v := 960) d_77_15 rfl (by decide) ?_
    refine ar_istore_n 19 [(0, .ref tb), (1, .int (nI t)), (2, .int (nI (t / 10240))), (3, .int 960)] d_77_18 rfl (by decide) rfl ?_
    refine ar_goto 61 d_77_19 (by decide) ?_
    refine ar_iload_n 62 d_77_61 rfl rfl ?_
    refine ar_if_lt 83 65 d_77_62 (by decide) rfl (fun c => absurd c (by decide)) (fun _ => ?_)
    refine ar_aload_n 66 d_77_65 rfl rfl ?_
    refine ar_getf 69 d_77_66 rfl (ci := 6) (k := 6) rfl gt rfl ?_
    refine ar_iload_n 70 d_77_69 rfl rfl ?_
    refine ar_iald 71 d_77_70 rfl g6 (vin (i := 960) (by decide) (by decide)) ?_
    refine ar_top (x' := vf 960) (rfl) ?_
    refine ar_iload_n 72 d_77_71 rfl rfl ?_
    refine ar_sipush 75 (v := 512) d_77_72 rfl (by decide) ?_
    refine ar_irem 76 d_77_75 rfl (by decide) ?_
    refine ar_top (x' := nI (t % 512)) (pk_rem (d := 512) ht (by omega) (by omega)) ?_
    refine ar_icmp_ne 83 79 d_77_76 (by decide) rfl (fun c4 => ?_) (fun c4 => ?_)
    · refine ar_iconst 84 (v := -1) d_77_83 rfl (by decide) ?_
      exact ar_iret d_77_84 rfl rfl (⟨by rw [tfind, if_pos k1, if_neg c4], rfl⟩)
    · refine ar_iload_n 80 d_77_79 rfl rfl ?_
      refine ar_goto 84 d_77_80 (by decide) ?_
      exact ar_iret d_77_84 rfl rfl (⟨by rw [tfind, if_pos k1, if_pos (Decidable.not_not.mp c4)]; rfl, rfl⟩)
theorem c_75 {L : Nat} {xs : Nat → Int32} {fr lo : Nat} {h : ax_H} {tb a1 a2 a3 a4 a5 a6 a7 : Nat} {fl an : Int32} {kn : Int64} {jf : Nat → Int32} {a G : Nat} (ha : a < 961) (hG : 0 < G) (hG2 : G ≤ 16) (hj : ¬ (a = 960 ∨ a % 20 = 19) → ¬ jf (a / 20) < 0 ∧ (jf (a / 20)).toNatClampNeg < 512) (gt : ax_g h tb = some (.inr (6, [.int (nI G), .ref a1, .ref a2, .ref a3, .ref a4, .ref a5, .ref a6, .ref a7, .long kn, .int fl, .int an]))) (g1 : ax_g h a1 = some (.inl (0, 48, .inl jf))) : ax_M L xs 75 fr lo [.ref tb, .int (nI a)] h (fun r h' => r = some (.int (nI (grp jf G a))) ∧ h' = h) := by
  show ax_A (ax_step L xs) ((75, 0, fr, lo), [(0, .ref tb), (1, .int (nI a))], [], h) _
  refine ar_iload_n 1 d_75_0 rfl rfl ?_
  refine ar_bipush 3 (v := 20) d_75_1 rfl (by decide) ?_
  refine ar_irem 4 d_75_3 rfl (by decide) ?_
  refine ar_top (x' := nI (a % 20)) (pk_rem (d := 20) (by omega) (by omega) (by omega)) ?_
  refine ar_istore_n 5 [(0, .ref tb), (1, .int (nI a)), (2, .int (nI (a % 20)))] d_75_4 rfl (by decide) rfl ?_
  refine ar_iload_n 6 d_75_5 rfl rfl ?_
  refine ar_sipush 9 (v := 960) d_75_6 rfl (by decide) ?_
  refine ar_top (x' := nI 960) rfl ?_
  refine ar_icmp_eq 18 12 d_75_9 (by decide) rfl (fun c1 => ?_) (fun c1 => ?_)
  · refine ar_iconst 19 (v := 0) d_75_18 rfl (by decide) ?_
    refine ar_goto 44 d_75_19 (by decide) ?_
    exact ar_iret d_75_44 rfl rfl (⟨by rw [grp, if_pos (Or.inl (nI_inj (by omega) (by omega) c1))]; rfl, rfl⟩)
  · refine ar_iload_n 13 d_75_12 rfl rfl ?_
    refine ar_bipush 15 (v := 19) d_75_13 rfl (by decide) ?_
    refine ar_top (x' := nI 19) rfl ?_
    refine ar_icmp_ne 22 18 d_75_15 (by decide) rfl (fun c2 => ?_) (fun c2 => ?_)
    · have k1 : ¬ (a = 960 ∨ a % 20 = 19) := fun z => z.elim (fun q => c1 (by rw [q])) (fun q => c2 (by rw [q]))
      obtain ⟨d1, d2⟩ := hj k1
      have k2 := nI_cl d1
      refine ar_aload_n 23 d_75_22 rfl rfl ?_
      refine ar_getf 26 d_75_23 rfl (ci := 6) (k := 1) rfl gt rfl ?_
      refine ar_iload_n 27 d_75_26 rfl rfl ?_
      refine ar_bipush 29 (v := 20) d_75_27 rfl (by decide) ?_
      refine ar_idiv 30 d_75_29 rfl (by decide) ?_
      refine ar_top (x' := nI (a / 20)) (pk_div (d := 20) (by omega) (by omega) (by omega)) ?_
      refine ar_iald 31 d_75_30 rfl g1 (nI_in (by omega) (by omega)) ?_
      refine ar_top (x' := jf (a / 20)) (by rw [nI_clamp (by omega)]) ?_
      refine ar_bipush 33 (v := 31) d_75_31 rfl (by decide) ?_
      refine ar_imul 34 d_75_33 rfl ?_
      refine ar_top (x' := nI ((jf (a / 20)).toNatClampNeg * 31)) (by rw [← pk_mul, ← k2]; rfl) ?_
      refine ar_iload_n 35 d_75_34 rfl rfl ?_
      refine ar_bipush 37 (v := 7) d_75_35 rfl (by decide) ?_
      refine ar_imul 38 d_75_37 rfl ?_
      refine ar_top (x' := nI (a % 20 * 7)) (pk_mul _ 7) ?_
      refine ar_iadd 39 d_75_38 rfl ?_
      refine ar_top (x' := nI ((jf (a / 20)).toNatClampNeg * 31 + a % 20 * 7)) (nI_add _ _) ?_
      refine ar_aload_n 40 d_75_39 rfl rfl ?_
      refine ar_getf 43 d_75_40 rfl (ci := 6) (k := 0) rfl gt rfl ?_
      refine ar_irem 44 d_75_43 rfl (nI_nz9 (by omega) (by omega)) ?_
      refine ar_top (x' := nI (((jf (a / 20)).toNatClampNeg * 31 + a % 20 * 7) % G)) (pk_rem (by omega) (by omega) (by omega)) ?_
      exact ar_iret d_75_44 rfl rfl (⟨by rw [grp, if_neg k1], rfl⟩)
    · refine ar_iconst 19 (v := 0) d_75_18 rfl (by decide) ?_
      refine ar_goto 44 d_75_19 (by decide) ?_
      exact ar_iret d_75_44 rfl rfl (⟨by rw [grp, if_pos (Or.inr (nI_inj (by omega) (by omega) (Decidable.not_not.mp c2)))]; rfl, rfl⟩)
theorem c_116 {L : Nat} {xs : Nat → Int32} {fr lo : Nat} {h : ax_H} {tb a1 a2 a3 a4 a5 a6 a7 : Nat} {g fl an : Int32} {kn : Int64} {jf vf : Nat → Int32} {a : Nat} (ha : a < 961) (gt : ax_g h tb = some (.inr (6, [.int g, .ref a1, .ref a2, .ref a3, .ref a4, .ref a5, .ref a6, .ref a7, .long kn, .int fl, .int an]))) (g1 : ax_g h a1 = some (.inl (0, 48, .inl jf))) (g6 : ax_g h a6 = some (.inl (0, 961, .inl vf))) : ax_M L xs 116 fr lo [.ref tb, .int (nI a)] h (fun r h' => r = some (.int (tgA jf vf a)) ∧ h' = h) := by
  show ax_A (ax_step L xs) ((116, 0, fr, lo), [(0, .ref tb), (1, .int (nI a))], [], h) _
  refine ar_iload_n 1 d_116_0 rfl rfl ?_
  refine ar_sipush 4 (v := 960) d_116_1 rfl (by decide) ?_
  refine ar_top (x' := nI 960) rfl ?_
  refine ar_icmp_ne 13 7 d_116_4 (by decide) rfl (fun c1 => ?_) (fun c1 => ?_)
  · have k1 : ¬ a = 960 := fun z => c1 (by rw [z])
    refine ar_aload_n 14 d_116_13 rfl rfl ?_
    refine ar_getf 17 d_116_14 rfl (ci := 6) (k := 1) rfl gt rfl ?_
    refine ar_iload_n 18 d_116_17 rfl rfl ?_
    refine ar_bipush 20 (v := 20) d_116_18 rfl (by decide) ?_
    refine ar_idiv 21 d_116_20 rfl (by decide) ?_
    refine ar_top (x' := nI (a / 20)) (pk_div (d := 20) (by omega) (by omega) (by omega)) ?_
    refine ar_iald 22 d_116_21 rfl g1 (nI_in (by omega) (by omega)) ?_
    refine ar_top (x' := jf (a / 20)) (by rw [nI_clamp (by omega)]) ?_
    refine ar_bipush 24 (v := 20) d_116_22 rfl (by decide) ?_
    refine ar_imul 25 d_116_24 rfl ?_
    refine ar_iload_n 26 d_116_25 rfl rfl ?_
    refine ar_bipush 28 (v := 20) d_116_26 rfl (by decide) ?_
    refine ar_irem 29 d_116_28 rfl (by decide) ?_
    refine ar_top (x' := nI (a % 20)) (pk_rem (d := 20) (by omega) (by omega) (by omega)) ?_
    refine ar_iadd 30 d_116_29 rfl ?_
    refine ar_istore_n 31 [(0, .ref tb), (1, .int (nI a)), (2, .int (((jf (a / 20)) * 20) + (nI (a % 20))))] d_116_30 rfl (by decide) rfl ?_
    refine ar_iload_n 32 d_116_31 rfl rfl ?_
    refine ar_sipush 35 (v := 512) d_116_32 rfl (by decide) ?_
    refine ar_imul 36 d_116_35 rfl ?_
    refine ar_aload_n 37 d_116_36 rfl rfl ?_
    refine ar_getf 40 d_116_37 rfl (ci := 6) (k := 6) rfl gt rfl ?_
    refine ar_iload_n 41 d_116_40 rfl rfl ?_
    refine ar_iald 42 d_116_41 rfl g6 (nI_in (by omega) (by omega)) ?_
    refine ar_top (x' := vf a) (by rw [nI_clamp (by omega)]) ?_
    refine ar_iadd 43 d_116_42 rfl ?_
    exact ar_iret d_116_43 rfl rfl (⟨by rw [tgA, if_neg k1], rfl⟩)
  · have k1 : a = 960 := nI_inj (by omega) (by omega) (Decidable.not_not.mp c1)
    refine ar_sipush 10 (v := 10240) d_116_7 rfl (by decide) ?_
    refine ar_goto 30 d_116_10 (by decide) ?_
    refine ar_istore_n 31 [(0, .ref tb), (1, .int (nI a)), (2, .int 10240)] d_116_30 rfl (by decide) rfl ?_
    refine ar_iload_n 32 d_116_31 rfl rfl ?_
    refine ar_sipush 35 (v := 512) d_116_32 rfl (by decide) ?_
    refine ar_imul 36 d_116_35 rfl ?_
    refine ar_aload_n 37 d_116_36 rfl rfl ?_
    refine ar_getf 40 d_116_37 rfl (ci := 6) (k := 6) rfl gt rfl ?_
    refine ar_iload_n 41 d_116_40 rfl rfl ?_
    refine ar_iald 42 d_116_41 rfl g6 (nI_in (by omega) (by omega)) ?_
    refine ar_top (x' := vf a) (by rw [nI_clamp (by omega)]) ?_
    refine ar_iadd 43 d_116_42 rfl ?_
    exact ar_iret d_116_43 rfl rfl (⟨by rw [tgA, if_pos k1], rfl⟩)


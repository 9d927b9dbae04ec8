/-! feed: any TAPE; name with an empty TAPE; begin as nothing was begun -/
theorem nfw_copy : nativeFrameWords "java/lang/System" "arraycopy" 5 = 7 := by decide
theorem shr2 {l : Nat} (hl : l < 2 ^ 31) : (nI l) >>> ((2 : Int32) &&& 31) = nI (l / 4) := by
  have e : ((2 : Int32) &&& 31) = 2 := by decide
  rw [e]
  apply Int32.toInt.inj
  have e1 : (nI l >>> 2).toInt = ((nI l).toBitVec.sshiftRight 2).toInt := rfl
  have e2 : (nI l).toBitVec.toInt = (nI l).toInt := rfl
  rw [nI_toInt' (by omega), e1, BitVec.toInt_sshiftRight, e2, nI_toInt' hl, Int.shiftRight_eq_div_pow]
  omega
/-- byte l of words that are packed by fours -/
def setB (tf : Nat → Int32) (l : Nat) (v : Int32) : Nat → Int32 := upd tf (l / 4) (((tf (l / 4)) &&& ((255 <<< ((24 - (8 * ((nI l) &&& 3))) &&& 31)) ^^^ (-1))) ||| ((v &&& 255) <<< ((24 - (8 * ((nI l) &&& 3))) &&& 31)))
theorem c_39 {L : Nat} {xs : Nat → Int32} {fr lo : Nat} {h : ax_H} {a N l : Nat} {tf : Nat → Int32} {v : Int32} (hN : N < 2 ^ 29) (hl : l / 4 < N) (hF : ax_hs h [(a, .inl (0, N, .inl tf))]) : ax_M L xs 39 fr lo [.ref a, .int (nI l), .int v] h (fun r h' => r = none ∧ h' = ax_put h a (.inl (0, N, .inl (setB tf l v)))) := by
  show ax_A (ax_step L xs) ((39, 0, fr, lo), [(0, .ref a), (1, .int (nI l)), (2, .int v)], [], h) _
  refine ar_bipush 2 (v := 24) d_39_0 rfl (by decide) ?_
  refine ar_bipush 4 (v := 8) d_39_2 rfl (by decide) ?_
  refine ar_iload_n 5 d_39_4 rfl rfl ?_
  refine ar_iconst 6 (v := 3) d_39_5 rfl (by decide) ?_
  refine ar_iand 7 d_39_6 rfl ?_
  refine ar_imul 8 d_39_7 rfl ?_
  refine ar_isub 9 d_39_8 rfl ?_
  refine ar_istore_n 10 [(0, .ref a), (1, .int (nI l)), (2, .int v), (3, .int (24 - (8 * ((nI l) &&& 3))))] d_39_9 rfl (by decide) rfl ?_
  refine ar_aload_n 11 d_39_10 rfl rfl ?_
  refine ar_iload_n 12 d_39_11 rfl rfl ?_
  refine ar_iconst 13 (v := 2) d_39_12 rfl (by decide) ?_
  refine ar_ishr 14 d_39_13 rfl ?_
  refine ar_top (x' := nI (l / 4)) (shr2 (by omega)) ?_
  refine ar_aload_n 15 d_39_14 rfl rfl ?_
  refine ar_iload_n 16 d_39_15 rfl rfl ?_
  refine ar_iconst 17 (v := 2) d_39_16 rfl (by decide) ?_
  refine ar_ishr 18 d_39_17 rfl ?_
  refine ar_top (x' := nI (l / 4)) (shr2 (by omega)) ?_
  refine ar_iald 19 d_39_18 rfl (hF.at 0 rfl) (nI_in hl (by omega)) ?_
  refine ar_sipush 22 (v := 255) d_39_19 rfl (by decide) ?_
  refine ar_iload_n 23 d_39_22 rfl rfl ?_
  refine ar_ishl 24 d_39_23 rfl ?_
  refine ar_iconst 25 (v := -1) d_39_24 rfl (by decide) ?_
  refine ar_ixor 26 d_39_25 rfl ?_
  refine ar_iand 27 d_39_26 rfl ?_
  refine ar_iload_n 28 d_39_27 rfl rfl ?_
  refine ar_sipush 31 (v := 255) d_39_28 rfl (by decide) ?_
  refine ar_iand 32 d_39_31 rfl ?_
  refine ar_iload_n 33 d_39_32 rfl rfl ?_
  refine ar_ishl 34 d_39_33 rfl ?_
  refine ar_ior 35 d_39_34 rfl ?_
  refine ar_iast 36 d_39_35 rfl (hF.at 0 rfl) (nI_in hl (by omega)) ?_
  have hF : ax_hs (ax_put h a (.inl (0, N, .inl (upd tf (nI (l / 4)).toNatClampNeg (((tf (nI (l / 4)).toNatClampNeg) &&& ((255 <<< ((24 - (8 * ((nI l) &&& 3))) &&& 31)) ^^^ (-1))) ||| ((v &&& 255) <<< ((24 - (8 * ((nI l) &&& 3))) &&& 31))))))) [(a, .inl (0, N, .inl (upd tf (nI (l / 4)).toNatClampNeg (((tf (nI (l / 4)).toNatClampNeg) &&& ((255 <<< ((24 - (8 * ((nI l) &&& 3))) &&& 31)) ^^^ (-1))) ||| ((v &&& 255) <<< ((24 - (8 * ((nI l) &&& 3))) &&& 31))))))] := hF.put 0 _ rfl rfl
  exact ar_ret d_39_36 rfl (⟨rfl, by rw [nI_clamp (by omega)]; rfl⟩)
def setW (tf : Nat → Int32) (l : Nat) (wd : Int32) : Nat → Int32 := setB (setB (setB (setB tf (l) ((wd.toUInt32 >>> ((24 : Int32).toUInt32 &&& Int32.toUInt32 31)).toInt32)) (l + 1) ((wd.toUInt32 >>> ((16 : Int32).toUInt32 &&& Int32.toUInt32 31)).toInt32)) (l + 2) ((wd.toUInt32 >>> ((8 : Int32).toUInt32 &&& Int32.toUInt32 31)).toInt32)) (l + 3) ((wd.toUInt32 >>> ((0 : Int32).toUInt32 &&& Int32.toUInt32 31)).toInt32)
theorem c_38 {L : Nat} {xs : Nat → Int32} {fr lo : Nat} {h : ax_H} {n sl : Nat} {as rk nt tp nm nl ak aw : Nat} {bg he se si ef ep sm mh : Int32} {tf : Nat → Int32} {l : Nat} {wd : Int32} (hfr : 1 ≤ fr) (hlo : 30 ≤ lo) (hl : l + 4 ≤ 2048) (hF : ax_hs h [(as, .inr (4, [.ref rk, .ref nt, .ref tp, .int (nI l), .ref nm, .ref nl, .ref ak, .ref aw, .int bg, .int he, .int se, .int si, .int ef, .int ep, .int sm, .int mh])), (tp, .inl (0, 512, .inl tf))]) (hn : h.1 = n) (hs : h.2.1 = sl) (hn0 : 0 < n) : ax_M L xs 38 fr lo [.ref as, .int wd] h (fun r h' => r = none ∧ ax_hs h' [(as, .inr (4, [.ref rk, .ref nt, .ref tp, .int (nI (l + 4)), .ref nm, .ref nl, .ref ak, .ref aw, .int bg, .int he, .int se, .int si, .int ef, .int ep, .int sm, .int mh])), (tp, .inl (0, 512, .inl (setW tf l wd)))] ∧ h'.1 = n ∧ h'.2.1 = sl ∧ ax_fr (fun x => x ∈ [as, tp]) h h') := by
  show ax_A (ax_step L xs) ((38, 0, fr, lo), [(0, .ref as), (1, .int wd)], [], h) _
  have hbase : h.1 = n := hn
  have hbasl : h.2.1 = sl := hs
  have hf : ax_fr (fun x => x ∈ [as, tp]) h h := ax_fr.rf
  refine ar_bipush 2 (v := 24) d_38_0 rfl (by decide) ?_
  refine ar_istore_n 3 [(0, .ref as), (1, .int wd), (2, .int 24)] d_38_2 rfl (by decide) rfl ?_
  refine ar_iload_n 4 d_38_3 rfl rfl ?_
  refine ar_if_lt 37 7 d_38_4 (by decide) rfl (fun c => absurd c (by decide)) (fun _ => ?_)
  refine ar_aload_n 8 d_38_7 rfl rfl ?_
  refine ar_getf 11 d_38_8 rfl (ci := 4) (k := 2) rfl (hF.at 0 rfl) rfl ?_
  refine ar_aload_n 12 d_38_11 rfl rfl ?_
  refine ar_getf 15 d_38_12 rfl (ci := 4) (k := 3) rfl (hF.at 0 rfl) rfl ?_
  refine ar_iload_n 16 d_38_15 rfl rfl ?_
  refine ar_iload_n 17 d_38_16 rfl rfl ?_
  refine ar_iushr 18 d_38_17 rfl ?_
  refine ar_call (r := []) (na := 0) (kd := 0) (cm := 39) (fr2 := fr - 1) (lo2 := lo - 23) 21 d_38_18 (ar_hoS (as := [.ref tp, .int (nI l), .int ((wd.toUInt32 >>> ((24 : Int32).toUInt32 &&& Int32.toUInt32 31)).toInt32)]) rfl rfl rfl) rfl (by omega) (show lo - 23 + (19 + 4) = lo by omega) (Nat.le_of_ble_eq_true rfl) (Nat.le_of_ble_eq_true rfl) (c_39 (l := l) (by decide) (by omega) (hF.sub (F' := [(tp, .inl (0, 512, .inl tf))]) [1] rfl rfl)) ?_
  intro v hh hq
  obtain ⟨rfl, rfl⟩ := hq
  replace hF : ax_hs (ax_put h tp (.inl (0, 512, .inl (setB tf (l) ((wd.toUInt32 >>> ((24 : Int32).toUInt32 &&& Int32.toUInt32 31)).toInt32))))) [(as, .inr (4, [.ref rk, .ref nt, .ref tp, .int (nI l), .ref nm, .ref nl, .ref ak, .ref aw, .int bg, .int he, .int se, .int si, .int ef, .int ep, .int sm, .int mh])), (tp, .inl (0, 512, .inl (setB tf (l) ((wd.toUInt32 >>> ((24 : Int32).toUInt32 &&& Int32.toUInt32 31)).toInt32))))] := hF.put 1 _ rfl rfl
  replace hf := hf.put (a := tp) (c := .inl (0, 512, .inl (setB tf (l) ((wd.toUInt32 >>> ((24 : Int32).toUInt32 &&& Int32.toUInt32 31)).toInt32)))) (by simp)
  replace hn : (ax_put h tp (.inl (0, 512, .inl (setB tf (l) ((wd.toUInt32 >>> ((24 : Int32).toUInt32 &&& Int32.toUInt32 31)).toInt32))))).1 = n := hn
  replace hs : (ax_put h tp (.inl (0, 512, .inl (setB tf (l) ((wd.toUInt32 >>> ((24 : Int32).toUInt32 &&& Int32.toUInt32 31)).toInt32))))).2.1 = sl := hs
  generalize ax_put h tp (.inl (0, 512, .inl (setB tf (l) ((wd.toUInt32 >>> ((24 : Int32).toUInt32 &&& Int32.toUInt32 31)).toInt32)))) = h1 at hF hf hn hs ⊢
  refine ar_aload_n 22 d_38_21 rfl rfl ?_
  refine ar_dup 23 d_38_22 rfl rfl ?_
  refine ar_getf 26 d_38_23 rfl (ci := 4) (k := 3) rfl (hF.at 0 rfl) rfl ?_
  refine ar_iconst 27 (v := 1) d_38_26 rfl (by decide) ?_
  refine ar_iadd 28 d_38_27 rfl ?_
  refine ar_top (x' := nI (l + 1)) ((nI_succ (l)).symm) ?_
  refine ar_putf 31 [.ref rk, .ref nt, .ref tp, .int (nI (l + 1)), .ref nm, .ref nl, .ref ak, .ref aw, .int bg, .int he, .int se, .int si, .int ef, .int ep, .int sm, .int mh] d_38_28 rfl (ci := 4) (k := 3) rfl rfl (hF.at 0 rfl) (Nat.le_of_ble_eq_true rfl) rfl rfl rfl ?_
  replace hF : ax_hs (ax_put h1 as (.inr (4, [.ref rk, .ref nt, .ref tp, .int (nI (l + 1)), .ref nm, .ref nl, .ref ak, .ref aw, .int bg, .int he, .int se, .int si, .int ef, .int ep, .int sm, .int mh]))) [(as, .inr (4, [.ref rk, .ref nt, .ref tp, .int (nI (l + 1)), .ref nm, .ref nl, .ref ak, .ref aw, .int bg, .int he, .int se, .int si, .int ef, .int ep, .int sm, .int mh])), (tp, .inl (0, 512, .inl (setB tf (l) ((wd.toUInt32 >>> ((24 : Int32).toUInt32 &&& Int32.toUInt32 31)).toInt32))))] := hF.put 0 _ rfl rfl
  replace hf := hf.put (a := as) (c := .inr (4, [.ref rk, .ref nt, .ref tp, .int (nI (l + 1)), .ref nm, .ref nl, .ref ak, .ref aw, .int bg, .int he, .int se, .int si, .int ef, .int ep, .int sm, .int mh])) (by simp)
  replace hn : (ax_put h1 as (.inr (4, [.ref rk, .ref nt, .ref tp, .int (nI (l + 1)), .ref nm, .ref nl, .ref ak, .ref aw, .int bg, .int he, .int se, .int si, .int ef, .int ep, .int sm, .int mh]))).1 = n := hn
  replace hs : (ax_put h1 as (.inr (4, [.ref rk, .ref nt, .ref tp, .int (nI (l + 1)), .ref nm, .ref nl, .ref ak, .ref aw, .int bg, .int he, .int se, .int si, .int ef, .int ep, .int sm, .int mh]))).2.1 = sl := hs
  generalize ax_put h1 as (.inr (4, [.ref rk, .ref nt, .ref tp, .int (nI (l + 1)), .ref nm, .ref nl, .ref ak, .ref aw, .int bg, .int he, .int se, .int si, .int ef, .int ep, .int sm, .int mh])) = h2 at hF hf hn hs ⊢
  refine ar_iinc 34 [(0, .ref as), (1, .int wd), (2, .int 16)] d_38_31 rfl rfl (by decide) (by decide) rfl ?_
  refine ar_goto 3 d_38_34 (by decide) ?_
  refine ar_iload_n 4 d_38_3 rfl rfl ?_
  refine ar_if_lt 37 7 d_38_4 (by decide) rfl (fun c => absurd c (by decide)) (fun _ => ?_)
  refine ar_aload_n 8 d_38_7 rfl rfl ?_
  refine ar_getf 11 d_38_8 rfl (ci := 4) (k := 2) rfl (hF.at 0 rfl) rfl ?_
  refine ar_aload_n 12 d_38_11 rfl rfl ?_
  refine ar_getf 15 d_38_12 rfl (ci := 4) (k := 3) rfl (hF.at 0 rfl) rfl ?_
  refine ar_iload_n 16 d_38_15 rfl rfl ?_
  refine ar_iload_n 17 d_38_16 rfl rfl ?_
  refine ar_iushr 18 d_38_17 rfl ?_
  refine ar_call (r := []) (na := 0) (kd := 0) (cm := 39) (fr2 := fr - 1) (lo2 := lo - 23) 21 d_38_18 (ar_hoS (as := [.ref tp, .int (nI (l + 1)), .int ((wd.toUInt32 >>> ((16 : Int32).toUInt32 &&& Int32.toUInt32 31)).toInt32)]) rfl rfl rfl) rfl (by omega) (show lo - 23 + (19 + 4) = lo by omega) (Nat.le_of_ble_eq_true rfl) (Nat.le_of_ble_eq_true rfl) (c_39 (l := l + 1) (by decide) (by omega) (hF.sub (F' := [(tp, .inl (0, 512, .inl (setB tf (l) ((wd.toUInt32 >>> ((24 : Int32).toUInt32 &&& Int32.toUInt32 31)).toInt32))))]) [1] rfl rfl)) ?_
  intro v hh hq
  obtain ⟨rfl, rfl⟩ := hq
  replace hF : ax_hs (ax_put h2 tp (.inl (0, 512, .inl (setB (setB tf (l) ((wd.toUInt32 >>> ((24 : Int32).toUInt32 &&& Int32.toUInt32 31)).toInt32)) (l + 1) ((wd.toUInt32 >>> ((16 : Int32).toUInt32 &&& Int32.toUInt32 31)).toInt32))))) [(as, .inr (4, [.ref rk, .ref nt, .ref tp, .int (nI (l + 1)), .ref nm, .ref nl, .ref ak, .ref aw, .int bg, .int he, .int se, .int si, .int ef, .int ep, .int sm, .int mh])), (tp, .inl (0, 512, .inl (setB (setB tf (l) ((wd.toUInt32 >>> ((24 : Int32).toUInt32 &&& Int32.toUInt32 31)).toInt32)) (l + 1) ((wd.toUInt32 >>> ((16 : Int32).toUInt32 &&& Int32.toUInt32 31)).toInt32))))] := hF.put 1 _ rfl rfl
  replace hf := hf.put (a := tp) (c := .inl (0, 512, .inl (setB (setB tf (l) ((wd.toUInt32 >>> ((24 : Int32).toUInt32 &&& Int32.toUInt32 31)).toInt32)) (l + 1) ((wd.toUInt32 >>> ((16 : Int32).toUInt32 &&& Int32.toUInt32 31)).toInt32)))) (by simp)
  replace hn : (ax_put h2 tp (.inl (0, 512, .inl (setB (setB tf (l) ((wd.toUInt32 >>> ((24 : Int32).toUInt32 &&& Int32.toUInt32 31)).toInt32)) (l + 1) ((wd.toUInt32 >>> ((16 : Int32).toUInt32 &&& Int32.toUInt32 31)).toInt32))))).1 = n := hn
  replace hs : (ax_put h2 tp (.inl (0, 512, .inl (setB (setB tf (l) ((wd.toUInt32 >>> ((24 : Int32).toUInt32 &&& Int32.toUInt32 31)).toInt32)) (l + 1) ((wd.toUInt32 >>> ((16 : Int32).toUInt32 &&& Int32.toUInt32 31)).toInt32))))).2.1 = sl := hs
  generalize ax_put h2 tp (.inl (0, 512, .inl (setB (setB tf (l) ((wd.toUInt32 >>> ((24 : Int32).toUInt32 &&& Int32.toUInt32 31)).toInt32)) (l + 1) ((wd.toUInt32 >>> ((16 : Int32).toUInt32 &&& Int32.toUInt32 31)).toInt32)))) = h3 at hF hf hn hs ⊢
  refine ar_aload_n 22 d_38_21 rfl rfl ?_
  refine ar_dup 23 d_38_22 rfl rfl ?_
  refine ar_getf 26 d_38_23 rfl (ci := 4) (k := 3) rfl (hF.at 0 rfl) rfl ?_
  refine ar_iconst 27 (v := 1) d_38_26 rfl (by decide) ?_
  refine ar_iadd 28 d_38_27 rfl ?_
  refine ar_top (x' := nI (l + 2)) ((nI_succ (l + 1)).symm) ?_
  refine ar_putf 31 [.ref rk, .ref nt, .ref tp, .int (nI (l + 2)), .ref nm, .ref nl, .ref ak, .ref aw, .int bg, .int he, .int se, .int si, .int ef, .int ep, .int sm, .int mh] d_38_28 rfl (ci := 4) (k := 3) rfl rfl (hF.at 0 rfl) (Nat.le_of_ble_eq_true rfl) rfl rfl rfl ?_
  replace hF : ax_hs (ax_put h3 as (.inr (4, [.ref rk, .ref nt, .ref tp, .int (nI (l + 2)), .ref nm, .ref nl, .ref ak, .ref aw, .int bg, .int he, .int se, .int si, .int ef, .int ep, .int sm, .int mh]))) [(as, .inr (4, [.ref rk, .ref nt, .ref tp, .int (nI (l + 2)), .ref nm, .ref nl, .ref ak, .ref aw, .int bg, .int he, .int se, .int si, .int ef, .int ep, .int sm, .int mh])), (tp, .inl (0, 512, .inl (setB (setB tf (l) ((wd.toUInt32 >>> ((24 : Int32).toUInt32 &&& Int32.toUInt32 31)).toInt32)) (l + 1) ((wd.toUInt32 >>> ((16 : Int32).toUInt32 &&& Int32.toUInt32 31)).toInt32))))] := hF.put 0 _ rfl rfl
  replace hf := hf.put (a := as) (c := .inr (4, [.ref rk, .ref nt, .ref tp, .int (nI (l + 2)), .ref nm, .ref nl, .ref ak, .ref aw, .int bg, .int he, .int se, .int si, .int ef, .int ep, .int sm, .int mh])) (by simp)
  replace hn : (ax_put h3 as (.inr (4, [.ref rk, .ref nt, .ref tp, .int (nI (l + 2)), .ref nm, .ref nl, .ref ak, .ref aw, .int bg, .int he, .int se, .int si, .int ef, .int ep, .int sm, .int mh]))).1 = n := hn
  replace hs : (ax_put h3 as (.inr (4, [.ref rk, .ref nt, .ref tp, .int (nI (l + 2)), .ref nm, .ref nl, .ref ak, .ref aw, .int bg, .int he, .int se, .int si, .int ef, .int ep, .int sm, .int mh]))).2.1 = sl := hs
  generalize ax_put h3 as (.inr (4, [.ref rk, .ref nt, .ref tp, .int (nI (l + 2)), .ref nm, .ref nl, .ref ak, .ref aw, .int bg, .int he, .int se, .int si, .int ef, .int ep, .int sm, .int mh])) = h4 at hF hf hn hs ⊢
  refine ar_iinc 34 [(0, .ref as), (1, .int wd), (2, .int 8)] d_38_31 rfl rfl (by decide) (by decide) rfl ?_
  refine ar_goto 3 d_38_34 (by decide) ?_
  refine ar_iload_n 4 d_38_3 rfl rfl ?_
  refine ar_if_lt 37 7 d_38_4 (by decide) rfl (fun c => absurd c (by decide)) (fun _ => ?_)
  refine ar_aload_n 8 d_38_7 rfl rfl ?_
  refine ar_getf 11 d_38_8 rfl (ci := 4) (k := 2) rfl (hF.at 0 rfl) rfl ?_
  refine ar_aload_n 12 d_38_11 rfl rfl ?_
  refine ar_getf 15 d_38_12 rfl (ci := 4) (k := 3) rfl (hF.at 0 rfl) rfl ?_
  refine ar_iload_n 16 d_38_15 rfl rfl ?_
  refine ar_iload_n 17 d_38_16 rfl rfl ?_
  refine ar_iushr 18 d_38_17 rfl ?_
  refine ar_call (r := []) (na := 0) (kd := 0) (cm := 39) (fr2 := fr - 1) (lo2 := lo - 23) 21 d_38_18 (ar_hoS (as := [.ref tp, .int (nI (l + 2)), .int ((wd.toUInt32 >>> ((8 : Int32).toUInt32 &&& Int32.toUInt32 31)).toInt32)]) rfl rfl rfl) rfl (by omega) (show lo - 23 + (19 + 4) = lo by omega) (Nat.le_of_ble_eq_true rfl) (Nat.le_of_ble_eq_true rfl) (c_39 (l := l + 2) (by decide) (by omega) (hF.sub (F' := [(tp, .inl (0, 512, .inl (setB (setB tf (l) ((wd.toUInt32 >>> ((24 : Int32).toUInt32 &&& Int32.toUInt32 31)).toInt32)) (l + 1) ((wd.toUInt32 >>> ((16 : Int32).toUInt32 &&& Int32.toUInt32 31)).toInt32))))]) [1] rfl rfl)) ?_
  intro v hh hq
  obtain ⟨rfl, rfl⟩ := hq
  replace hF : ax_hs (ax_put h4 tp (.inl (0, 512, .inl (setB (setB (setB tf (l) ((wd.toUInt32 >>> ((24 : Int32).toUInt32 &&& Int32.toUInt32 31)).toInt32)) (l + 1) ((wd.toUInt32 >>> ((16 : Int32).toUInt32 &&& Int32.toUInt32 31)).toInt32)) (l + 2) ((wd.toUInt32 >>> ((8 : Int32).toUInt32 &&& Int32.toUInt32 31)).toInt32))))) [(as, .inr (4, [.ref rk, .ref nt, .ref tp, .int (nI (l + 2)), .ref nm, .ref nl, .ref ak, .ref aw, .int bg, .int he, .int se, .int si, .int ef, .int ep, .int sm, .int mh])), (tp, .inl (0, 512, .inl (setB (setB (setB tf (l) ((wd.toUInt32 >>> ((24 : Int32).toUInt32 &&& Int32.toUInt32 31)).toInt32)) (l + 1) ((wd.toUInt32 >>> ((16 : Int32).toUInt32 &&& Int32.toUInt32 31)).toInt32)) (l + 2) ((wd.toUInt32 >>> ((8 : Int32).toUInt32 &&& Int32.toUInt32 31)).toInt32))))] := hF.put 1 _ rfl rfl
  replace hf := hf.put (a := tp) (c := .inl (0, 512, .inl (setB (setB (setB tf (l) ((wd.toUInt32 >>> ((24 : Int32).toUInt32 &&& Int32.toUInt32 31)).toInt32)) (l + 1) ((wd.toUInt32 >>> ((16 : Int32).toUInt32 &&& Int32.toUInt32 31)).toInt32)) (l + 2) ((wd.toUInt32 >>> ((8 : Int32).toUInt32 &&& Int32.toUInt32 31)).toInt32)))) (by simp)
  replace hn : (ax_put h4 tp (.inl (0, 512, .inl (setB (setB (setB tf (l) ((wd.toUInt32 >>> ((24 : Int32).toUInt32 &&& Int32.toUInt32 31)).toInt32)) (l + 1) ((wd.toUInt32 >>> ((16 : Int32).toUInt32 &&& Int32.toUInt32 31)).toInt32)) (l + 2) ((wd.toUInt32 >>> ((8 : Int32).toUInt32 &&& Int32.toUInt32 31)).toInt32))))).1 = n := hn
  replace hs : (ax_put h4 tp (.inl (0, 512, .inl (setB (setB (setB tf (l) ((wd.toUInt32 >>> ((24 : Int32).toUInt32 &&& Int32.toUInt32 31)).toInt32)) (l + 1) ((wd.toUInt32 >>> ((16 : Int32).toUInt32 &&& Int32.toUInt32 31)).toInt32)) (l + 2) ((wd.toUInt32 >>> ((8 : Int32).toUInt32 &&& Int32.toUInt32 31)).toInt32))))).2.1 = sl := hs
  generalize ax_put h4 tp (.inl (0, 512, .inl (setB (setB (setB tf (l) ((wd.toUInt32 >>> ((24 : Int32).toUInt32 &&& Int32.toUInt32 31)).toInt32)) (l + 1) ((wd.toUInt32 >>> ((16 : Int32).toUInt32 &&& Int32.toUInt32 31)).toInt32)) (l + 2) ((wd.toUInt32 >>> ((8 : Int32).toUInt32 &&& Int32.toUInt32 31)).toInt32)))) = h5 at hF hf hn hs ⊢
  refine ar_aload_n 22 d_38_21 rfl rfl ?_
  refine ar_dup 23 d_38_22 rfl rfl ?_
  refine ar_getf 26 d_38_23 rfl (ci := 4) (k := 3) rfl (hF.at 0 rfl) rfl ?_
  refine ar_iconst 27 (v := 1) d_38_26 rfl (by decide) ?_
  refine ar_iadd 28 d_38_27 rfl ?_
  refine ar_top (x' := nI (l + 3)) ((nI_succ (l + 2)).symm) ?_
  refine ar_putf 31 [.ref rk, .ref nt, .ref tp, .int (nI (l + 3)), .ref nm, .ref nl, .ref ak, .ref aw, .int bg, .int he, .int se, .int si, .int ef, .int ep, .int sm, .int mh] d_38_28 rfl (ci := 4) (k := 3) rfl rfl (hF.at 0 rfl) (Nat.le_of_ble_eq_true rfl) rfl rfl rfl ?_
  replace hF : ax_hs (ax_put h5 as (.inr (4, [.ref rk, .ref nt, .ref tp, .int (nI (l + 3)), .ref nm, .ref nl, .ref ak, .ref aw, .int bg, .int he, .int se, .int si, .int ef, .int ep, .int sm, .int mh]))) [(as, .inr (4, [.ref rk, .ref nt, .ref tp, .int (nI (l + 3)), .ref nm, .ref nl, .ref ak, .ref aw, .int bg, .int he, .int se, .int si, .int ef, .int ep, .int sm, .int mh])), (tp, .inl (0, 512, .inl (setB (setB (setB tf (l) ((wd.toUInt32 >>> ((24 : Int32).toUInt32 &&& Int32.toUInt32 31)).toInt32)) (l + 1) ((wd.toUInt32 >>> ((16 : Int32).toUInt32 &&& Int32.toUInt32 31)).toInt32)) (l + 2) ((wd.toUInt32 >>> ((8 : Int32).toUInt32 &&& Int32.toUInt32 31)).toInt32))))] := hF.put 0 _ rfl rfl
  replace hf := hf.put (a := as) (c := .inr (4, [.ref rk, .ref nt, .ref tp, .int (nI (l + 3)), .ref nm, .ref nl, .ref ak, .ref aw, .int bg, .int he, .int se, .int si, .int ef, .int ep, .int sm, .int mh])) (by simp)
  replace hn : (ax_put h5 as (.inr (4, [.ref rk, .ref nt, .ref tp, .int (nI (l + 3)), .ref nm, .ref nl, .ref ak, .ref aw, .int bg, .int he, .int se, .int si, .int ef, .int ep, .int sm, .int mh]))).1 = n := hn
  replace hs : (ax_put h5 as (.inr (4, [.ref rk, .ref nt, .ref tp, .int (nI (l + 3)), .ref nm, .ref nl, .ref ak, .ref aw, .int bg, .int he, .int se, .int si, .int ef, .int ep, .int sm, .int mh]))).2.1 = sl := hs
  generalize ax_put h5 as (.inr (4, [.ref rk, .ref nt, .ref tp, .int (nI (l + 3)), .ref nm, .ref nl, .ref ak, .ref aw, .int bg, .int he, .int se, .int si, .int ef, .int ep, .int sm, .int mh])) = h6 at hF hf hn hs ⊢
  refine ar_iinc 34 [(0, .ref as), (1, .int wd), (2, .int 0)] d_38_31 rfl rfl (by decide) (by decide) rfl ?_
  refine ar_goto 3 d_38_34 (by decide) ?_
  refine ar_iload_n 4 d_38_3 rfl rfl ?_
  refine ar_if_lt 37 7 d_38_4 (by decide) rfl (fun c => absurd c (by decide)) (fun _ => ?_)
  refine ar_aload_n 8 d_38_7 rfl rfl ?_
  refine ar_getf 11 d_38_8 rfl (ci := 4) (k := 2) rfl (hF.at 0 rfl) rfl ?_
  refine ar_aload_n 12 d_38_11 rfl rfl ?_
  refine ar_getf 15 d_38_12 rfl (ci := 4) (k := 3) rfl (hF.at 0 rfl) rfl ?_
  refine ar_iload_n 16 d_38_15 rfl rfl ?_
  refine ar_iload_n 17 d_38_16 rfl rfl ?_
  refine ar_iushr 18 d_38_17 rfl ?_
  refine ar_call (r := []) (na := 0) (kd := 0) (cm := 39) (fr2 := fr - 1) (lo2 := lo - 23) 21 d_38_18 (ar_hoS (as := [.ref tp, .int (nI (l + 3)), .int ((wd.toUInt32 >>> ((0 : Int32).toUInt32 &&& Int32.toUInt32 31)).toInt32)]) rfl rfl rfl) rfl (by omega) (show lo - 23 + (19 + 4) = lo by omega) (Nat.le_of_ble_eq_true rfl) (Nat.le_of_ble_eq_true rfl) (c_39 (l := l + 3) (by decide) (by omega) (hF.sub (F' := [(tp, .inl (0, 512, .inl (setB (setB (setB tf (l) ((wd.toUInt32 >>> ((24 : Int32).toUInt32 &&& Int32.toUInt32 31)).toInt32)) (l + 1) ((wd.toUInt32 >>> ((16 : Int32).toUInt32 &&& Int32.toUInt32 31)).toInt32)) (l + 2) ((wd.toUInt32 >>> ((8 : Int32).toUInt32 &&& Int32.toUInt32 31)).toInt32))))]) [1] rfl rfl)) ?_
  intro v hh hq
  obtain ⟨rfl, rfl⟩ := hq
  replace hF : ax_hs (ax_put h6 tp (.inl (0, 512, .inl (setB (setB (setB (setB tf (l) ((wd.toUInt32 >>> ((24 : Int32).toUInt32 &&& Int32.toUInt32 31)).toInt32)) (l + 1) ((wd.toUInt32 >>> ((16 : Int32).toUInt32 &&& Int32.toUInt32 31)).toInt32)) (l + 2) ((wd.toUInt32 >>> ((8 : Int32).toUInt32 &&& Int32.toUInt32 31)).toInt32)) (l + 3) ((wd.toUInt32 >>> ((0 : Int32).toUInt32 &&& Int32.toUInt32 31)).toInt32))))) [(as, .inr (4, [.ref rk, .ref nt, .ref tp, .int (nI (l + 3)), .ref nm, .ref nl, .ref ak, .ref aw, .int bg, .int he, .int se, .int si, .int ef, .int ep, .int sm, .int mh])), (tp, .inl (0, 512, .inl (setB (setB (setB (setB tf (l) ((wd.toUInt32 >>> ((24 : Int32).toUInt32 &&& Int32.toUInt32 31)).toInt32)) (l + 1) ((wd.toUInt32 >>> ((16 : Int32).toUInt32 &&& Int32.toUInt32 31)).toInt32)) (l + 2) ((wd.toUInt32 >>> ((8 : Int32).toUInt32 &&& Int32.toUInt32 31)).toInt32)) (l + 3) ((wd.toUInt32 >>> ((0 : Int32).toUInt32 &&& Int32.toUInt32 31)).toInt32))))] := hF.put 1 _ rfl rfl
  replace hf := hf.put (a := tp) (c := .inl (0, 512, .inl (setB (setB (setB (setB tf (l) ((wd.toUInt32 >>> ((24 : Int32).toUInt32 &&& Int32.toUInt32 31)).toInt32)) (l + 1) ((wd.toUInt32 >>> ((16 : Int32).toUInt32 &&& Int32.toUInt32 31)).toInt32)) (l + 2) ((wd.toUInt32 >>> ((8 : Int32).toUInt32 &&& Int32.toUInt32 31)).toInt32)) (l + 3) ((wd.toUInt32 >>> ((0 : Int32).toUInt32 &&& Int32.toUInt32 31)).toInt32)))) (by simp)
  replace hn : (ax_put h6 tp (.inl (0, 512, .inl (setB (setB (setB (setB tf (l) ((wd.toUInt32 >>> ((24 : Int32).toUInt32 &&& Int32.toUInt32 31)).toInt32)) (l + 1) ((wd.toUInt32 >>> ((16 : Int32).toUInt32 &&& Int32.toUInt32 31)).toInt32)) (l + 2) ((wd.toUInt32 >>> ((8 : Int32).toUInt32 &&& Int32.toUInt32 31)).toInt32)) (l + 3) ((wd.toUInt32 >>> ((0 : Int32).toUInt32 &&& Int32.toUInt32 31)).toInt32))))).1 = n := hn
  replace hs : (ax_put h6 tp (.inl (0, 512, .inl (setB (setB (setB (setB tf (l) ((wd.toUInt32 >>> ((24 : Int32).toUInt32 &&& Int32.toUInt32 31)).toInt32)) (l + 1) ((wd.toUInt32 >>> ((16 : Int32).toUInt32 &&& Int32.toUInt32 31)).toInt32)) (l + 2) ((wd.toUInt32 >>> ((8 : Int32).toUInt32 &&& Int32.toUInt32 31)).toInt32)) (l + 3) ((wd.toUInt32 >>> ((0 : Int32).toUInt32 &&& Int32.toUInt32 31)).toInt32))))).2.1 = sl := hs
  generalize ax_put h6 tp (.inl (0, 512, .inl (setB (setB (setB (setB tf (l) ((wd.toUInt32 >>> ((24 : Int32).toUInt32 &&& Int32.toUInt32 31)).toInt32)) (l + 1) ((wd.toUInt32 >>> ((16 : Int32).toUInt32 &&& Int32.toUInt32 31)).toInt32)) (l + 2) ((wd.toUInt32 >>> ((8 : Int32).toUInt32 &&& Int32.toUInt32 31)).toInt32)) (l + 3) ((wd.toUInt32 >>> ((0 : Int32).toUInt32 &&& Int32.toUInt32 31)).toInt32)))) = h7 at hF hf hn hs ⊢
  refine ar_aload_n 22 d_38_21 rfl rfl ?_
  refine ar_dup 23 d_38_22 rfl rfl ?_
  refine ar_getf 26 d_38_23 rfl (ci := 4) (k := 3) rfl (hF.at 0 rfl) rfl ?_
  refine ar_iconst 27 (v := 1) d_38_26 rfl (by decide) ?_
  refine ar_iadd 28 d_38_27 rfl ?_
  refine ar_top (x' := nI (l + 4)) ((nI_succ (l + 3)).symm) ?_
  refine ar_putf 31 [.ref rk, .ref nt, .ref tp, .int (nI (l + 4)), .ref nm, .ref nl, .ref ak, .ref aw, .int bg, .int he, .int se, .int si, .int ef, .int ep, .int sm, .int mh] d_38_28 rfl (ci := 4) (k := 3) rfl rfl (hF.at 0 rfl) (Nat.le_of_ble_eq_true rfl) rfl rfl rfl ?_
  replace hF : ax_hs (ax_put h7 as (.inr (4, [.ref rk, .ref nt, .ref tp, .int (nI (l + 4)), .ref nm, .ref nl, .ref ak, .ref aw, .int bg, .int he, .int se, .int si, .int ef, .int ep, .int sm, .int mh]))) [(as, .inr (4, [.ref rk, .ref nt, .ref tp, .int (nI (l + 4)), .ref nm, .ref nl, .ref ak, .ref aw, .int bg, .int he, .int se, .int si, .int ef, .int ep, .int sm, .int mh])), (tp, .inl (0, 512, .inl (setB (setB (setB (setB tf (l) ((wd.toUInt32 >>> ((24 : Int32).toUInt32 &&& Int32.toUInt32 31)).toInt32)) (l + 1) ((wd.toUInt32 >>> ((16 : Int32).toUInt32 &&& Int32.toUInt32 31)).toInt32)) (l + 2) ((wd.toUInt32 >>> ((8 : Int32).toUInt32 &&& Int32.toUInt32 31)).toInt32)) (l + 3) ((wd.toUInt32 >>> ((0 : Int32).toUInt32 &&& Int32.toUInt32 31)).toInt32))))] := hF.put 0 _ rfl rfl
  replace hf := hf.put (a := as) (c := .inr (4, [.ref rk, .ref nt, .ref tp, .int (nI (l + 4)), .ref nm, .ref nl, .ref ak, .ref aw, .int bg, .int he, .int se, .int si, .int ef, .int ep, .int sm, .int mh])) (by simp)
  replace hn : (ax_put h7 as (.inr (4, [.ref rk, .ref nt, .ref tp, .int (nI (l + 4)), .ref nm, .ref nl, .ref ak, .ref aw, .int bg, .int he, .int se, .int si, .int ef, .int ep, .int sm, .int mh]))).1 = n := hn
  replace hs : (ax_put h7 as (.inr (4, [.ref rk, .ref nt, .ref tp, .int (nI (l + 4)), .ref nm, .ref nl, .ref ak, .ref aw, .int bg, .int he, .int se, .int si, .int ef, .int ep, .int sm, .int mh]))).2.1 = sl := hs
  generalize ax_put h7 as (.inr (4, [.ref rk, .ref nt, .ref tp, .int (nI (l + 4)), .ref nm, .ref nl, .ref ak, .ref aw, .int bg, .int he, .int se, .int si, .int ef, .int ep, .int sm, .int mh])) = h8 at hF hf hn hs ⊢
  refine ar_iinc 34 [(0, .ref as), (1, .int wd), (2, .int (-8))] d_38_31 rfl rfl (by decide) (by decide) rfl ?_
  refine ar_goto 3 d_38_34 (by decide) ?_
  refine ar_iload_n 4 d_38_3 rfl rfl ?_
  refine ar_if_lt 37 7 d_38_4 (by decide) rfl (fun _ => ?_) (fun c => absurd (by decide) c)
  exact ar_ret d_38_37 rfl (⟨rfl, hF, hn, hs, hf⟩)
theorem f_37 {L : Nat} {xs : Nat → Int32} {fr lo : Nat} {h : ax_H} {n sl : Nat} {s0 na tb od sn : Nat} {c0 c1 c2 c3 : Int32} {as rk nt tp nm nl ak aw : Nat} {bg he se si ef ep sm mh : Int32} {tf : Nat → Int32} {l : Nat} {xa xb xc xd xe : Int32} (hfr : 2 ≤ fr) (hlo : 60 ≤ lo) (hl : l + 20 ≤ 2048) (hF : ax_hs h [(s0, .inr (0, [.ref rk, .ref nt, .ref as, .ref na, .ref tb, .ref od, .ref sn, .int c0, .int c1, .int c2, .int c3])), (as, .inr (4, [.ref rk, .ref nt, .ref tp, .int (nI l), .ref nm, .ref nl, .ref ak, .ref aw, .int bg, .int he, .int se, .int si, .int ef, .int ep, .int sm, .int mh])), (tp, .inl (0, 512, .inl tf))]) (hn : h.1 = n) (hs : h.2.1 = sl) (hn0 : 0 < n) : ax_M L xs 37 fr lo [.ref s0, .int xa, .int xb, .int xc, .int xd, .int xe] h (fun r h' => r = some (.int (nI (l + 20))) ∧ ax_hs h' [(s0, .inr (0, [.ref rk, .ref nt, .ref as, .ref na, .ref tb, .ref od, .ref sn, .int c0, .int c1, .int c2, .int c3])), (as, .inr (4, [.ref rk, .ref nt, .ref tp, .int (nI (l + 20)), .ref nm, .ref nl, .ref ak, .ref aw, .int bg, .int he, .int se, .int si, .int ef, .int ep, .int sm, .int mh])), (tp, .inl (0, 512, .inl (setW (setW (setW (setW (setW tf l xa) (l + 4) xb) (l + 8) xc) (l + 12) xd) (l + 16) xe)))] ∧ h'.1 = n ∧ h'.2.1 = sl ∧ ax_fr (fun x => x ∈ [as, tp]) h h') := by
  show ax_A (ax_step L xs) ((37, 0, fr, lo), [(0, .ref s0), (1, .int xa), (2, .int xb), (3, .int xc), (4, .int xd), (5, .int xe)], [], h) _
  have hbase : h.1 = n := hn
  have hbasl : h.2.1 = sl := hs
  have hf : ax_fr (fun x => x ∈ [as, tp]) h h := ax_fr.rf
  refine ar_aload_n 1 d_37_0 rfl rfl ?_
  refine ar_getf 4 d_37_1 rfl (ci := 0) (k := 2) rfl (hF.at 0 rfl) rfl ?_
  refine ar_getf 7 d_37_4 rfl (ci := 4) (k := 3) rfl (hF.at 1 rfl) rfl ?_
  refine ar_bipush 9 (v := 20) d_37_7 rfl (by decide) ?_
  refine ar_iadd 10 d_37_9 rfl ?_
  refine ar_top (x' := nI (l + 20)) (nI_add l 20) ?_
  refine ar_sipush 13 (v := 2048) d_37_10 rfl (by decide) ?_
  refine ar_icmp_le 19 16 d_37_13 (by decide) rfl (fun _ => ?_) (fun c => absurd (nI_le hl (by omega)) c)
  refine ar_aload_n 20 d_37_19 rfl rfl ?_
  refine ar_getf 23 d_37_20 rfl (ci := 0) (k := 2) rfl (hF.at 0 rfl) rfl ?_
  refine ar_iload_n 24 d_37_23 rfl rfl ?_
  refine ar_call (r := []) (na := 0) (kd := 0) (cm := 38) (fr2 := fr - 1) (lo2 := lo - 22) 27 d_37_24 (ar_hoV (as := [.int xa]) rfl rfl rfl (hF.at 1 rfl)) rfl (by omega) (show lo - 22 + (19 + 3) = lo by omega) (Nat.le_of_ble_eq_true rfl) (Nat.le_of_ble_eq_true rfl) (c_38 (l := l) (by omega) (by omega) (by omega) (hF.sub (F' := [(as, .inr (4, [.ref rk, .ref nt, .ref tp, .int (nI l), .ref nm, .ref nl, .ref ak, .ref aw, .int bg, .int he, .int se, .int si, .int ef, .int ep, .int sm, .int mh])), (tp, .inl (0, 512, .inl tf))]) [1, 2] rfl rfl) hn hs (by omega)) ?_
  intro v h1 hq
  obtain ⟨rfl, qF, qn, qs, qf⟩ := hq
  have qF : ax_hs h1 [(as, .inr (4, [.ref rk, .ref nt, .ref tp, .int (nI (l + 4)), .ref nm, .ref nl, .ref ak, .ref aw, .int bg, .int he, .int se, .int si, .int ef, .int ep, .int sm, .int mh])), (tp, .inl (0, 512, .inl (setW tf (l) xa)))] := qF
  replace hF : ax_hs h1 [(s0, .inr (0, [.ref rk, .ref nt, .ref as, .ref na, .ref tb, .ref od, .ref sn, .int c0, .int c1, .int c2, .int c3])), (as, .inr (4, [.ref rk, .ref nt, .ref tp, .int (nI (l + 4)), .ref nm, .ref nl, .ref ak, .ref aw, .int bg, .int he, .int se, .int si, .int ef, .int ep, .int sm, .int mh])), (tp, .inl (0, 512, .inl (setW tf (l) xa)))] := ax_hs.call (rest := [(s0, .inr (0, [.ref rk, .ref nt, .ref as, .ref na, .ref tb, .ref od, .ref sn, .int c0, .int c1, .int c2, .int c3]))]) [1, 2] [0] hF qf qF rfl rfl rfl [1, 2] rfl rfl [1, 2] (news := []) rfl rfl (fun _ z => absurd z List.not_mem_nil) rfl
  replace hf := hf.trC qf (by intro x hx hB; simp at hB; first | (rcases hB with rfl | rfl <;> first | omega | simp) | omega | simp [hB])
  replace hn : h1.1 = n := by omega
  replace hs : h1.2.1 = sl := by omega
  have qf0 := qf
  clear qF qn qs qf
  refine ar_aload_n 28 d_37_27 rfl rfl ?_
  refine ar_getf 31 d_37_28 rfl (ci := 0) (k := 2) rfl (hF.at 0 rfl) rfl ?_
  refine ar_iload_n 32 d_37_31 rfl rfl ?_
  refine ar_call (r := []) (na := 0) (kd := 0) (cm := 38) (fr2 := fr - 1) (lo2 := lo - 22) 35 d_37_32 (ar_hoV (as := [.int xb]) rfl rfl rfl (hF.at 1 rfl)) rfl (by omega) (show lo - 22 + (19 + 3) = lo by omega) (Nat.le_of_ble_eq_true rfl) (Nat.le_of_ble_eq_true rfl) (c_38 (l := l + 4) (by omega) (by omega) (by omega) (hF.sub (F' := [(as, .inr (4, [.ref rk, .ref nt, .ref tp, .int (nI (l + 4)), .ref nm, .ref nl, .ref ak, .ref aw, .int bg, .int he, .int se, .int si, .int ef, .int ep, .int sm, .int mh])), (tp, .inl (0, 512, .inl (setW tf (l) xa)))]) [1, 2] rfl rfl) hn hs (by omega)) ?_
  intro v h2 hq
  obtain ⟨rfl, qF, qn, qs, qf⟩ := hq
  have qF : ax_hs h2 [(as, .inr (4, [.ref rk, .ref nt, .ref tp, .int (nI (l + 8)), .ref nm, .ref nl, .ref ak, .ref aw, .int bg, .int he, .int se, .int si, .int ef, .int ep, .int sm, .int mh])), (tp, .inl (0, 512, .inl (setW (setW tf (l) xa) (l + 4) xb)))] := qF
  replace hF : ax_hs h2 [(s0, .inr (0, [.ref rk, .ref nt, .ref as, .ref na, .ref tb, .ref od, .ref sn, .int c0, .int c1, .int c2, .int c3])), (as, .inr (4, [.ref rk, .ref nt, .ref tp, .int (nI (l + 8)), .ref nm, .ref nl, .ref ak, .ref aw, .int bg, .int he, .int se, .int si, .int ef, .int ep, .int sm, .int mh])), (tp, .inl (0, 512, .inl (setW (setW tf (l) xa) (l + 4) xb)))] := ax_hs.call (rest := [(s0, .inr (0, [.ref rk, .ref nt, .ref as, .ref na, .ref tb, .ref od, .ref sn, .int c0, .int c1, .int c2, .int c3]))]) [1, 2] [0] hF qf qF rfl rfl rfl [1, 2] rfl rfl [1, 2] (news := []) rfl rfl (fun _ z => absurd z List.not_mem_nil) rfl
  replace hf := hf.trC qf (by intro x hx hB; simp at hB; first | (rcases hB with rfl | rfl <;> first | omega | simp) | omega | simp [hB])
  replace hn : h2.1 = n := by omega
  replace hs : h2.2.1 = sl := by omega
  have qf0 := qf
  clear qF qn qs qf
  refine ar_aload_n 36 d_37_35 rfl rfl ?_
  refine ar_getf 39 d_37_36 rfl (ci := 0) (k := 2) rfl (hF.at 0 rfl) rfl ?_
  refine ar_iload_n 40 d_37_39 rfl rfl ?_
  refine ar_call (r := []) (na := 0) (kd := 0) (cm := 38) (fr2 := fr - 1) (lo2 := lo - 22) 43 d_37_40 (ar_hoV (as := [.int xc]) rfl rfl rfl (hF.at 1 rfl)) rfl (by omega) (show lo - 22 + (19 + 3) = lo by omega) (Nat.le_of_ble_eq_true rfl) (Nat.le_of_ble_eq_true rfl) (c_38 (l := l + 8) (by omega) (by omega) (by omega) (hF.sub (F' := [(as, .inr (4, [.ref rk, .ref nt, .ref tp, .int (nI (l + 8)), .ref nm, .ref nl, .ref ak, .ref aw, .int bg, .int he, .int se, .int si, .int ef, .int ep, .int sm, .int mh])), (tp, .inl (0, 512, .inl (setW (setW tf (l) xa) (l + 4) xb)))]) [1, 2] rfl rfl) hn hs (by omega)) ?_
  intro v h3 hq
  obtain ⟨rfl, qF, qn, qs, qf⟩ := hq
  have qF : ax_hs h3 [(as, .inr (4, [.ref rk, .ref nt, .ref tp, .int (nI (l + 12)), .ref nm, .ref nl, .ref ak, .ref aw, .int bg, .int he, .int se, .int si, .int ef, .int ep, .int sm, .int mh])), (tp, .inl (0, 512, .inl (setW (setW (setW tf (l) xa) (l + 4) xb) (l + 8) xc)))] := qF
  replace hF : ax_hs h3 [(s0, .inr (0, [.ref rk, .ref nt, .ref as, .ref na, .ref tb, .ref od, .ref sn, .int c0, .int c1, .int c2, .int c3])), (as, .inr (4, [.ref rk, .ref nt, .ref tp, .int (nI (l + 12)), .ref nm, .ref nl, .ref ak, .ref aw, .int bg, .int he, .int se, .int si, .int ef, .int ep, .int sm, .int mh])), (tp, .inl (0, 512, .inl (setW (setW (setW tf (l) xa) (l + 4) xb) (l + 8) xc)))] := ax_hs.call (rest := [(s0, .inr (0, [.ref rk, .ref nt, .ref as, .ref na, .ref tb, .ref od, .ref sn, .int c0, .int c1, .int c2, .int c3]))]) [1, 2] [0] hF qf qF rfl rfl rfl [1, 2] rfl rfl [1, 2] (news := []) rfl rfl (fun _ z => absurd z List.not_mem_nil) rfl
  replace hf := hf.trC qf (by intro x hx hB; simp at hB; first | (rcases hB with rfl | rfl <;> first | omega | simp) | omega | simp [hB])
  replace hn : h3.1 = n := by omega
  replace hs : h3.2.1 = sl := by omega
  have qf0 := qf
  clear qF qn qs qf
  refine ar_aload_n 44 d_37_43 rfl rfl ?_
  refine ar_getf 47 d_37_44 rfl (ci := 0) (k := 2) rfl (hF.at 0 rfl) rfl ?_
  refine ar_iload 49 d_37_47 rfl rfl ?_
  refine ar_call (r := []) (na := 0) (kd := 0) (cm := 38) (fr2 := fr - 1) (lo2 := lo - 22) 52 d_37_49 (ar_hoV (as := [.int xd]) rfl rfl rfl (hF.at 1 rfl)) rfl (by omega) (show lo - 22 + (19 + 3) = lo by omega) (Nat.le_of_ble_eq_true rfl) (Nat.le_of_ble_eq_true rfl) (c_38 (l := l + 12) (by omega) (by omega) (by omega) (hF.sub (F' := [(as, .inr (4, [.ref rk, .ref nt, .ref tp, .int (nI (l + 12)), .ref nm, .ref nl, .ref ak, .ref aw, .int bg, .int he, .int se, .int si, .int ef, .int ep, .int sm, .int mh])), (tp, .inl (0, 512, .inl (setW (setW (setW tf (l) xa) (l + 4) xb) (l + 8) xc)))]) [1, 2] rfl rfl) hn hs (by omega)) ?_
  intro v h4 hq
  obtain ⟨rfl, qF, qn, qs, qf⟩ := hq
  have qF : ax_hs h4 [(as, .inr (4, [.ref rk, .ref nt, .ref tp, .int (nI (l + 16)), .ref nm, .ref nl, .ref ak, .ref aw, .int bg, .int he, .int se, .int si, .int ef, .int ep, .int sm, .int mh])), (tp, .inl (0, 512, .inl (setW (setW (setW (setW tf (l) xa) (l + 4) xb) (l + 8) xc) (l + 12) xd)))] := qF
  replace hF : ax_hs h4 [(s0, .inr (0, [.ref rk, .ref nt, .ref as, .ref na, .ref tb, .ref od, .ref sn, .int c0, .int c1, .int c2, .int c3])), (as, .inr (4, [.ref rk, .ref nt, .ref tp, .int (nI (l + 16)), .ref nm, .ref nl, .ref ak, .ref aw, .int bg, .int he, .int se, .int si, .int ef, .int ep, .int sm, .int mh])), (tp, .inl (0, 512, .inl (setW (setW (setW (setW tf (l) xa) (l + 4) xb) (l + 8) xc) (l + 12) xd)))] := ax_hs.call (rest := [(s0, .inr (0, [.ref rk, .ref nt, .ref as, .ref na, .ref tb, .ref od, .ref sn, .int c0, .int c1, .int c2, .int c3]))]) [1, 2] [0] hF qf qF rfl rfl rfl [1, 2] rfl rfl [1, 2] (news := []) rfl rfl (fun _ z => absurd z List.not_mem_nil) rfl
  replace hf := hf.trC qf (by intro x hx hB; simp at hB; first | (rcases hB with rfl | rfl <;> first | omega | simp) | omega | simp [hB])
  replace hn : h4.1 = n := by omega
  replace hs : h4.2.1 = sl := by omega
  have qf0 := qf
  clear qF qn qs qf
  refine ar_aload_n 53 d_37_52 rfl rfl ?_
  refine ar_getf 56 d_37_53 rfl (ci := 0) (k := 2) rfl (hF.at 0 rfl) rfl ?_
  refine ar_iload 58 d_37_56 rfl rfl ?_
  refine ar_call (r := []) (na := 0) (kd := 0) (cm := 38) (fr2 := fr - 1) (lo2 := lo - 22) 61 d_37_58 (ar_hoV (as := [.int xe]) rfl rfl rfl (hF.at 1 rfl)) rfl (by omega) (show lo - 22 + (19 + 3) = lo by omega) (Nat.le_of_ble_eq_true rfl) (Nat.le_of_ble_eq_true rfl) (c_38 (l := l + 16) (by omega) (by omega) (by omega) (hF.sub (F' := [(as, .inr (4, [.ref rk, .ref nt, .ref tp, .int (nI (l + 16)), .ref nm, .ref nl, .ref ak, .ref aw, .int bg, .int he, .int se, .int si, .int ef, .int ep, .int sm, .int mh])), (tp, .inl (0, 512, .inl (setW (setW (setW (setW tf (l) xa) (l + 4) xb) (l + 8) xc) (l + 12) xd)))]) [1, 2] rfl rfl) hn hs (by omega)) ?_
  intro v h5 hq
  obtain ⟨rfl, qF, qn, qs, qf⟩ := hq
  have qF : ax_hs h5 [(as, .inr (4, [.ref rk, .ref nt, .ref tp, .int (nI (l + 20)), .ref nm, .ref nl, .ref ak, .ref aw, .int bg, .int he, .int se, .int si, .int ef, .int ep, .int sm, .int mh])), (tp, .inl (0, 512, .inl (setW (setW (setW (setW (setW tf (l) xa) (l + 4) xb) (l + 8) xc) (l + 12) xd) (l + 16) xe)))] := qF
  replace hF : ax_hs h5 [(s0, .inr (0, [.ref rk, .ref nt, .ref as, .ref na, .ref tb, .ref od, .ref sn, .int c0, .int c1, .int c2, .int c3])), (as, .inr (4, [.ref rk, .ref nt, .ref tp, .int (nI (l + 20)), .ref nm, .ref nl, .ref ak, .ref aw, .int bg, .int he, .int se, .int si, .int ef, .int ep, .int sm, .int mh])), (tp, .inl (0, 512, .inl (setW (setW (setW (setW (setW tf (l) xa) (l + 4) xb) (l + 8) xc) (l + 12) xd) (l + 16) xe)))] := ax_hs.call (rest := [(s0, .inr (0, [.ref rk, .ref nt, .ref as, .ref na, .ref tb, .ref od, .ref sn, .int c0, .int c1, .int c2, .int c3]))]) [1, 2] [0] hF qf qF rfl rfl rfl [1, 2] rfl rfl [1, 2] (news := []) rfl rfl (fun _ z => absurd z List.not_mem_nil) rfl
  replace hf := hf.trC qf (by intro x hx hB; simp at hB; first | (rcases hB with rfl | rfl <;> first | omega | simp) | omega | simp [hB])
  replace hn : h5.1 = n := by omega
  replace hs : h5.2.1 = sl := by omega
  have qf0 := qf
  clear qF qn qs qf
  refine ar_aload_n 62 d_37_61 rfl rfl ?_
  refine ar_getf 65 d_37_62 rfl (ci := 0) (k := 2) rfl (hF.at 0 rfl) rfl ?_
  refine ar_getf 68 d_37_65 rfl (ci := 4) (k := 3) rfl (hF.at 1 rfl) rfl ?_
  have hF := hF.sub (F' := [(s0, .inr (0, [.ref rk, .ref nt, .ref as, .ref na, .ref tb, .ref od, .ref sn, .int c0, .int c1, .int c2, .int c3])), (as, .inr (4, [.ref rk, .ref nt, .ref tp, .int (nI (l + 20)), .ref nm, .ref nl, .ref ak, .ref aw, .int bg, .int he, .int se, .int si, .int ef, .int ep, .int sm, .int mh])), (tp, .inl (0, 512, .inl (setW (setW (setW (setW (setW tf l xa) (l + 4) xb) (l + 8) xc) (l + 12) xd) (l + 16) xe)))]) [0, 1, 2] rfl rfl
  exact ar_iret d_37_68 rfl rfl (⟨rfl, hF, hn, hs, hf⟩)
theorem f_37F {L : Nat} {xs : Nat → Int32} {fr lo : Nat} {h : ax_H} {s0 na tb od sn : Nat} {c0 c1 c2 c3 : Int32} {as rk nt tp nm nl ak aw : Nat} {bg he se si ef ep sm mh : Int32} {tf : Nat → Int32} {l : Nat} {xa xb xc xd xe : Int32} (hl : 2048 < l + 20) (hl2 : l ≤ 2048) (hF : ax_hs h [(s0, .inr (0, [.ref rk, .ref nt, .ref as, .ref na, .ref tb, .ref od, .ref sn, .int c0, .int c1, .int c2, .int c3])), (as, .inr (4, [.ref rk, .ref nt, .ref tp, .int (nI l), .ref nm, .ref nl, .ref ak, .ref aw, .int bg, .int he, .int se, .int si, .int ef, .int ep, .int sm, .int mh])), (tp, .inl (0, 512, .inl tf))]) : ax_M L xs 37 fr lo [.ref s0, .int xa, .int xb, .int xc, .int xd, .int xe] h (fun r h' => r = some (.int (-4)) ∧ h' = h) := by
  show ax_A (ax_step L xs) ((37, 0, fr, lo), [(0, .ref s0), (1, .int xa), (2, .int xb), (3, .int xc), (4, .int xd), (5, .int xe)], [], h) _
  refine ar_aload_n 1 d_37_0 rfl rfl ?_
  refine ar_getf 4 d_37_1 rfl (ci := 0) (k := 2) rfl (hF.at 0 rfl) rfl ?_
  refine ar_getf 7 d_37_4 rfl (ci := 4) (k := 3) rfl (hF.at 1 rfl) rfl ?_
  refine ar_bipush 9 (v := 20) d_37_7 rfl (by decide) ?_
  refine ar_iadd 10 d_37_9 rfl ?_
  refine ar_top (x' := nI (l + 20)) (nI_add l 20) ?_
  refine ar_sipush 13 (v := 2048) d_37_10 rfl (by decide) ?_
  refine ar_icmp_le 19 16 d_37_13 (by decide) rfl (fun c => absurd c (nI_ge (by omega) (by omega))) (fun _ => ?_)
  refine ar_bipush 18 (v := -4) d_37_16 rfl (by decide) ?_
  exact ar_iret d_37_18 rfl rfl (⟨rfl, rfl⟩)


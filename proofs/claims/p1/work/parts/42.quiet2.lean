/-! quiet NODES: listed, hear of a LISTED, goOn with no work -/
theorem c_700 {L : Nat} {xs : Nat → Int32} {fr lo : Nat} {h : ax_H} {ld rk nt tb wk ma sp wa wb a1 a2 a3 a4 a5 a6 a7 : Nat} {me ep st hd cl ni tu md g an ws wo w5 w6 w7 w8 w9 w10 w11 w12 w13 w14 : Int32} {ak : Int64} {f6 fm : Nat → Int32} {mm : Nat} {u : Nat → Int32} (hfr : 3 ≤ fr) (hlo : 120 ≤ lo) (hw : ws ≤ 1) (hv : f6 960 < 0) (h6 : u 6 = 0) (h7 : u 7 = 0) (hF : ax_hs h [(ld, .inr (9, [.int me, .ref rk, .ref nt, .ref tb, .ref wk, .ref ma, .ref sp, .int ep, .int st, .int hd, .int cl, .long ak, .int ni, .int tu, .int md])), (tb, .inr (6, [.int g, .ref a1, .ref a2, .ref a3, .ref a4, .ref a5, .ref a6, .ref a7, .long 0, .int 0, .int an])), (wk, .inr (10, [.ref tb, .ref wa, .ref wb, .int ws, .int wo, .int w5, .int w6, .int w7, .int w8, .int w9, .int w10, .int w11, .int w12, .int w13, .int w14])), (ma, .inl (0, 16, .inl fm)), (a6, .inl (0, 961, .inl f6)), (mm, .inr (2, [.int (u 0), .int (u 1), .int (u 2), .int (u 3), .int (u 4), .int (u 5), .int (u 6), .int (u 7), .ref (mm + 1)]))]) : ax_M L xs 70 fr lo [.ref ld, .ref mm] h (fun r h' => r = none ∧ h' = (ax_put h ld (.inr (9, [.int me, .ref rk, .ref nt, .ref tb, .ref wk, .ref ma, .ref sp, .int ep, .int st, .int hd, .int (cl ||| (1 <<< ((u 1) &&& 31))), .long ak, .int ni, .int tu, .int md])))) := by
  show ax_A (ax_step L xs) ((70, 0, fr, lo), [(0, .ref ld), (1, .ref mm)], [], h) _
  refine ar_aload_n 1 d_70_0 rfl rfl ?_
  refine ar_getf 4 d_70_1 rfl (ci := 9) (k := 4) rfl (hF.at 0 rfl) rfl ?_
  refine ar_call (r := []) (na := 0) (kd := 0) (cm := 71) (fr2 := fr - 1) (lo2 := lo - 20) 7 d_70_4 (ar_hoV (as := []) rfl rfl rfl (hF.at 2 rfl)) rfl (by omega) (show lo - 20 + (19 + 1) = lo by omega) (Nat.le_of_ble_eq_true rfl) (Nat.le_of_ble_eq_true rfl) (c_71F hw (hF.sub (F' := [(wk, .inr (10, [.ref tb, .ref wa, .ref wb, .int ws, .int wo, .int w5, .int w6, .int w7, .int w8, .int w9, .int w10, .int w11, .int w12, .int w13, .int w14]))]) [2] rfl rfl)) ?_
  intro v hh hq
  obtain ⟨rfl, ehh⟩ := hq
  rw [ehh]
  clear ehh
  refine ar_if_ne 24 10 d_70_7 (by decide) rfl (fun c => absurd c (by decide)) (fun _ => ?_)
  refine ar_aload_n 11 d_70_10 rfl rfl ?_
  refine ar_getf 14 d_70_11 rfl (ci := 9) (k := 3) rfl (hF.at 0 rfl) rfl ?_
  refine ar_call (r := []) (na := 0) (kd := 0) (cm := 72) (fr2 := fr - 1) (lo2 := lo - 20) 17 d_70_14 (ar_hoV (as := []) rfl rfl rfl (hF.at 1 rfl)) rfl (by omega) (show lo - 20 + (19 + 1) = lo by omega) (Nat.le_of_ble_eq_true rfl) (Nat.le_of_ble_eq_true rfl) (c_72z (by omega) (by omega) (hF.sub (F' := [(tb, .inr (6, [.int g, .ref a1, .ref a2, .ref a3, .ref a4, .ref a5, .ref a6, .ref a7, .long 0, .int 0, .int an]))]) [1] rfl rfl)) ?_
  intro v hh hq
  obtain ⟨rfl, ehh⟩ := hq
  rw [ehh]
  clear ehh
  refine ar_if_eq 24 20 d_70_17 (by decide) rfl (fun c => absurd c (by decide)) (fun _ => ?_)
  refine ar_iconst 21 (v := 1) d_70_20 rfl (by decide) ?_
  refine ar_goto 25 d_70_21 (by decide) ?_
  refine ar_istore_n 26 [(0, .ref ld), (1, .ref mm), (2, .int 1)] d_70_25 rfl (by decide) rfl ?_
  refine ar_iload_n 27 d_70_26 rfl rfl ?_
  refine ar_if_eq 44 30 d_70_27 (by decide) rfl (fun c => absurd c (by decide)) (fun _ => ?_)
  refine ar_aload_n 31 d_70_30 rfl rfl ?_
  refine ar_sipush 34 (v := 960) d_70_31 rfl (by decide) ?_
  refine ar_call (r := []) (na := 0) (kd := 0) (cm := 74) (fr2 := fr - 1) (lo2 := lo - 22) 37 d_70_34 (ar_hoV (as := [.int 960]) rfl rfl rfl (hF.at 0 rfl)) rfl (by omega) (show lo - 22 + (19 + 3) = lo by omega) (Nat.le_of_ble_eq_true rfl) (Nat.le_of_ble_eq_true rfl) (c_74n (by omega) (by omega) hv (hF.sub (F' := [(ld, .inr (9, [.int me, .ref rk, .ref nt, .ref tb, .ref wk, .ref ma, .ref sp, .int ep, .int st, .int hd, .int cl, .long ak, .int ni, .int tu, .int md])), (tb, .inr (6, [.int g, .ref a1, .ref a2, .ref a3, .ref a4, .ref a5, .ref a6, .ref a7, .long 0, .int 0, .int an])), (ma, .inl (0, 16, .inl fm)), (a6, .inl (0, 961, .inl f6))]) [0, 1, 3, 4] rfl rfl)) ?_
  intro v hh hq
  obtain ⟨rfl, ehh⟩ := hq
  rw [ehh]
  clear ehh
  refine ar_if_eq 44 40 d_70_37 (by decide) rfl (fun _ => ?_) (fun c => absurd (rfl) c)
  refine ar_iconst 45 (v := 0) d_70_44 rfl (by decide) ?_
  refine ar_istore_n 46 [(0, .ref ld), (1, .ref mm), (2, .int 1), (3, .int 0)] d_70_45 rfl (by decide) rfl ?_
  refine ar_iconst 47 (v := 0) d_70_46 rfl (by decide) ?_
  refine ar_istore 49 [(0, .ref ld), (1, .ref mm), (2, .int 1), (3, .int 0), (4, .int 0)] d_70_47 rfl (by decide) rfl ?_
  refine ar_iconst 50 (v := 0) d_70_49 rfl (by decide) ?_
  refine ar_istore 52 [(0, .ref ld), (1, .ref mm), (2, .int 1), (3, .int 0), (4, .int 0), (5, .int 0)] d_70_50 rfl (by decide) rfl ?_
  refine ar_iconst 53 (v := 0) d_70_52 rfl (by decide) ?_
  refine ar_istore 55 [(0, .ref ld), (1, .ref mm), (2, .int 1), (3, .int 0), (4, .int 0), (5, .int 0), (6, .int 0)] d_70_53 rfl (by decide) rfl ?_
  refine ar_iload 57 d_70_55 rfl rfl ?_
  refine ar_aload_n 58 d_70_57 rfl rfl ?_
  refine ar_getf 61 d_70_58 rfl (ci := 2) (k := 7) rfl (hF.at 5 rfl) rfl ?_
  refine ar_icmp_ge 150 64 d_70_61 (by decide) rfl (fun _ => ?_) (fun c => absurd (by rw [h7]; exact Int32.le_refl _) c)
  refine ar_iload 152 d_70_150 rfl rfl ?_
  refine ar_if_le 205 155 d_70_152 (by decide) rfl (fun _ => ?_) (fun c => absurd (Int32.le_refl _) c)
  refine ar_aload_n 206 d_70_205 rfl rfl ?_
  refine ar_getf 209 d_70_206 rfl (ci := 2) (k := 6) rfl (hF.at 5 rfl) rfl ?_
  refine ar_if_ne 216 212 d_70_209 (by decide) rfl (fun c => absurd c (fun z => z h6)) (fun _ => ?_)
  refine ar_iconst 213 (v := 1) d_70_212 rfl (by decide) ?_
  refine ar_goto 217 d_70_213 (by decide) ?_
  refine ar_istore 219 [(0, .ref ld), (1, .ref mm), (2, .int 1), (3, .int 0), (4, .int 0), (5, .int 0), (6, .int 1)] d_70_217 rfl (by decide) rfl ?_
  refine ar_aload_n 220 d_70_219 rfl rfl ?_
  refine ar_aload_n 221 d_70_220 rfl rfl ?_
  refine ar_getf 224 d_70_221 rfl (ci := 2) (k := 1) rfl (hF.at 5 rfl) rfl ?_
  refine ar_iload_n 225 d_70_224 rfl rfl ?_
  refine ar_if_eq 246 228 d_70_225 (by decide) rfl (fun c => absurd c (by decide)) (fun _ => ?_)
  refine ar_iload 230 d_70_228 rfl rfl ?_
  refine ar_if_eq 246 233 d_70_230 (by decide) rfl (fun c => absurd c (by decide)) (fun _ => ?_)
  refine ar_iload 235 d_70_233 rfl rfl ?_
  refine ar_aload_n 236 d_70_235 rfl rfl ?_
  refine ar_getf 239 d_70_236 rfl (ci := 2) (k := 7) rfl (hF.at 5 rfl) rfl ?_
  refine ar_icmp_ne 246 242 d_70_239 (by decide) rfl (fun c => absurd c (fun z => z h7.symm)) (fun _ => ?_)
  refine ar_iconst 243 (v := 1) d_70_242 rfl (by decide) ?_
  refine ar_goto 247 d_70_243 (by decide) ?_
  refine ar_call (r := []) (na := 0) (kd := 0) (cm := 82) (fr2 := fr - 1) (lo2 := lo - 22) 250 d_70_247 (ar_hoV (as := [.int (u 1), .int 1]) rfl rfl rfl (hF.at 0 rfl)) rfl (by omega) (show lo - 22 + (19 + 3) = lo by omega) (Nat.le_of_ble_eq_true rfl) (Nat.le_of_ble_eq_true rfl) (c_82T (hF.sub (F' := [(ld, .inr (9, [.int me, .ref rk, .ref nt, .ref tb, .ref wk, .ref ma, .ref sp, .int ep, .int st, .int hd, .int cl, .long ak, .int ni, .int tu, .int md]))]) [0] rfl rfl)) ?_
  intro v hh hq
  obtain ⟨rfl, rfl⟩ := hq
  have hF : ax_hs (ax_put h ld (.inr (9, [.int me, .ref rk, .ref nt, .ref tb, .ref wk, .ref ma, .ref sp, .int ep, .int st, .int hd, .int (cl ||| (1 <<< ((u 1) &&& 31))), .long ak, .int ni, .int tu, .int md]))) [(ld, .inr (9, [.int me, .ref rk, .ref nt, .ref tb, .ref wk, .ref ma, .ref sp, .int ep, .int st, .int hd, .int (cl ||| (1 <<< ((u 1) &&& 31))), .long ak, .int ni, .int tu, .int md])), (tb, .inr (6, [.int g, .ref a1, .ref a2, .ref a3, .ref a4, .ref a5, .ref a6, .ref a7, .long 0, .int 0, .int an])), (wk, .inr (10, [.ref tb, .ref wa, .ref wb, .int ws, .int wo, .int w5, .int w6, .int w7, .int w8, .int w9, .int w10, .int w11, .int w12, .int w13, .int w14])), (ma, .inl (0, 16, .inl fm)), (a6, .inl (0, 961, .inl f6)), (mm, .inr (2, [.int (u 0), .int (u 1), .int (u 2), .int (u 3), .int (u 4), .int (u 5), .int (u 6), .int (u 7), .ref (mm + 1)]))] := hF.put 0 _ rfl rfl
  exact ar_ret d_70_250 rfl (⟨rfl, rfl⟩)
theorem c_670 {L : Nat} {xs : Nat → Int32} {fr lo : Nat} {h : ax_H} {ld rk nt tb wk ma sp wa wb a1 a2 a3 a4 a5 a6 a7 : Nat} {me ep st hd cl ni tu md g an ws wo w5 w6 w7 w8 w9 w10 w11 w12 w13 w14 : Int32} {ak : Int64} {f6 fm : Nat → Int32} {mm : Nat} {u : Nat → Int32} (hfr : 4 ≤ fr) (hlo : 150 ≤ lo) (hw : ws ≤ 1) (hv : f6 960 < 0) (h0 : u 0 = 5) (h6 : u 6 = 0) (h7 : u 7 = 0) (hF : ax_hs h [(ld, .inr (9, [.int me, .ref rk, .ref nt, .ref tb, .ref wk, .ref ma, .ref sp, .int ep, .int st, .int hd, .int cl, .long ak, .int ni, .int tu, .int md])), (tb, .inr (6, [.int g, .ref a1, .ref a2, .ref a3, .ref a4, .ref a5, .ref a6, .ref a7, .long 0, .int 0, .int an])), (wk, .inr (10, [.ref tb, .ref wa, .ref wb, .int ws, .int wo, .int w5, .int w6, .int w7, .int w8, .int w9, .int w10, .int w11, .int w12, .int w13, .int w14])), (ma, .inl (0, 16, .inl fm)), (a6, .inl (0, 961, .inl f6)), (mm, .inr (2, [.int (u 0), .int (u 1), .int (u 2), .int (u 3), .int (u 4), .int (u 5), .int (u 6), .int (u 7), .ref (mm + 1)]))]) : ax_M L xs 67 fr lo [.ref ld, .ref mm] h (fun r h' => r = none ∧ h' = (ax_put h ld (.inr (9, [.int me, .ref rk, .ref nt, .ref tb, .ref wk, .ref ma, .ref sp, .int ep, .int st, .int (hd ||| (1 <<< ((u 1) &&& 31))), .int (cl ||| (1 <<< ((u 1) &&& 31))), .long ak, .int ni, .int tu, .int md])))) := by
  show ax_A (ax_step L xs) ((67, 0, fr, lo), [(0, .ref ld), (1, .ref mm)], [], h) _
  refine ar_aload_n 1 d_67_0 rfl rfl ?_
  refine ar_getf 4 d_67_1 rfl (ci := 2) (k := 0) rfl (hF.at 5 rfl) rfl ?_
  refine ar_iconst 5 (v := 2) d_67_4 rfl (by decide) ?_
  refine ar_icmp_ne 17 8 d_67_5 (by decide) rfl (fun _ => ?_) (fun c => absurd (by rw [h0]; decide) c)
  refine ar_aload_n 18 d_67_17 rfl rfl ?_
  refine ar_dup 19 d_67_18 rfl rfl ?_
  refine ar_getf 22 d_67_19 rfl (ci := 9) (k := 9) rfl (hF.at 0 rfl) rfl ?_
  refine ar_iconst 23 (v := 1) d_67_22 rfl (by decide) ?_
  refine ar_aload_n 24 d_67_23 rfl rfl ?_
  refine ar_getf 27 d_67_24 rfl (ci := 2) (k := 1) rfl (hF.at 5 rfl) rfl ?_
  refine ar_ishl 28 d_67_27 rfl ?_
  refine ar_ior 29 d_67_28 rfl ?_
  refine ar_putf 32 [.int me, .ref rk, .ref nt, .ref tb, .ref wk, .ref ma, .ref sp, .int ep, .int st, .int (hd ||| (1 <<< ((u 1) &&& 31))), .int cl, .long ak, .int ni, .int tu, .int md] d_67_29 rfl (ci := 9) (k := 9) rfl rfl (hF.at 0 rfl) (Nat.le_of_ble_eq_true rfl) rfl rfl rfl ?_
  have hF : ax_hs (ax_put h ld (.inr (9, [.int me, .ref rk, .ref nt, .ref tb, .ref wk, .ref ma, .ref sp, .int ep, .int st, .int (hd ||| (1 <<< ((u 1) &&& 31))), .int cl, .long ak, .int ni, .int tu, .int md]))) [(ld, .inr (9, [.int me, .ref rk, .ref nt, .ref tb, .ref wk, .ref ma, .ref sp, .int ep, .int st, .int (hd ||| (1 <<< ((u 1) &&& 31))), .int cl, .long ak, .int ni, .int tu, .int md])), (tb, .inr (6, [.int g, .ref a1, .ref a2, .ref a3, .ref a4, .ref a5, .ref a6, .ref a7, .long 0, .int 0, .int an])), (wk, .inr (10, [.ref tb, .ref wa, .ref wb, .int ws, .int wo, .int w5, .int w6, .int w7, .int w8, .int w9, .int w10, .int w11, .int w12, .int w13, .int w14])), (ma, .inl (0, 16, .inl fm)), (a6, .inl (0, 961, .inl f6)), (mm, .inr (2, [.int (u 0), .int (u 1), .int (u 2), .int (u 3), .int (u 4), .int (u 5), .int (u 6), .int (u 7), .ref (mm + 1)]))] := hF.put 0 _ rfl rfl
  refine ar_aload_n 33 d_67_32 rfl rfl ?_
  refine ar_getf 36 d_67_33 rfl (ci := 2) (k := 0) rfl (hF.at 5 rfl) rfl ?_
  refine ar_tabIn 80 d_67_36 (by rw [h0]; decide) (off := 44) (by rw [h0]; rfl) (by decide) ?_
  refine ar_aload_n 81 d_67_80 rfl rfl ?_
  refine ar_aload_n 82 d_67_81 rfl rfl ?_
  refine ar_call (r := []) (na := 0) (kd := 0) (cm := 70) (fr2 := fr - 1) (lo2 := lo - 27) 85 d_67_82 (ar_hoV (as := [.ref mm]) rfl rfl rfl (hF.at 0 rfl)) rfl (by omega) (show lo - 27 + (19 + 8) = lo by omega) (Nat.le_of_ble_eq_true rfl) (Nat.le_of_ble_eq_true rfl) (c_700 (by omega) (by omega) hw hv h6 h7 hF) ?_
  intro v hh hq
  obtain ⟨rfl, rfl⟩ := hq
  have hF : ax_hs (ax_put (ax_put h ld (.inr (9, [.int me, .ref rk, .ref nt, .ref tb, .ref wk, .ref ma, .ref sp, .int ep, .int st, .int (hd ||| (1 <<< ((u 1) &&& 31))), .int cl, .long ak, .int ni, .int tu, .int md]))) ld (.inr (9, [.int me, .ref rk, .ref nt, .ref tb, .ref wk, .ref ma, .ref sp, .int ep, .int st, .int (hd ||| (1 <<< ((u 1) &&& 31))), .int (cl ||| (1 <<< ((u 1) &&& 31))), .long ak, .int ni, .int tu, .int md]))) [(ld, .inr (9, [.int me, .ref rk, .ref nt, .ref tb, .ref wk, .ref ma, .ref sp, .int ep, .int st, .int (hd ||| (1 <<< ((u 1) &&& 31))), .int (cl ||| (1 <<< ((u 1) &&& 31))), .long ak, .int ni, .int tu, .int md])), (tb, .inr (6, [.int g, .ref a1, .ref a2, .ref a3, .ref a4, .ref a5, .ref a6, .ref a7, .long 0, .int 0, .int an])), (wk, .inr (10, [.ref tb, .ref wa, .ref wb, .int ws, .int wo, .int w5, .int w6, .int w7, .int w8, .int w9, .int w10, .int w11, .int w12, .int w13, .int w14])), (ma, .inl (0, 16, .inl fm)), (a6, .inl (0, 961, .inl f6)), (mm, .inr (2, [.int (u 0), .int (u 1), .int (u 2), .int (u 3), .int (u 4), .int (u 5), .int (u 6), .int (u 7), .ref (mm + 1)]))] := hF.put 0 _ rfl rfl
  refine ar_goto 112 d_67_85 (by decide) ?_
  rw [ag_put2]
  exact ar_ret d_67_112 rfl (⟨rfl, rfl⟩)
theorem c_910 {L : Nat} {xs : Nat → Int32} {fr lo : Nat} {h : ax_H} {ld rk nt tb wk ma sp wa wb : Nat} {me ep st hd cl ni tu md wo w5 w6 w7 w8 w9 w10 w11 w12 w13 w14 : Int32} {ak : Int64} (hF : ax_hs h [(ld, .inr (9, [.int me, .ref rk, .ref nt, .ref tb, .ref wk, .ref ma, .ref sp, .int ep, .int st, .int hd, .int cl, .long ak, .int ni, .int tu, .int md])), (wk, .inr (10, [.ref tb, .ref wa, .ref wb, .int 0, .int wo, .int w5, .int w6, .int w7, .int w8, .int w9, .int w10, .int w11, .int w12, .int w13, .int w14]))]) : ax_M L xs 91 fr lo [.ref ld] h (fun r h' => r = none ∧ h' = h) := by
  show ax_A (ax_step L xs) ((91, 0, fr, lo), [(0, .ref ld)], [], h) _
  refine ar_aload_n 1 d_91_0 rfl rfl ?_
  refine ar_getf 4 d_91_1 rfl (ci := 9) (k := 4) rfl (hF.at 0 rfl) rfl ?_
  refine ar_getf 7 d_91_4 rfl (ci := 10) (k := 3) rfl (hF.at 1 rfl) rfl ?_
  refine ar_istore_n 8 [(0, .ref ld), (1, .int 0)] d_91_7 rfl (by decide) rfl ?_
  refine ar_aload_n 9 d_91_8 rfl rfl ?_
  refine ar_getf 12 d_91_9 rfl (ci := 9) (k := 4) rfl (hF.at 0 rfl) rfl ?_
  refine ar_getf 15 d_91_12 rfl (ci := 10) (k := 3) rfl (hF.at 1 rfl) rfl ?_
  refine ar_iconst 16 (v := 1) d_91_15 rfl (by decide) ?_
  refine ar_icmp_ne 44 19 d_91_16 (by decide) rfl (fun _ => ?_) (fun c => absurd (by decide) c)
  refine ar_aload_n 45 d_91_44 rfl rfl ?_
  refine ar_getf 48 d_91_45 rfl (ci := 9) (k := 4) rfl (hF.at 0 rfl) rfl ?_
  refine ar_getf 51 d_91_48 rfl (ci := 10) (k := 3) rfl (hF.at 1 rfl) rfl ?_
  refine ar_iconst 52 (v := 2) d_91_51 rfl (by decide) ?_
  refine ar_icmp_ne 79 55 d_91_52 (by decide) rfl (fun _ => ?_) (fun c => absurd (by decide) c)
  refine ar_aload_n 80 d_91_79 rfl rfl ?_
  refine ar_getf 83 d_91_80 rfl (ci := 9) (k := 4) rfl (hF.at 0 rfl) rfl ?_
  refine ar_getf 86 d_91_83 rfl (ci := 10) (k := 3) rfl (hF.at 1 rfl) rfl ?_
  refine ar_iconst 87 (v := 3) d_91_86 rfl (by decide) ?_
  refine ar_icmp_ne 107 90 d_91_87 (by decide) rfl (fun _ => ?_) (fun c => absurd (by decide) c)
  refine ar_aload_n 108 d_91_107 rfl rfl ?_
  refine ar_getf 111 d_91_108 rfl (ci := 9) (k := 4) rfl (hF.at 0 rfl) rfl ?_
  refine ar_getf 114 d_91_111 rfl (ci := 10) (k := 3) rfl (hF.at 1 rfl) rfl ?_
  refine ar_iconst 115 (v := 4) d_91_114 rfl (by decide) ?_
  refine ar_icmp_ne 147 118 d_91_115 (by decide) rfl (fun _ => ?_) (fun c => absurd (by decide) c)
  refine ar_aload_n 148 d_91_147 rfl rfl ?_
  refine ar_getf 151 d_91_148 rfl (ci := 9) (k := 4) rfl (hF.at 0 rfl) rfl ?_
  refine ar_getf 154 d_91_151 rfl (ci := 10) (k := 3) rfl (hF.at 1 rfl) rfl ?_
  refine ar_iconst 155 (v := 5) d_91_154 rfl (by decide) ?_
  refine ar_icmp_ne 162 158 d_91_155 (by decide) rfl (fun _ => ?_) (fun c => absurd (by decide) c)
  refine ar_aload_n 163 d_91_162 rfl rfl ?_
  refine ar_getf 166 d_91_163 rfl (ci := 9) (k := 4) rfl (hF.at 0 rfl) rfl ?_
  refine ar_getf 169 d_91_166 rfl (ci := 10) (k := 3) rfl (hF.at 1 rfl) rfl ?_
  refine ar_iload_n 170 d_91_169 rfl rfl ?_
  refine ar_icmp_eq 177 173 d_91_170 (by decide) rfl (fun _ => ?_) (fun c => absurd (rfl) c)
  exact ar_ret d_91_177 rfl (⟨rfl, rfl⟩)

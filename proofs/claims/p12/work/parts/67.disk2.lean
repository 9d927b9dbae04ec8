/-! DISKS, exactly: write, erase, flush, wipe -/
theorem d_149_0 : decode (axt_b 149) 0 = .ok (.aload_n 0, 1) := by decide +kernel
theorem d_149_1 : decode (axt_b 149) 1 = .ok (.getfield 10, 3) := by decide +kernel
theorem d_149_4 : decode (axt_b 149) 4 = .ok (.iconst 0, 1) := by decide +kernel
theorem d_149_5 : decode (axt_b 149) 5 = .ok (.invokestatic 25, 3) := by decide +kernel
theorem d_149_8 : decode (axt_b 149) 8 = .ok (.return_, 1) := by decide +kernel
def wrF (wf rf : Nat → Int32) (k : Nat) (v : Int32) : Nat → Int32 := stmp (va_cpy wf rf 0 (k * 128) 128) (k * 128) v
def erF (rf : Nat → Int32) (k : Nat) : Nat → Int32 := ax_fill rf (k * 128) ((k + 1) * 128) 0
theorem c_63N {L : Nat} {xs : Nat → Int32} {fr lo : Nat} {h : ax_H} {n sl : Nat} {dk da db dc dd i c a N : Nat} {ff rf sw ow wf : Nat → Int32} (hfr : 2 ≤ fr) (hlo : 60 ≤ lo) (hi : i < 280) (hN : 128 ≤ N) (hN2 : N < 2 ^ 31) (hc : c < 32) (h1 : ow i < 0) (hF : ax_hs h [(dk, .inr (8, [.ref da, .ref db, .ref dc, .ref dd, .int (nI c)])), (da, .inl (0, 35840, .inl ff)), (db, .inl (0, 4096, .inl rf)), (dc, .inl (0, 32, .inl sw)), (dd, .inl (0, 280, .inl ow)), (a, .inl (0, N, .inl wf))]) (hn : h.1 = n) (hs : h.2.1 = sl) (hn0 : 0 < n) : ax_M L xs 63 fr lo [.ref dk, .int (nI i), .ref a] h (fun r h' => r = none ∧ ax_hs h' [(dk, .inr (8, [.ref da, .ref db, .ref dc, .ref dd, .int (nI (c + 1))])), (da, .inl (0, 35840, .inl ff)), (db, .inl (0, 4096, .inl (wrF wf rf c (ostB ff i)))), (dc, .inl (0, 32, .inl (upd sw c (nI i)))), (dd, .inl (0, 280, .inl (upd ow i (nI c)))), (a, .inl (0, N, .inl wf))] ∧ h'.1 = n ∧ h'.2.1 = sl ∧ ax_fr (fun x => x ∈ [dk, dc, dd, db]) h h') := by
  show ax_A (ax_step L xs) ((63, 0, fr, lo), [(0, .ref dk), (1, .int (nI i)), (2, .ref a)], [], h) _
  have hbase : h.1 = n := hn
  have hbasl : h.2.1 = sl := hs
  have hf : ax_fr (fun x => x ∈ [dk, dc, dd, db]) h h := ax_fr.rf
  refine ar_aload_n 1 d_63_0 rfl rfl ?_
  refine ar_iload_n 2 d_63_1 rfl rfl ?_
  refine ar_call (r := []) (na := 0) (kd := 0) (cm := 26) (fr2 := fr - 1) (lo2 := lo - 21) 5 d_63_2 (ar_hoV (as := [.int (nI i)]) rfl rfl rfl (hF.at 0 rfl)) rfl (by omega) (show lo - 21 + (19 + 2) = lo by omega) (Nat.le_of_ble_eq_true rfl) (Nat.le_of_ble_eq_true rfl) (c_26N hi hc h1 (hF.sub (F' := [(dk, .inr (8, [.ref da, .ref db, .ref dc, .ref dd, .int (nI c)])), (dc, .inl (0, 32, .inl sw)), (dd, .inl (0, 280, .inl ow))]) [0, 3, 4] rfl rfl) hn hs (by omega)) ?_
  intro v h1 hq
  obtain ⟨rfl, qF, qn, qs, qf⟩ := hq
  have qF : ax_hs h1 [(dk, .inr (8, [.ref da, .ref db, .ref dc, .ref dd, .int (nI (c + 1))])), (dc, .inl (0, 32, .inl (upd sw c (nI i)))), (dd, .inl (0, 280, .inl (upd ow i (nI c))))] := qF
  replace hF : ax_hs h1 [(da, .inl (0, 35840, .inl ff)), (db, .inl (0, 4096, .inl rf)), (a, .inl (0, N, .inl wf)), (dk, .inr (8, [.ref da, .ref db, .ref dc, .ref dd, .int (nI (c + 1))])), (dc, .inl (0, 32, .inl (upd sw c (nI i)))), (dd, .inl (0, 280, .inl (upd ow i (nI c))))] := ax_hs.call (rest := [(da, .inl (0, 35840, .inl ff)), (db, .inl (0, 4096, .inl rf)), (a, .inl (0, N, .inl wf))]) [0, 3, 4] [1, 2, 5] hF qf qF rfl rfl rfl [0, 3, 4] rfl rfl [0, 3, 4] (news := []) rfl rfl (fun _ z => absurd z List.not_mem_nil) rfl
  replace hf := hf.trC qf (by intro x hx hB; simp at hB; first | (rcases hB with rfl | rfl | rfl <;> first | omega | simp) | omega | simp [hB])
  replace hn : h1.1 = n := by omega
  replace hs : h1.2.1 = sl := by omega
  have qf0 := qf
  clear qF qn qs qf
  refine ar_istore_n 6 [(0, .ref dk), (1, .int (nI i)), (2, .ref a), (3, .int (nI c))] d_63_5 rfl (by decide) rfl ?_
  refine ar_iload_n 7 d_63_6 rfl rfl ?_
  refine ar_if_lt 44 10 d_63_7 (by decide) rfl (fun c => absurd c (Int32.not_lt.mpr (nI_le (Nat.zero_le _) (by omega)))) (fun _ => ?_)
  refine ar_aload_n 11 d_63_10 rfl rfl ?_
  refine ar_iconst 12 (v := 0) d_63_11 rfl (by decide) ?_
  refine ar_aload_n 13 d_63_12 rfl rfl ?_
  refine ar_getf 16 d_63_13 rfl (ci := 8) (k := 1) rfl (hF.at 3 rfl) rfl ?_
  refine ar_iload_n 17 d_63_16 rfl rfl ?_
  refine ar_sipush 20 (v := 128) d_63_17 rfl (by decide) ?_
  refine ar_imul 21 d_63_20 rfl ?_
  refine ar_top (x' := nI (c * 128)) (pk_mul c 128) ?_
  refine ar_sipush 24 (v := 128) d_63_21 rfl (by decide) ?_
  refine ar_copy 27 d_63_24 rfl rfl (by omega) (by show 0 + (nativeFrameWords "java/lang/System" "arraycopy" 5 + 11) ≤ lo; rw [nfw_copy]; omega) (hF.at 2 rfl) (hF.at 1 rfl) (by decide) (Int32.not_lt.mpr (nI_le (Nat.zero_le _) (by omega))) (by decide) (by show 0 + 128 ≤ N; omega) (by rw [nI_clamp (by omega)]; show c * 128 + 128 ≤ 4096; omega) ?_
  replace hF : ax_hs (ax_put h1 db (.inl (0, 4096, .inl (va_cpy wf rf ((0 : Int32).toNatClampNeg) ((nI (c * 128)).toNatClampNeg) ((128 : Int32).toNatClampNeg))))) [(da, .inl (0, 35840, .inl ff)), (db, .inl (0, 4096, .inl (va_cpy wf rf ((0 : Int32).toNatClampNeg) ((nI (c * 128)).toNatClampNeg) ((128 : Int32).toNatClampNeg)))), (a, .inl (0, N, .inl wf)), (dk, .inr (8, [.ref da, .ref db, .ref dc, .ref dd, .int (nI (c + 1))])), (dc, .inl (0, 32, .inl (upd sw c (nI i)))), (dd, .inl (0, 280, .inl (upd ow i (nI c))))] := hF.put 1 _ rfl rfl
  replace hf := hf.put (a := db) (c := .inl (0, 4096, .inl (va_cpy wf rf ((0 : Int32).toNatClampNeg) ((nI (c * 128)).toNatClampNeg) ((128 : Int32).toNatClampNeg)))) (by simp)
  replace hn : (ax_put h1 db (.inl (0, 4096, .inl (va_cpy wf rf ((0 : Int32).toNatClampNeg) ((nI (c * 128)).toNatClampNeg) ((128 : Int32).toNatClampNeg))))).1 = n := hn
  replace hs : (ax_put h1 db (.inl (0, 4096, .inl (va_cpy wf rf ((0 : Int32).toNatClampNeg) ((nI (c * 128)).toNatClampNeg) ((128 : Int32).toNatClampNeg))))).2.1 = sl := hs
  generalize ax_put h1 db (.inl (0, 4096, .inl (va_cpy wf rf ((0 : Int32).toNatClampNeg) ((nI (c * 128)).toNatClampNeg) ((128 : Int32).toNatClampNeg)))) = h2 at hF hf hn hs ⊢
  refine ar_aload_n 28 d_63_27 rfl rfl ?_
  refine ar_getf 31 d_63_28 rfl (ci := 8) (k := 1) rfl (hF.at 3 rfl) rfl ?_
  refine ar_iload_n 32 d_63_31 rfl rfl ?_
  refine ar_sipush 35 (v := 128) d_63_32 rfl (by decide) ?_
  refine ar_imul 36 d_63_35 rfl ?_
  refine ar_top (x' := nI (c * 128)) (pk_mul c 128) ?_
  refine ar_aload_n 37 d_63_36 rfl rfl ?_
  refine ar_iload_n 38 d_63_37 rfl rfl ?_
  refine ar_call (r := [.int (nI (c * 128)), .ref db]) (na := 0) (kd := 0) (cm := 64) (fr2 := fr - 1) (lo2 := lo - 21) 41 d_63_38 (ar_hoV (as := [.int (nI i)]) rfl rfl rfl (hF.at 3 rfl)) rfl (by omega) (show lo - 21 + (19 + 2) = lo by omega) (Nat.le_of_ble_eq_true rfl) (Nat.le_of_ble_eq_true rfl) (c_64 hi (hF.sub (F' := [(dk, .inr (8, [.ref da, .ref db, .ref dc, .ref dd, .int (nI (c + 1))])), (da, .inl (0, 35840, .inl ff))]) [3, 0] rfl rfl)) ?_
  intro v hh hq
  obtain ⟨rfl, ehh⟩ := hq
  rw [ehh]
  clear ehh
  refine ar_call (r := []) (na := 0) (kd := 0) (cm := 65) (fr2 := fr - 1) (lo2 := lo - 22) 44 d_63_41 (ar_hoS (as := [.ref db, .int (nI (c * 128)), .int (ostB ff i)]) rfl rfl rfl) rfl (by omega) (show lo - 22 + (19 + 3) = lo by omega) (Nat.le_of_ble_eq_true rfl) (Nat.le_of_ble_eq_true rfl) (c_65 (by decide) (by omega) (hF.sub (F' := [(db, .inl (0, 4096, .inl (va_cpy wf rf ((0 : Int32).toNatClampNeg) ((nI (c * 128)).toNatClampNeg) ((128 : Int32).toNatClampNeg))))]) [1] rfl rfl)) ?_
  intro v hh hq
  obtain ⟨rfl, rfl⟩ := hq
  replace hF : ax_hs (ax_put h2 db (.inl (0, 4096, .inl (stmp (va_cpy wf rf ((0 : Int32).toNatClampNeg) ((nI (c * 128)).toNatClampNeg) ((128 : Int32).toNatClampNeg)) (c * 128) (ostB ff i))))) [(da, .inl (0, 35840, .inl ff)), (db, .inl (0, 4096, .inl (stmp (va_cpy wf rf ((0 : Int32).toNatClampNeg) ((nI (c * 128)).toNatClampNeg) ((128 : Int32).toNatClampNeg)) (c * 128) (ostB ff i)))), (a, .inl (0, N, .inl wf)), (dk, .inr (8, [.ref da, .ref db, .ref dc, .ref dd, .int (nI (c + 1))])), (dc, .inl (0, 32, .inl (upd sw c (nI i)))), (dd, .inl (0, 280, .inl (upd ow i (nI c))))] := hF.put 1 _ rfl rfl
  replace hf := hf.put (a := db) (c := .inl (0, 4096, .inl (stmp (va_cpy wf rf ((0 : Int32).toNatClampNeg) ((nI (c * 128)).toNatClampNeg) ((128 : Int32).toNatClampNeg)) (c * 128) (ostB ff i)))) (by simp)
  replace hn : (ax_put h2 db (.inl (0, 4096, .inl (stmp (va_cpy wf rf ((0 : Int32).toNatClampNeg) ((nI (c * 128)).toNatClampNeg) ((128 : Int32).toNatClampNeg)) (c * 128) (ostB ff i))))).1 = n := hn
  replace hs : (ax_put h2 db (.inl (0, 4096, .inl (stmp (va_cpy wf rf ((0 : Int32).toNatClampNeg) ((nI (c * 128)).toNatClampNeg) ((128 : Int32).toNatClampNeg)) (c * 128) (ostB ff i))))).2.1 = sl := hs
  generalize ax_put h2 db (.inl (0, 4096, .inl (stmp (va_cpy wf rf ((0 : Int32).toNatClampNeg) ((nI (c * 128)).toNatClampNeg) ((128 : Int32).toNatClampNeg)) (c * 128) (ostB ff i)))) = h3 at hF hf hn hs ⊢
  rw [nI_clamp (show c * 128 < 2 ^ 31 by omega)] at hF
  have hF9 : ax_hs _ [(dk, .inr (8, [.ref da, .ref db, .ref dc, .ref dd, .int (nI (c + 1))])), (da, .inl (0, 35840, .inl ff)), (db, .inl (0, 4096, .inl (wrF wf rf c (ostB ff i)))), (dc, .inl (0, 32, .inl (upd sw c (nI i)))), (dd, .inl (0, 280, .inl (upd ow i (nI c)))), (a, .inl (0, N, .inl wf))] := hF.sub (F' := [(dk, .inr (8, [.ref da, .ref db, .ref dc, .ref dd, .int (nI (c + 1))])), (da, .inl (0, 35840, .inl ff)), (db, .inl (0, 4096, .inl (wrF wf rf c (ostB ff i)))), (dc, .inl (0, 32, .inl (upd sw c (nI i)))), (dd, .inl (0, 280, .inl (upd ow i (nI c)))), (a, .inl (0, N, .inl wf))]) [3, 0, 1, 4, 5, 2] rfl rfl
  exact ar_ret d_63_44 rfl (⟨rfl, hF9, hn, hs, hf⟩)
theorem c_25N {L : Nat} {xs : Nat → Int32} {fr lo : Nat} {h : ax_H} {n sl : Nat} {dk da db dc dd i c : Nat} {ff rf sw ow : Nat → Int32} (hfr : 2 ≤ fr) (hlo : 60 ≤ lo) (hi : i < 280) (hc : c < 32) (h1 : ow i < 0) (hF : ax_hs h [(dk, .inr (8, [.ref da, .ref db, .ref dc, .ref dd, .int (nI c)])), (da, .inl (0, 35840, .inl ff)), (db, .inl (0, 4096, .inl rf)), (dc, .inl (0, 32, .inl sw)), (dd, .inl (0, 280, .inl ow))]) (hn : h.1 = n) (hs : h.2.1 = sl) (hn0 : 0 < n) : ax_M L xs 25 fr lo [.ref dk, .int (nI i)] h (fun r h' => r = none ∧ ax_hs h' [(dk, .inr (8, [.ref da, .ref db, .ref dc, .ref dd, .int (nI (c + 1))])), (da, .inl (0, 35840, .inl ff)), (db, .inl (0, 4096, .inl (erF rf c))), (dc, .inl (0, 32, .inl (upd sw c (nI i)))), (dd, .inl (0, 280, .inl (upd ow i (nI c))))] ∧ h'.1 = n ∧ h'.2.1 = sl ∧ ax_fr (fun x => x ∈ [dk, dc, dd, db]) h h') := by
  show ax_A (ax_step L xs) ((25, 0, fr, lo), [(0, .ref dk), (1, .int (nI i))], [], h) _
  have hbase : h.1 = n := hn
  have hbasl : h.2.1 = sl := hs
  have hf : ax_fr (fun x => x ∈ [dk, dc, dd, db]) h h := ax_fr.rf
  refine ar_aload_n 1 d_25_0 rfl rfl ?_
  refine ar_iload_n 2 d_25_1 rfl rfl ?_
  refine ar_call (r := []) (na := 0) (kd := 0) (cm := 26) (fr2 := fr - 1) (lo2 := lo - 21) 5 d_25_2 (ar_hoV (as := [.int (nI i)]) rfl rfl rfl (hF.at 0 rfl)) rfl (by omega) (show lo - 21 + (19 + 2) = lo by omega) (Nat.le_of_ble_eq_true rfl) (Nat.le_of_ble_eq_true rfl) (c_26N hi hc h1 (hF.sub (F' := [(dk, .inr (8, [.ref da, .ref db, .ref dc, .ref dd, .int (nI c)])), (dc, .inl (0, 32, .inl sw)), (dd, .inl (0, 280, .inl ow))]) [0, 3, 4] rfl rfl) hn hs (by omega)) ?_
  intro v h1 hq
  obtain ⟨rfl, qF, qn, qs, qf⟩ := hq
  have qF : ax_hs h1 [(dk, .inr (8, [.ref da, .ref db, .ref dc, .ref dd, .int (nI (c + 1))])), (dc, .inl (0, 32, .inl (upd sw c (nI i)))), (dd, .inl (0, 280, .inl (upd ow i (nI c))))] := qF
  replace hF : ax_hs h1 [(da, .inl (0, 35840, .inl ff)), (db, .inl (0, 4096, .inl rf)), (dk, .inr (8, [.ref da, .ref db, .ref dc, .ref dd, .int (nI (c + 1))])), (dc, .inl (0, 32, .inl (upd sw c (nI i)))), (dd, .inl (0, 280, .inl (upd ow i (nI c))))] := ax_hs.call (rest := [(da, .inl (0, 35840, .inl ff)), (db, .inl (0, 4096, .inl rf))]) [0, 3, 4] [1, 2] hF qf qF rfl rfl rfl [0, 3, 4] rfl rfl [0, 3, 4] (news := []) rfl rfl (fun _ z => absurd z List.not_mem_nil) rfl
  replace hf := hf.trC qf (by intro x hx hB; simp at hB; first | (rcases hB with rfl | rfl | rfl <;> first | omega | simp) | omega | simp [hB])
  replace hn : h1.1 = n := by omega
  replace hs : h1.2.1 = sl := by omega
  have qf0 := qf
  clear qF qn qs qf
  refine ar_istore_n 6 [(0, .ref dk), (1, .int (nI i)), (2, .int (nI c))] d_25_5 rfl (by decide) rfl ?_
  refine ar_iload_n 7 d_25_6 rfl rfl ?_
  refine ar_if_lt 30 10 d_25_7 (by decide) rfl (fun c => absurd c (Int32.not_lt.mpr (nI_le (Nat.zero_le _) (by omega)))) (fun _ => ?_)
  refine ar_aload_n 11 d_25_10 rfl rfl ?_
  refine ar_getf 14 d_25_11 rfl (ci := 8) (k := 1) rfl (hF.at 2 rfl) rfl ?_
  refine ar_iload_n 15 d_25_14 rfl rfl ?_
  refine ar_sipush 18 (v := 128) d_25_15 rfl (by decide) ?_
  refine ar_imul 19 d_25_18 rfl ?_
  refine ar_top (x' := nI (c * 128)) (pk_mul c 128) ?_
  refine ar_iload_n 20 d_25_19 rfl rfl ?_
  refine ar_iconst 21 (v := 1) d_25_20 rfl (by decide) ?_
  refine ar_iadd 22 d_25_21 rfl ?_
  refine ar_top (x' := nI (c + 1)) (nI_1 c) ?_
  refine ar_sipush 25 (v := 128) d_25_22 rfl (by decide) ?_
  refine ar_imul 26 d_25_25 rfl ?_
  refine ar_top (x' := nI ((c + 1) * 128)) (pk_mul (c + 1) 128) ?_
  refine ar_iconst 27 (v := 0) d_25_26 rfl (by decide) ?_
  refine ar_call (r := []) (na := 0) (kd := 0) (cm := 27) (fr2 := fr - 1) (lo2 := lo - 24) 30 d_25_27 (ar_hoS (as := [.ref db, .int (nI (c * 128)), .int (nI ((c + 1) * 128)), .int 0]) rfl rfl rfl) rfl (by omega) (show lo - 24 + (19 + 5) = lo by omega) (Nat.le_of_ble_eq_true rfl) (Nat.le_of_ble_eq_true rfl) (c_27 (by omega) (by omega) (hF.at 1 rfl) (by decide) (by omega) (by omega)) ?_
  intro v hh hq
  obtain ⟨rfl, rfl⟩ := hq
  replace hF : ax_hs (ax_put h1 db (.inl (0, 4096, .inl (ax_fill rf (c * 128) ((c + 1) * 128) 0)))) [(da, .inl (0, 35840, .inl ff)), (db, .inl (0, 4096, .inl (ax_fill rf (c * 128) ((c + 1) * 128) 0))), (dk, .inr (8, [.ref da, .ref db, .ref dc, .ref dd, .int (nI (c + 1))])), (dc, .inl (0, 32, .inl (upd sw c (nI i)))), (dd, .inl (0, 280, .inl (upd ow i (nI c))))] := hF.put 1 _ rfl rfl
  replace hf := hf.put (a := db) (c := .inl (0, 4096, .inl (ax_fill rf (c * 128) ((c + 1) * 128) 0))) (by simp)
  replace hn : (ax_put h1 db (.inl (0, 4096, .inl (ax_fill rf (c * 128) ((c + 1) * 128) 0)))).1 = n := hn
  replace hs : (ax_put h1 db (.inl (0, 4096, .inl (ax_fill rf (c * 128) ((c + 1) * 128) 0)))).2.1 = sl := hs
  generalize ax_put h1 db (.inl (0, 4096, .inl (ax_fill rf (c * 128) ((c + 1) * 128) 0))) = h2 at hF hf hn hs ⊢
  have hF9 : ax_hs _ [(dk, .inr (8, [.ref da, .ref db, .ref dc, .ref dd, .int (nI (c + 1))])), (da, .inl (0, 35840, .inl ff)), (db, .inl (0, 4096, .inl (erF rf c))), (dc, .inl (0, 32, .inl (upd sw c (nI i)))), (dd, .inl (0, 280, .inl (upd ow i (nI c))))] := hF.sub (F' := [(dk, .inr (8, [.ref da, .ref db, .ref dc, .ref dd, .int (nI (c + 1))])), (da, .inl (0, 35840, .inl ff)), (db, .inl (0, 4096, .inl (erF rf c))), (dc, .inl (0, 32, .inl (upd sw c (nI i)))), (dd, .inl (0, 280, .inl (upd ow i (nI c))))]) [2, 0, 1, 3, 4] rfl rfl
  exact ar_ret d_25_30 rfl (⟨rfl, hF9, hn, hs, hf⟩)
theorem c_25O {L : Nat} {xs : Nat → Int32} {fr lo : Nat} {h : ax_H} {n sl : Nat} {dk da db dc dd i c k : Nat} {ff rf sw ow : Nat → Int32} (hfr : 2 ≤ fr) (hlo : 60 ≤ lo) (hi : i < 280) (hc : c ≤ 32) (hk : k < 32) (h1 : ow i = nI k) (hF : ax_hs h [(dk, .inr (8, [.ref da, .ref db, .ref dc, .ref dd, .int (nI c)])), (da, .inl (0, 35840, .inl ff)), (db, .inl (0, 4096, .inl rf)), (dc, .inl (0, 32, .inl sw)), (dd, .inl (0, 280, .inl ow))]) (hn : h.1 = n) (hs : h.2.1 = sl) (hn0 : 0 < n) : ax_M L xs 25 fr lo [.ref dk, .int (nI i)] h (fun r h' => r = none ∧ ax_hs h' [(dk, .inr (8, [.ref da, .ref db, .ref dc, .ref dd, .int (nI c)])), (da, .inl (0, 35840, .inl ff)), (db, .inl (0, 4096, .inl (erF rf k))), (dc, .inl (0, 32, .inl sw)), (dd, .inl (0, 280, .inl ow))] ∧ h'.1 = n ∧ h'.2.1 = sl ∧ ax_fr (fun x => x ∈ [db]) h h') := by
  show ax_A (ax_step L xs) ((25, 0, fr, lo), [(0, .ref dk), (1, .int (nI i))], [], h) _
  have hbase : h.1 = n := hn
  have hbasl : h.2.1 = sl := hs
  have hf : ax_fr (fun x => x ∈ [db]) h h := ax_fr.rf
  refine ar_aload_n 1 d_25_0 rfl rfl ?_
  refine ar_iload_n 2 d_25_1 rfl rfl ?_
  refine ar_call (r := []) (na := 0) (kd := 0) (cm := 26) (fr2 := fr - 1) (lo2 := lo - 21) 5 d_25_2 (ar_hoV (as := [.int (nI i)]) rfl rfl rfl (hF.at 0 rfl)) rfl (by omega) (show lo - 21 + (19 + 2) = lo by omega) (Nat.le_of_ble_eq_true rfl) (Nat.le_of_ble_eq_true rfl) (c_26O hi hc (Or.inl (by rw [h1]; exact Int32.not_lt.mpr (nI_le (Nat.zero_le k) (by omega)))) (hF.sub (F' := [(dk, .inr (8, [.ref da, .ref db, .ref dc, .ref dd, .int (nI c)])), (dd, .inl (0, 280, .inl ow))]) [0, 4] rfl rfl)) ?_
  intro v hh hq
  obtain ⟨rfl, ehh⟩ := hq
  rw [ehh]
  clear ehh
  refine ar_top (x' := nI k) h1 ?_
  refine ar_istore_n 6 [(0, .ref dk), (1, .int (nI i)), (2, .int (nI k))] d_25_5 rfl (by decide) rfl ?_
  refine ar_iload_n 7 d_25_6 rfl rfl ?_
  refine ar_if_lt 30 10 d_25_7 (by decide) rfl (fun c => absurd c (Int32.not_lt.mpr (nI_le (Nat.zero_le _) (by omega)))) (fun _ => ?_)
  refine ar_aload_n 11 d_25_10 rfl rfl ?_
  refine ar_getf 14 d_25_11 rfl (ci := 8) (k := 1) rfl (hF.at 0 rfl) rfl ?_
  refine ar_iload_n 15 d_25_14 rfl rfl ?_
  refine ar_sipush 18 (v := 128) d_25_15 rfl (by decide) ?_
  refine ar_imul 19 d_25_18 rfl ?_
  refine ar_top (x' := nI (k * 128)) (pk_mul k 128) ?_
  refine ar_iload_n 20 d_25_19 rfl rfl ?_
  refine ar_iconst 21 (v := 1) d_25_20 rfl (by decide) ?_
  refine ar_iadd 22 d_25_21 rfl ?_
  refine ar_top (x' := nI (k + 1)) (nI_1 k) ?_
  refine ar_sipush 25 (v := 128) d_25_22 rfl (by decide) ?_
  refine ar_imul 26 d_25_25 rfl ?_
  refine ar_top (x' := nI ((k + 1) * 128)) (pk_mul (k + 1) 128) ?_
  refine ar_iconst 27 (v := 0) d_25_26 rfl (by decide) ?_
  refine ar_call (r := []) (na := 0) (kd := 0) (cm := 27) (fr2 := fr - 1) (lo2 := lo - 24) 30 d_25_27 (ar_hoS (as := [.ref db, .int (nI (k * 128)), .int (nI ((k + 1) * 128)), .int 0]) rfl rfl rfl) rfl (by omega) (show lo - 24 + (19 + 5) = lo by omega) (Nat.le_of_ble_eq_true rfl) (Nat.le_of_ble_eq_true rfl) (c_27 (by omega) (by omega) (hF.at 2 rfl) (by decide) (by omega) (by omega)) ?_
  intro v hh hq
  obtain ⟨rfl, rfl⟩ := hq
  replace hF : ax_hs (ax_put h db (.inl (0, 4096, .inl (ax_fill rf (k * 128) ((k + 1) * 128) 0)))) [(dk, .inr (8, [.ref da, .ref db, .ref dc, .ref dd, .int (nI c)])), (da, .inl (0, 35840, .inl ff)), (db, .inl (0, 4096, .inl (ax_fill rf (k * 128) ((k + 1) * 128) 0))), (dc, .inl (0, 32, .inl sw)), (dd, .inl (0, 280, .inl ow))] := hF.put 2 _ rfl rfl
  replace hf := hf.put (a := db) (c := .inl (0, 4096, .inl (ax_fill rf (k * 128) ((k + 1) * 128) 0))) (by simp)
  replace hn : (ax_put h db (.inl (0, 4096, .inl (ax_fill rf (k * 128) ((k + 1) * 128) 0)))).1 = n := hn
  replace hs : (ax_put h db (.inl (0, 4096, .inl (ax_fill rf (k * 128) ((k + 1) * 128) 0)))).2.1 = sl := hs
  generalize ax_put h db (.inl (0, 4096, .inl (ax_fill rf (k * 128) ((k + 1) * 128) 0))) = h1 at hF hf hn hs ⊢
  have hF9 : ax_hs _ [(dk, .inr (8, [.ref da, .ref db, .ref dc, .ref dd, .int (nI c)])), (da, .inl (0, 35840, .inl ff)), (db, .inl (0, 4096, .inl (erF rf k))), (dc, .inl (0, 32, .inl sw)), (dd, .inl (0, 280, .inl ow))] := hF.sub (F' := [(dk, .inr (8, [.ref da, .ref db, .ref dc, .ref dd, .int (nI c)])), (da, .inl (0, 35840, .inl ff)), (db, .inl (0, 4096, .inl (erF rf k))), (dc, .inl (0, 32, .inl sw)), (dd, .inl (0, 280, .inl ow))]) [0, 1, 2, 3, 4] rfl rfl
  exact ar_ret d_25_30 rfl (⟨rfl, hF9, hn, hs, hf⟩)
/-- the first k of the blocks not FLUSHED come to stand -/
def flsF (rf sw : Nat → Int32) : Nat → (Nat → Int32) → (Nat → Int32)
  | 0, ff => ff
  | k + 1, ff => va_cpy rf (flsF rf sw k ff) (k * 128) ((sw k).toNatClampNeg * 128) 128
def flsO (sw : Nat → Int32) : Nat → (Nat → Int32) → (Nat → Int32)
  | 0, ow => ow
  | k + 1, ow => upd (flsO sw k ow) ((sw k).toNatClampNeg) (-1)
theorem nI_cl {x : Int32} (h : ¬ x < 0) : x = nI x.toNatClampNeg := by
  obtain ⟨j, hj, rfl⟩ := nI_of h
  rw [nI_clamp hj]
theorem lp_24 {L : Nat} {xs : Nat → Int32} {fr lo n sl : Nat} {dk da db dc dd c : Nat} {ff rf sw ow : Nat → Int32} {post : ax_Po} (hfr : 1 ≤ fr) (hlo : 30 ≤ lo) (hc : c ≤ 32) (hsw : ∀ j, j < c → ¬ sw j < 0 ∧ (sw j).toNatClampNeg < 280) : ∀ (k i : Nat) (h : ax_H), i + k = c → ax_hs h [(dk, .inr (8, [.ref da, .ref db, .ref dc, .ref dd, .int (nI c)])), (da, .inl (0, 35840, .inl (flsF rf sw i ff))), (db, .inl (0, 4096, .inl rf)), (dc, .inl (0, 32, .inl sw)), (dd, .inl (0, 280, .inl (flsO sw i ow)))] → h.1 = n → h.2.1 = sl → (∀ h', ax_hs h' [(dk, .inr (8, [.ref da, .ref db, .ref dc, .ref dd, .int (nI c)])), (da, .inl (0, 35840, .inl (flsF rf sw c ff))), (db, .inl (0, 4096, .inl rf)), (dc, .inl (0, 32, .inl sw)), (dd, .inl (0, 280, .inl (flsO sw c ow)))] → h'.1 = n → h'.2.1 = sl → ax_fr (fun x => x ∈ [da, dd]) h h' → ax_A (ax_step L xs) ((24, 57, fr, lo), [(0, .ref dk), (1, .int (nI c))], [], h') post) → ax_A (ax_step L xs) ((24, 2, fr, lo), [(0, .ref dk), (1, .int (nI i))], [], h) post := by
  intro k
  induction k with
  | zero =>
    intro i h hi hF hn hs kk
    have e : i = c := by omega
    subst e
    refine ar_iload_n 3 d_24_2 rfl rfl ?_
    refine ar_aload_n 4 d_24_3 rfl rfl ?_
    refine ar_getf 7 d_24_4 rfl (ci := 8) (k := 4) rfl (hF.at 0 rfl) rfl ?_
    refine ar_icmp_ge 57 10 d_24_7 (by decide) rfl (fun _ => ?_) (fun c => absurd (Int32.le_refl _) c)
    exact kk h hF hn hs ax_fr.rf
  | succ k ih =>
    intro i h hi hF hn hs kk
    have hic : i < c := by omega
    obtain ⟨hs0, hs1⟩ := hsw i hic
    have hse := nI_cl hs0
    have hsm : nI ((sw i).toNatClampNeg * 128) = sw i * 128 := by
      rw [← pk_mul, ← hse]
      rfl
    have hbase : h.1 = n := hn
    have hbasl : h.2.1 = sl := hs
    have hf : ax_fr (fun x => x ∈ [da, dd]) h h := ax_fr.rf
    refine ar_iload_n 3 d_24_2 rfl rfl ?_
    refine ar_aload_n 4 d_24_3 rfl rfl ?_
    refine ar_getf 7 d_24_4 rfl (ci := 8) (k := 4) rfl (hF.at 0 rfl) rfl ?_
    refine ar_icmp_ge 57 10 d_24_7 (by decide) rfl (fun c => absurd c (nI_ge hic (by omega))) (fun _ => ?_)
    refine ar_aload_n 11 d_24_10 rfl rfl ?_
    refine ar_getf 14 d_24_11 rfl (ci := 8) (k := 1) rfl (hF.at 0 rfl) rfl ?_
    refine ar_iload_n 15 d_24_14 rfl rfl ?_
    refine ar_sipush 18 (v := 128) d_24_15 rfl (by decide) ?_
    refine ar_imul 19 d_24_18 rfl ?_
    refine ar_top (x' := nI (i * 128)) (pk_mul i 128) ?_
    refine ar_aload_n 20 d_24_19 rfl rfl ?_
    refine ar_getf 23 d_24_20 rfl (ci := 8) (k := 0) rfl (hF.at 0 rfl) rfl ?_
    refine ar_aload_n 24 d_24_23 rfl rfl ?_
    refine ar_getf 27 d_24_24 rfl (ci := 8) (k := 2) rfl (hF.at 0 rfl) rfl ?_
    refine ar_iload_n 28 d_24_27 rfl rfl ?_
    refine ar_iald 29 d_24_28 rfl (hF.at 3 rfl) (nI_in (by omega) (by omega)) ?_
    refine ar_top (x' := sw i) (by rw [nI_clamp (by omega)]) ?_
    refine ar_sipush 32 (v := 128) d_24_29 rfl (by decide) ?_
    refine ar_imul 33 d_24_32 rfl ?_
    refine ar_top (x' := nI ((sw i).toNatClampNeg * 128)) (hsm.symm) ?_
    refine ar_sipush 36 (v := 128) d_24_33 rfl (by decide) ?_
    refine ar_copy 39 d_24_36 rfl rfl (by omega) (by show 0 + (nativeFrameWords "java/lang/System" "arraycopy" 5 + 11) ≤ lo; rw [nfw_copy]; omega) (hF.at 2 rfl) (hF.at 1 rfl) (Int32.not_lt.mpr (nI_le (Nat.zero_le _) (by omega))) (Int32.not_lt.mpr (nI_le (Nat.zero_le _) (by omega))) (by decide) (by rw [nI_clamp (by omega)]; show i * 128 + 128 ≤ 4096; omega) (by rw [nI_clamp (by omega)]; show (sw i).toNatClampNeg * 128 + 128 ≤ 35840; omega) ?_
    replace hF : ax_hs (ax_put h da (.inl (0, 35840, .inl (va_cpy rf (flsF rf sw i ff) ((nI (i * 128)).toNatClampNeg) ((nI ((sw i).toNatClampNeg * 128)).toNatClampNeg) ((128 : Int32).toNatClampNeg))))) [(dk, .inr (8, [.ref da, .ref db, .ref dc, .ref dd, .int (nI c)])), (da, .inl (0, 35840, .inl (va_cpy rf (flsF rf sw i ff) ((nI (i * 128)).toNatClampNeg) ((nI ((sw i).toNatClampNeg * 128)).toNatClampNeg) ((128 : Int32).toNatClampNeg)))), (db, .inl (0, 4096, .inl rf)), (dc, .inl (0, 32, .inl sw)), (dd, .inl (0, 280, .inl (flsO sw i ow)))] := hF.put 1 _ rfl rfl
    replace hf := hf.put (a := da) (c := .inl (0, 35840, .inl (va_cpy rf (flsF rf sw i ff) ((nI (i * 128)).toNatClampNeg) ((nI ((sw i).toNatClampNeg * 128)).toNatClampNeg) ((128 : Int32).toNatClampNeg)))) (by simp)
    replace hn : (ax_put h da (.inl (0, 35840, .inl (va_cpy rf (flsF rf sw i ff) ((nI (i * 128)).toNatClampNeg) ((nI ((sw i).toNatClampNeg * 128)).toNatClampNeg) ((128 : Int32).toNatClampNeg))))).1 = n := hn
    replace hs : (ax_put h da (.inl (0, 35840, .inl (va_cpy rf (flsF rf sw i ff) ((nI (i * 128)).toNatClampNeg) ((nI ((sw i).toNatClampNeg * 128)).toNatClampNeg) ((128 : Int32).toNatClampNeg))))).2.1 = sl := hs
    generalize ax_put h da (.inl (0, 35840, .inl (va_cpy rf (flsF rf sw i ff) ((nI (i * 128)).toNatClampNeg) ((nI ((sw i).toNatClampNeg * 128)).toNatClampNeg) ((128 : Int32).toNatClampNeg)))) = h1 at hF hf hn hs ⊢
    refine ar_aload_n 40 d_24_39 rfl rfl ?_
    refine ar_getf 43 d_24_40 rfl (ci := 8) (k := 3) rfl (hF.at 0 rfl) rfl ?_
    refine ar_aload_n 44 d_24_43 rfl rfl ?_
    refine ar_getf 47 d_24_44 rfl (ci := 8) (k := 2) rfl (hF.at 0 rfl) rfl ?_
    refine ar_iload_n 48 d_24_47 rfl rfl ?_
    refine ar_iald 49 d_24_48 rfl (hF.at 3 rfl) (nI_in (by omega) (by omega)) ?_
    refine ar_top (x' := sw i) (by rw [nI_clamp (by omega)]) ?_
    refine ar_iconst 50 (v := -1) d_24_49 rfl (by decide) ?_
    refine ar_iast 51 d_24_50 rfl (hF.at 4 rfl) (by rw [hse]; exact nI_in hs1 (by omega)) ?_
    replace hF : ax_hs (ax_put h1 dd (.inl (0, 280, .inl (upd (flsO sw i ow) (sw i).toNatClampNeg (-1))))) [(dk, .inr (8, [.ref da, .ref db, .ref dc, .ref dd, .int (nI c)])), (da, .inl (0, 35840, .inl (va_cpy rf (flsF rf sw i ff) ((nI (i * 128)).toNatClampNeg) ((nI ((sw i).toNatClampNeg * 128)).toNatClampNeg) ((128 : Int32).toNatClampNeg)))), (db, .inl (0, 4096, .inl rf)), (dc, .inl (0, 32, .inl sw)), (dd, .inl (0, 280, .inl (upd (flsO sw i ow) (sw i).toNatClampNeg (-1))))] := hF.put 4 _ rfl rfl
    replace hf := hf.put (a := dd) (c := .inl (0, 280, .inl (upd (flsO sw i ow) (sw i).toNatClampNeg (-1)))) (by simp)
    replace hn : (ax_put h1 dd (.inl (0, 280, .inl (upd (flsO sw i ow) (sw i).toNatClampNeg (-1))))).1 = n := hn
    replace hs : (ax_put h1 dd (.inl (0, 280, .inl (upd (flsO sw i ow) (sw i).toNatClampNeg (-1))))).2.1 = sl := hs
    generalize ax_put h1 dd (.inl (0, 280, .inl (upd (flsO sw i ow) (sw i).toNatClampNeg (-1)))) = h2 at hF hf hn hs ⊢
    refine ar_iinc 54 [(0, .ref dk), (1, .int (nI (i + 1)))] d_24_51 rfl rfl (nI_1 i) (by decide) rfl ?_
    refine ar_goto 2 d_24_54 (by decide) ?_
    rw [nI_clamp (show i * 128 < 2 ^ 31 by omega), nI_clamp (show (sw i).toNatClampNeg * 128 < 2 ^ 31 by omega)] at hF
    exact ih (i + 1) h2 (by omega) hF hn hs (fun h' j1 j2 j3 j4 => kk h' j1 j2 j3 (hf.tr j4))
theorem c_24 {L : Nat} {xs : Nat → Int32} {fr lo : Nat} {h : ax_H} {n sl : Nat} {dk da db dc dd c : Nat} {ff rf sw ow : Nat → Int32} (hfr : 1 ≤ fr) (hlo : 30 ≤ lo) (hc : c ≤ 32) (hsw : ∀ j, j < c → ¬ sw j < 0 ∧ (sw j).toNatClampNeg < 280) (hF : ax_hs h [(dk, .inr (8, [.ref da, .ref db, .ref dc, .ref dd, .int (nI c)])), (da, .inl (0, 35840, .inl ff)), (db, .inl (0, 4096, .inl rf)), (dc, .inl (0, 32, .inl sw)), (dd, .inl (0, 280, .inl ow))]) (hn : h.1 = n) (hs : h.2.1 = sl) (hn0 : 0 < n) : ax_M L xs 24 fr lo [.ref dk] h (fun r h' => r = none ∧ ax_hs h' [(dk, .inr (8, [.ref da, .ref db, .ref dc, .ref dd, .int 0])), (da, .inl (0, 35840, .inl (flsF rf sw c ff))), (db, .inl (0, 4096, .inl rf)), (dc, .inl (0, 32, .inl sw)), (dd, .inl (0, 280, .inl (flsO sw c ow)))] ∧ h'.1 = n ∧ h'.2.1 = sl ∧ ax_fr (fun x => x ∈ [dk, da, dd]) h h') := by
  show ax_A (ax_step L xs) ((24, 0, fr, lo), [(0, .ref dk)], [], h) _
  have hbase : h.1 = n := hn
  have hbasl : h.2.1 = sl := hs
  have hf : ax_fr (fun x => x ∈ [dk, da, dd]) h h := ax_fr.rf
  refine ar_iconst 1 (v := 0) d_24_0 rfl (by decide) ?_
  refine ar_istore_n 2 [(0, .ref dk), (1, .int 0)] d_24_1 rfl (by decide) rfl ?_
  refine lp_24 hfr hlo hc hsw c 0 h (by omega) hF hn hs (fun h' hF hn hs qf => ?_)
  replace hf := hf.tr (qf.mono (by intro x hx; simp at hx; rcases hx with rfl | rfl <;> simp))
  refine ar_aload_n 58 d_24_57 rfl rfl ?_
  refine ar_iconst 59 (v := 0) d_24_58 rfl (by decide) ?_
  refine ar_putf 62 [.ref da, .ref db, .ref dc, .ref dd, .int 0] d_24_59 rfl (ci := 8) (k := 4) rfl rfl (hF.at 0 rfl) (Nat.le_of_ble_eq_true rfl) rfl rfl rfl ?_
  replace hF : ax_hs (ax_put h' dk (.inr (8, [.ref da, .ref db, .ref dc, .ref dd, .int 0]))) [(dk, .inr (8, [.ref da, .ref db, .ref dc, .ref dd, .int 0])), (da, .inl (0, 35840, .inl (flsF rf sw c ff))), (db, .inl (0, 4096, .inl rf)), (dc, .inl (0, 32, .inl sw)), (dd, .inl (0, 280, .inl (flsO sw c ow)))] := hF.put 0 _ rfl rfl
  replace hf := hf.put (a := dk) (c := .inr (8, [.ref da, .ref db, .ref dc, .ref dd, .int 0])) (by simp)
  replace hn : (ax_put h' dk (.inr (8, [.ref da, .ref db, .ref dc, .ref dd, .int 0]))).1 = n := hn
  replace hs : (ax_put h' dk (.inr (8, [.ref da, .ref db, .ref dc, .ref dd, .int 0]))).2.1 = sl := hs
  generalize ax_put h' dk (.inr (8, [.ref da, .ref db, .ref dc, .ref dd, .int 0])) = h1 at hF hf hn hs ⊢
  exact ar_ret d_24_62 rfl (⟨rfl, hF, hn, hs, hf⟩)
theorem c_149 {L : Nat} {xs : Nat → Int32} {fr lo : Nat} {h : ax_H} {dk da db dc dd : Nat} {dn : Int32} {ff : Nat → Int32} (hfr : 1 ≤ fr) (hlo : 40 ≤ lo) (hF : ax_hs h [(dk, .inr (8, [.ref da, .ref db, .ref dc, .ref dd, .int dn])), (da, .inl (0, 35840, .inl ff))]) : ax_M L xs 149 fr lo [.ref dk] h (fun r h' => r = none ∧ h' = ax_put h da (.inl (0, 35840, .inl (ax_fill ff 0 35840 0)))) := by
  show ax_A (ax_step L xs) ((149, 0, fr, lo), [(0, .ref dk)], [], h) _
  refine ar_aload_n 1 d_149_0 rfl rfl ?_
  refine ar_getf 4 d_149_1 rfl (ci := 8) (k := 0) rfl (hF.at 0 rfl) rfl ?_
  refine ar_iconst 5 (v := 0) d_149_4 rfl (by decide) ?_
  refine ar_call (r := []) (na := 0) (kd := 0) (cm := 13) (fr2 := fr - 1) (lo2 := lo - 23) 8 d_149_5 (ar_hoS (as := [.ref da, .int 0]) rfl rfl rfl) rfl (by omega) (show lo - 23 + (19 + 4) = lo by omega) (Nat.le_of_ble_eq_true rfl) (Nat.le_of_ble_eq_true rfl) (c_13 (hF.at 1 rfl) (by decide)) ?_
  intro v hh hq
  obtain ⟨rfl, rfl⟩ := hq
  exact ar_ret d_149_8 rfl (⟨rfl, rfl⟩)


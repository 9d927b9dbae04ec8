/-! Disk.isWhole; Node.readDisk where no block is whole; wake -/
def fstB (x : Int32) : Int32 := (x.toUInt32 >>> ((24 : Int32).toUInt32 &&& Int32.toUInt32 31)).toInt32
def lstB (x : Int32) : Int32 := x &&& 255
def whB (ff : Nat → Int32) (i : Nat) : Prop := ¬ fstB (ff (i * 128)) = 0 ∧ fstB (ff (i * 128)) = lstB (ff (i * 128 + 127))
theorem whB_0 (i : Nat) : ¬ whB (fun _ => 0) i := fun h => h.1 (show fstB 0 = 0 by decide)
theorem c_20T {L : Nat} {xs : Nat → Int32} {fr lo dk da db dc dd i : Nat} {dn : Int32} {ff : Nat → Int32} {h : ax_H} (hi : i < 280) (hw : whB ff i) (hF : ax_hs h [(dk, .inr (8, [.ref da, .ref db, .ref dc, .ref dd, .int dn])), (da, .inl (0, 35840, .inl ff))]) : ax_M L xs 20 fr lo [.ref dk, .int (nI i)] h (fun r h' => r = some (.int 1) ∧ h' = h) := by
  show ax_A (ax_step L xs) ((20, 0, fr, lo), [(0, .ref dk), (1, .int (nI i))], [], h) _
  refine ar_aload_n 1 d_20_0 rfl rfl ?_
  refine ar_getf 4 d_20_1 rfl (ci := 8) (k := 0) rfl (hF.at 0 rfl) rfl ?_
  refine ar_iload_n 5 d_20_4 rfl rfl ?_
  refine ar_sipush 8 (v := 128) d_20_5 rfl (by decide) ?_
  refine ar_imul 9 d_20_8 rfl ?_
  refine ar_top (x' := nI (i * 128)) (pk_mul i 128) ?_
  refine ar_iald 10 d_20_9 rfl (hF.at 1 rfl) (vp_in_nI (by omega) (show 35840 < 2 ^ 31 by decide)) ?_
  refine ar_top (x' := ff (i * 128)) (by rw [nI_clamp (by omega)]) ?_
  refine ar_bipush 12 (v := 24) d_20_10 rfl (by decide) ?_
  refine ar_iushr 13 d_20_12 rfl ?_
  refine ar_top (x' := fstB (ff (i * 128))) (rfl) ?_
  refine ar_istore_n 14 [(0, .ref dk), (1, .int (nI i)), (2, .int (fstB (ff (i * 128))))] d_20_13 rfl (by decide) rfl ?_
  refine ar_aload_n 15 d_20_14 rfl rfl ?_
  refine ar_getf 18 d_20_15 rfl (ci := 8) (k := 0) rfl (hF.at 0 rfl) rfl ?_
  refine ar_iload_n 19 d_20_18 rfl rfl ?_
  refine ar_sipush 22 (v := 128) d_20_19 rfl (by decide) ?_
  refine ar_imul 23 d_20_22 rfl ?_
  refine ar_top (x' := nI (i * 128)) (pk_mul i 128) ?_
  refine ar_bipush 25 (v := 127) d_20_23 rfl (by decide) ?_
  refine ar_iadd 26 d_20_25 rfl ?_
  refine ar_top (x' := nI (i * 128 + 127)) (nI_add (i * 128) 127) ?_
  refine ar_iald 27 d_20_26 rfl (hF.at 1 rfl) (vp_in_nI (by omega) (show 35840 < 2 ^ 31 by decide)) ?_
  refine ar_top (x' := ff (i * 128 + 127)) (by rw [nI_clamp (by omega)]) ?_
  refine ar_sipush 30 (v := 255) d_20_27 rfl (by decide) ?_
  refine ar_iand 31 d_20_30 rfl ?_
  refine ar_top (x' := lstB (ff (i * 128 + 127))) (rfl) ?_
  refine ar_istore_n 32 [(0, .ref dk), (1, .int (nI i)), (2, .int (fstB (ff (i * 128)))), (3, .int (lstB (ff (i * 128 + 127))))] d_20_31 rfl (by decide) rfl ?_
  refine ar_iload_n 33 d_20_32 rfl rfl ?_
  refine ar_if_eq 45 36 d_20_33 (by decide) rfl (fun c => absurd c (hw.1)) (fun _ => ?_)
  refine ar_iload_n 37 d_20_36 rfl rfl ?_
  refine ar_iload_n 38 d_20_37 rfl rfl ?_
  refine ar_icmp_ne 45 41 d_20_38 (by decide) rfl (fun c => absurd c (fun z => z hw.2)) (fun _ => ?_)
  refine ar_iconst 42 (v := 1) d_20_41 rfl (by decide) ?_
  refine ar_goto 46 d_20_42 (by decide) ?_
  exact ar_iret d_20_46 rfl rfl (⟨rfl, rfl⟩)
theorem c_20F {L : Nat} {xs : Nat → Int32} {fr lo dk da db dc dd i : Nat} {dn : Int32} {ff : Nat → Int32} {h : ax_H} (hi : i < 280) (hw : ¬ whB ff i) (hF : ax_hs h [(dk, .inr (8, [.ref da, .ref db, .ref dc, .ref dd, .int dn])), (da, .inl (0, 35840, .inl ff))]) : ax_M L xs 20 fr lo [.ref dk, .int (nI i)] h (fun r h' => r = some (.int 0) ∧ h' = h) := by
  show ax_A (ax_step L xs) ((20, 0, fr, lo), [(0, .ref dk), (1, .int (nI i))], [], h) _
  refine ar_aload_n 1 d_20_0 rfl rfl ?_
  refine ar_getf 4 d_20_1 rfl (ci := 8) (k := 0) rfl (hF.at 0 rfl) rfl ?_
  refine ar_iload_n 5 d_20_4 rfl rfl ?_
  refine ar_sipush 8 (v := 128) d_20_5 rfl (by decide) ?_
  refine ar_imul 9 d_20_8 rfl ?_
  refine ar_top (x' := nI (i * 128)) (pk_mul i 128) ?_
  refine ar_iald 10 d_20_9 rfl (hF.at 1 rfl) (vp_in_nI (by omega) (show 35840 < 2 ^ 31 by decide)) ?_
  refine ar_top (x' := ff (i * 128)) (by rw [nI_clamp (by omega)]) ?_
  refine ar_bipush 12 (v := 24) d_20_10 rfl (by decide) ?_
  refine ar_iushr 13 d_20_12 rfl ?_
  refine ar_top (x' := fstB (ff (i * 128))) (rfl) ?_
  refine ar_istore_n 14 [(0, .ref dk), (1, .int (nI i)), (2, .int (fstB (ff (i * 128))))] d_20_13 rfl (by decide) rfl ?_
  refine ar_aload_n 15 d_20_14 rfl rfl ?_
  refine ar_getf 18 d_20_15 rfl (ci := 8) (k := 0) rfl (hF.at 0 rfl) rfl ?_
  refine ar_iload_n 19 d_20_18 rfl rfl ?_
  refine ar_sipush 22 (v := 128) d_20_19 rfl (by decide) ?_
  refine ar_imul 23 d_20_22 rfl ?_
  refine ar_top (x' := nI (i * 128)) (pk_mul i 128) ?_
  refine ar_bipush 25 (v := 127) d_20_23 rfl (by decide) ?_
  refine ar_iadd 26 d_20_25 rfl ?_
  refine ar_top (x' := nI (i * 128 + 127)) (nI_add (i * 128) 127) ?_
  refine ar_iald 27 d_20_26 rfl (hF.at 1 rfl) (vp_in_nI (by omega) (show 35840 < 2 ^ 31 by decide)) ?_
  refine ar_top (x' := ff (i * 128 + 127)) (by rw [nI_clamp (by omega)]) ?_
  refine ar_sipush 30 (v := 255) d_20_27 rfl (by decide) ?_
  refine ar_iand 31 d_20_30 rfl ?_
  refine ar_top (x' := lstB (ff (i * 128 + 127))) (rfl) ?_
  refine ar_istore_n 32 [(0, .ref dk), (1, .int (nI i)), (2, .int (fstB (ff (i * 128)))), (3, .int (lstB (ff (i * 128 + 127))))] d_20_31 rfl (by decide) rfl ?_
  refine ar_iload_n 33 d_20_32 rfl rfl ?_
  refine ar_if_eq 45 36 d_20_33 (by decide) rfl (fun c1 => ?_) (fun c1 => ?_)
  · refine ar_iconst 46 (v := 0) d_20_45 rfl (by decide) ?_
    exact ar_iret d_20_46 rfl rfl (⟨rfl, rfl⟩)
  · refine ar_iload_n 37 d_20_36 rfl rfl ?_
    refine ar_iload_n 38 d_20_37 rfl rfl ?_
    refine ar_icmp_ne 45 41 d_20_38 (by decide) rfl (fun _ => ?_) (fun c => absurd (fun z => hw ⟨c1, z⟩) c)
    refine ar_iconst 46 (v := 0) d_20_45 rfl (by decide) ?_
    exact ar_iret d_20_46 rfl rfl (⟨rfl, rfl⟩)
theorem lp_19 {L : Nat} {xs : Nat → Int32} {fr lo nd rk nt dk ld tg da db dc dd n sl : Nat} {me up ne ns dn : Int32} {ff tf : Nat → Int32} {post : ax_Po} (hfr : 1 ≤ fr) (hlo : 23 ≤ lo) (hw : ∀ i, i < 280 → ¬ whB ff i) : ∀ (k i : Nat) (h : ax_H), i + k = 280 → ax_hs h [(nd, .inr (7, [.int me, .ref rk, .ref nt, .ref dk, .ref ld, .ref tg, .int up, .int ne, .int ns])), (dk, .inr (8, [.ref da, .ref db, .ref dc, .ref dd, .int dn])), (da, .inl (0, 35840, .inl ff)), (tg, .inl (0, 280, .inl (ax_fill tf 0 i (-1))))] → h.1 = n → h.2.1 = sl → (∀ h', ax_hs h' [(nd, .inr (7, [.int me, .ref rk, .ref nt, .ref dk, .ref ld, .ref tg, .int up, .int ne, .int ns])), (dk, .inr (8, [.ref da, .ref db, .ref dc, .ref dd, .int dn])), (da, .inl (0, 35840, .inl ff)), (tg, .inl (0, 280, .inl (ax_fill tf 0 280 (-1))))] → h'.1 = n → h'.2.1 = sl → ax_fr (fun x => x ∈ [tg]) h h' → post none h') → ax_A (ax_step L xs) ((19, 2, fr, lo), [(0, .ref nd), (1, .int (nI i))], [], h) post := by
  intro k
  induction k with
  | zero =>
    intro i h hi hF hn hs kk
    have e : i = 280 := by omega
    subst e
    refine ar_iload_n 3 d_19_2 rfl rfl ?_
    refine ar_sipush 6 (v := 280) d_19_3 rfl (by decide) ?_
    refine ar_icmp_ge 85 9 d_19_6 (by decide) rfl (fun _ => ?_) (fun c => absurd (nI_le (Nat.le_refl 280) (by decide)) c)
    exact ar_ret d_19_85 rfl (kk h hF hn hs ax_fr.rf)
  | succ k ih =>
    intro i h hi hF hn hs kk
    have hin : i < 280 := by omega
    have hbase : h.1 = n := hn
    have hbasl : h.2.1 = sl := hs
    have hf : ax_fr (fun x => x ∈ [tg]) h h := ax_fr.rf
    refine ar_iload_n 3 d_19_2 rfl rfl ?_
    refine ar_sipush 6 (v := 280) d_19_3 rfl (by decide) ?_
    refine ar_icmp_ge 85 9 d_19_6 (by decide) rfl (fun c => absurd c (nI_ge hin (show 280 < 2 ^ 31 by decide))) (fun _ => ?_)
    refine ar_aload_n 10 d_19_9 rfl rfl ?_
    refine ar_getf 13 d_19_10 rfl (ci := 7) (k := 3) rfl (hF.at 0 rfl) rfl ?_
    refine ar_iload_n 14 d_19_13 rfl rfl ?_
    refine ar_call (r := []) (na := 0) (kd := 0) (cm := 20) (fr2 := fr - 1) (lo2 := lo - 23) 17 d_19_14 (ar_hoV (as := [.int (nI i)]) rfl rfl rfl (hF.at 1 rfl)) rfl (by omega) (show lo - 23 + (19 + 4) = lo by omega) (Nat.le_of_ble_eq_true rfl) (Nat.le_of_ble_eq_true rfl) (c_20F hin (hw i hin) (hF.sub (F' := [(dk, .inr (8, [.ref da, .ref db, .ref dc, .ref dd, .int dn])), (da, .inl (0, 35840, .inl ff))]) [1, 2] rfl rfl)) ?_
    intro v hh hq
    obtain ⟨rfl, ehh⟩ := hq
    rw [ehh]
    clear ehh
    refine ar_if_eq 31 20 d_19_17 (by decide) rfl (fun _ => ?_) (fun c => absurd (rfl) c)
    refine ar_iconst 32 (v := -1) d_19_31 rfl (by decide) ?_
    refine ar_istore_n 33 [(0, .ref nd), (1, .int (nI i)), (2, .int (-1))] d_19_32 rfl (by decide) rfl ?_
    refine ar_iload_n 34 d_19_33 rfl rfl ?_
    refine ar_if_lt 72 37 d_19_34 (by decide) rfl (fun _ => ?_) (fun c => absurd (by decide) c)
    refine ar_aload_n 73 d_19_72 rfl rfl ?_
    refine ar_getf 76 d_19_73 rfl (ci := 7) (k := 5) rfl (hF.at 0 rfl) rfl ?_
    refine ar_iload_n 77 d_19_76 rfl rfl ?_
    refine ar_iload_n 78 d_19_77 rfl rfl ?_
    refine ar_iast 79 d_19_78 rfl (hF.at 3 rfl) (vp_in_nI hin (show 280 < 2 ^ 31 by decide)) ?_
    replace hF : ax_hs (ax_put h tg (.inl (0, 280, .inl (upd (ax_fill tf 0 i (-1)) (nI i).toNatClampNeg (-1))))) [(nd, .inr (7, [.int me, .ref rk, .ref nt, .ref dk, .ref ld, .ref tg, .int up, .int ne, .int ns])), (dk, .inr (8, [.ref da, .ref db, .ref dc, .ref dd, .int dn])), (da, .inl (0, 35840, .inl ff)), (tg, .inl (0, 280, .inl (upd (ax_fill tf 0 i (-1)) (nI i).toNatClampNeg (-1))))] := hF.put 3 _ rfl rfl
    replace hf := hf.put (a := tg) (c := .inl (0, 280, .inl (upd (ax_fill tf 0 i (-1)) (nI i).toNatClampNeg (-1)))) (by simp)
    replace hn : (ax_put h tg (.inl (0, 280, .inl (upd (ax_fill tf 0 i (-1)) (nI i).toNatClampNeg (-1))))).1 = n := hn
    replace hs : (ax_put h tg (.inl (0, 280, .inl (upd (ax_fill tf 0 i (-1)) (nI i).toNatClampNeg (-1))))).2.1 = sl := hs
    generalize ax_put h tg (.inl (0, 280, .inl (upd (ax_fill tf 0 i (-1)) (nI i).toNatClampNeg (-1)))) = h1 at hF hf hn hs ⊢
    rw [nI_clamp (by omega), ax_fill_s tf (-1) (Nat.zero_le i)] at hF
    refine ar_iinc 82 [(0, .ref nd), (1, .int (nI (i + 1))), (2, .int (-1))] d_19_79 rfl rfl (nI_1 i) (by decide) rfl ?_
    refine ar_goto 2 d_19_82 (by decide) ?_
    refine ar_wk [0, 1] rfl (by simp) ?_
    exact ih (i + 1) h1 (by omega) hF hn hs (fun h' j1 j2 j3 j4 => kk h' j1 j2 j3 (hf.tr j4))
theorem c_19 {L : Nat} {xs : Nat → Int32} {fr lo : Nat} {h : ax_H} {n sl : Nat} {nd rk nt dk ld tg da db dc dd : Nat} {me up ne ns dn : Int32} {ff tf : Nat → Int32} (hfr : 1 ≤ fr) (hlo : 23 ≤ lo) (hw : ∀ i, i < 280 → ¬ whB ff i) (hF : ax_hs h [(nd, .inr (7, [.int me, .ref rk, .ref nt, .ref dk, .ref ld, .ref tg, .int up, .int ne, .int ns])), (dk, .inr (8, [.ref da, .ref db, .ref dc, .ref dd, .int dn])), (da, .inl (0, 35840, .inl ff)), (tg, .inl (0, 280, .inl tf))]) (hn : h.1 = n) (hs : h.2.1 = sl) (hn0 : 0 < n) : ax_M L xs 19 fr lo [.ref nd] h (fun r h' => r = none ∧ ax_hs h' [(nd, .inr (7, [.int me, .ref rk, .ref nt, .ref dk, .ref ld, .ref tg, .int up, .int ne, .int ns])), (dk, .inr (8, [.ref da, .ref db, .ref dc, .ref dd, .int dn])), (da, .inl (0, 35840, .inl ff)), (tg, .inl (0, 280, .inl (ax_fill tf 0 280 (-1))))] ∧ h'.1 = n ∧ h'.2.1 = sl ∧ ax_fr (fun x => x ∈ [tg]) h h') := by
  show ax_A (ax_step L xs) ((19, 0, fr, lo), [(0, .ref nd)], [], h) _
  refine ar_iconst 1 (v := 0) d_19_0 rfl (by decide) ?_
  refine ar_istore_n 2 [(0, .ref nd), (1, .int 0)] d_19_1 rfl (by decide) rfl ?_
  exact lp_19 hfr hlo hw 280 0 h rfl (by rw [ax_fill_0]; exact hF) hn hs (fun h' j1 j2 j3 j4 => ⟨rfl, j1, j2, j3, j4⟩)
theorem c_18L {L : Nat} {xs : Nat → Int32} {fr lo w q nn gg o n sl nd dk tg da db dc dd : Nat} {ld rk nt tb wk ma sp wa wb a1 a2 a3 a4 a5 a6 a7 : Nat} {me ep st hd cl ni tu md g fl an ws wo w5 w6 w7 w8 w9 w10 w11 w12 w13 w14 : Int32} {ak kn : Int64} {f1 f2 f5 f6 f7 : Nat → Int32} {dn C e2 s2 up ne ns : Int32} {ff tf f fm u b : Nat → Int32} {h : ax_H} {ids : List Nat} {ms : List Mg} (hfr : 5 ≤ fr) (hlo : 108 ≤ lo) (hgg : gg ≤ 16) (hg1 : 0 < gg) (hnn : nn ≤ 6) (hA_nd : ¬ NTA nt w nd) (hA_dk : ¬ NTA nt w dk) (hA_da : ¬ NTA nt w da) (hA_tg : ¬ NTA nt w tg) (hA_ld : ¬ NTA nt w ld) (hA_tb : ¬ NTA nt w tb) (hA_wk : ¬ NTA nt w wk) (hA_a1 : ¬ NTA nt w a1) (hA_a2 : ¬ NTA nt w a2) (hA_a5 : ¬ NTA nt w a5) (hA_a6 : ¬ NTA nt w a6) (hA_a7 : ¬ NTA nt w a7) (hA_ma : ¬ NTA nt w ma) (hA_rk : ¬ NTA nt w rk) (hA_o : ¬ NTA nt w o) (hw : ∀ i, i < 280 → ¬ whB ff i) (hld : nof f 0 s2 nn 0 0 = me) (hl : ids.length + nn < 128) (hN : NTL h nt w ids ms q u b) (hF : ax_hs h [(nd, .inr (7, [.int me, .ref rk, .ref nt, .ref dk, .ref ld, .ref tg, .int up, .int ne, .int ns])), (dk, .inr (8, [.ref da, .ref db, .ref dc, .ref dd, .int dn])), (da, .inl (0, 35840, .inl ff)), (tg, .inl (0, 280, .inl tf)), (ld, .inr (9, [.int me, .ref rk, .ref nt, .ref tb, .ref wk, .ref ma, .ref sp, .int ep, .int st, .int hd, .int cl, .long ak, .int ni, .int tu, .int md])), (tb, .inr (6, [.int g, .ref a1, .ref a2, .ref a3, .ref a4, .ref a5, .ref a6, .ref a7, .long kn, .int fl, .int an])), (wk, .inr (10, [.ref tb, .ref wa, .ref wb, .int ws, .int wo, .int w5, .int w6, .int w7, .int w8, .int w9, .int w10, .int w11, .int w12, .int w13, .int w14])), (a1, .inl (0, 48, .inl f1)), (a2, .inl (0, 48, .inl f2)), (a5, .inl (0, 512, .inl f5)), (a6, .inl (0, 961, .inl f6)), (a7, .inl (0, 961, .inl f7)), (ma, .inl (0, 16, .inl fm)), (rk, .inr (3, [.int (nI nn), .int C, .int (nI gg), .ref o])), (o, .inl (0, gg * nn, .inl f))]) (hn : h.1 = n) (hs : h.2.1 = sl) (hn0 : 0 < n) : ax_M L xs 18 fr lo [.ref nd, .int e2, .int s2] h (fun r h' => ∃ fm' ids' ms', r = none ∧ ax_hs h' [(nd, .inr (7, [.int me, .ref rk, .ref nt, .ref dk, .ref ld, .ref tg, .int 1, .int e2, .int s2])), (dk, .inr (8, [.ref da, .ref db, .ref dc, .ref dd, .int dn])), (da, .inl (0, 35840, .inl ff)), (tg, .inl (0, 280, .inl (ax_fill tf 0 280 (-1)))), (ld, .inr (9, [.int me, .ref rk, .ref nt, .ref tb, .ref wk, .ref ma, .ref sp, .int e2, .int s2, .int 0, .int 0, .long 0, .int 0, .int 0, .int 0])), (tb, .inr (6, [.int g, .ref a1, .ref a2, .ref a3, .ref a4, .ref a5, .ref a6, .ref a7, .long 0, .int 0, .int 0])), (wk, .inr (10, [.ref tb, .ref wa, .ref wb, .int 0, .int (-1), .int w5, .int w6, .int w7, .int w8, .int w9, .int w10, .int w11, .int w12, .int w13, .int w14])), (a1, .inl (0, 48, .inl (ax_fill f1 0 48 (-1)))), (a2, .inl (0, 48, .inl (ax_fill f2 0 48 0))), (a5, .inl (0, 512, .inl (ax_fill f5 0 512 (-1)))), (a6, .inl (0, 961, .inl (ax_fill f6 0 961 (-1)))), (a7, .inl (0, 961, .inl (ax_fill f7 0 961 0))), (ma, .inl (0, 16, .inl fm')), (rk, .inr (3, [.int (nI nn), .int C, .int (nI gg), .ref o])), (o, .inl (0, gg * nn, .inl f))] ∧ NTL h' nt w ids' ms' q u b ∧ ms'.map (·.1) = ms.map (·.1) ++ (List.range' 0 nn).map (fun n => mg 4 me (nI n) e2 s2) ∧ h'.1 = n ∧ h'.2.1 = sl ∧ ax_fr (fun x => NTA nt w x ∨ x ∈ [tg, nd, ld, tb, wk, a1, a2, a5, a6, a7, ma]) h h') := by
  show ax_A (ax_step L xs) ((18, 0, fr, lo), [(0, .ref nd), (1, .int e2), (2, .int s2)], [], h) _
  have hbase : h.1 = n := hn
  have hbasl : h.2.1 = sl := hs
  have hf : ax_fr (fun x => x ∈ [tg, nd, ld, tb, wk, a1, a2, a5, a6, a7, ma]) h h := ax_fr.rf
  refine ar_aload_n 1 d_18_0 rfl rfl ?_
  refine ar_iconst 2 (v := 1) d_18_1 rfl (by decide) ?_
  refine ar_putf 5 [.int me, .ref rk, .ref nt, .ref dk, .ref ld, .ref tg, .int 1, .int ne, .int ns] d_18_2 rfl (ci := 7) (k := 6) rfl rfl (hF.at 0 rfl) (Nat.le_of_ble_eq_true rfl) rfl rfl rfl ?_
  replace hF : ax_hs (ax_put h nd (.inr (7, [.int me, .ref rk, .ref nt, .ref dk, .ref ld, .ref tg, .int 1, .int ne, .int ns]))) [(nd, .inr (7, [.int me, .ref rk, .ref nt, .ref dk, .ref ld, .ref tg, .int 1, .int ne, .int ns])), (dk, .inr (8, [.ref da, .ref db, .ref dc, .ref dd, .int dn])), (da, .inl (0, 35840, .inl ff)), (tg, .inl (0, 280, .inl tf)), (ld, .inr (9, [.int me, .ref rk, .ref nt, .ref tb, .ref wk, .ref ma, .ref sp, .int ep, .int st, .int hd, .int cl, .long ak, .int ni, .int tu, .int md])), (tb, .inr (6, [.int g, .ref a1, .ref a2, .ref a3, .ref a4, .ref a5, .ref a6, .ref a7, .long kn, .int fl, .int an])), (wk, .inr (10, [.ref tb, .ref wa, .ref wb, .int ws, .int wo, .int w5, .int w6, .int w7, .int w8, .int w9, .int w10, .int w11, .int w12, .int w13, .int w14])), (a1, .inl (0, 48, .inl f1)), (a2, .inl (0, 48, .inl f2)), (a5, .inl (0, 512, .inl f5)), (a6, .inl (0, 961, .inl f6)), (a7, .inl (0, 961, .inl f7)), (ma, .inl (0, 16, .inl fm)), (rk, .inr (3, [.int (nI nn), .int C, .int (nI gg), .ref o])), (o, .inl (0, gg * nn, .inl f))] := hF.put 0 _ rfl rfl
  replace hf := hf.put (a := nd) (c := .inr (7, [.int me, .ref rk, .ref nt, .ref dk, .ref ld, .ref tg, .int 1, .int ne, .int ns])) (by simp)
  replace hn : (ax_put h nd (.inr (7, [.int me, .ref rk, .ref nt, .ref dk, .ref ld, .ref tg, .int 1, .int ne, .int ns]))).1 = n := hn
  replace hs : (ax_put h nd (.inr (7, [.int me, .ref rk, .ref nt, .ref dk, .ref ld, .ref tg, .int 1, .int ne, .int ns]))).2.1 = sl := hs
  generalize ax_put h nd (.inr (7, [.int me, .ref rk, .ref nt, .ref dk, .ref ld, .ref tg, .int 1, .int ne, .int ns])) = h1 at hF hf hn hs ⊢
  refine ar_aload_n 6 d_18_5 rfl rfl ?_
  refine ar_call (r := []) (na := 0) (kd := 0) (cm := 19) (fr2 := fr - 1) (lo2 := lo - 22) 9 d_18_6 (ar_hoV (as := []) rfl rfl rfl (hF.at 0 rfl)) rfl (by omega) (show lo - 22 + (19 + 3) = lo by omega) (Nat.le_of_ble_eq_true rfl) (Nat.le_of_ble_eq_true rfl) (c_19 (by omega) (by omega) hw (hF.sub (F' := [(nd, .inr (7, [.int me, .ref rk, .ref nt, .ref dk, .ref ld, .ref tg, .int 1, .int ne, .int ns])), (dk, .inr (8, [.ref da, .ref db, .ref dc, .ref dd, .int dn])), (da, .inl (0, 35840, .inl ff)), (tg, .inl (0, 280, .inl tf))]) [0, 1, 2, 3] rfl rfl) hn hs (by omega)) ?_
  intro v h2 hq
  obtain ⟨rfl, qF, qn, qs, qf⟩ := hq
  have qF : ax_hs h2 [(nd, .inr (7, [.int me, .ref rk, .ref nt, .ref dk, .ref ld, .ref tg, .int 1, .int ne, .int ns])), (dk, .inr (8, [.ref da, .ref db, .ref dc, .ref dd, .int dn])), (da, .inl (0, 35840, .inl ff)), (tg, .inl (0, 280, .inl (ax_fill tf 0 280 (-1))))] := qF
  replace hF : ax_hs h2 [(ld, .inr (9, [.int me, .ref rk, .ref nt, .ref tb, .ref wk, .ref ma, .ref sp, .int ep, .int st, .int hd, .int cl, .long ak, .int ni, .int tu, .int md])), (tb, .inr (6, [.int g, .ref a1, .ref a2, .ref a3, .ref a4, .ref a5, .ref a6, .ref a7, .long kn, .int fl, .int an])), (wk, .inr (10, [.ref tb, .ref wa, .ref wb, .int ws, .int wo, .int w5, .int w6, .int w7, .int w8, .int w9, .int w10, .int w11, .int w12, .int w13, .int w14])), (a1, .inl (0, 48, .inl f1)), (a2, .inl (0, 48, .inl f2)), (a5, .inl (0, 512, .inl f5)), (a6, .inl (0, 961, .inl f6)), (a7, .inl (0, 961, .inl f7)), (ma, .inl (0, 16, .inl fm)), (rk, .inr (3, [.int (nI nn), .int C, .int (nI gg), .ref o])), (o, .inl (0, gg * nn, .inl f)), (nd, .inr (7, [.int me, .ref rk, .ref nt, .ref dk, .ref ld, .ref tg, .int 1, .int ne, .int ns])), (dk, .inr (8, [.ref da, .ref db, .ref dc, .ref dd, .int dn])), (da, .inl (0, 35840, .inl ff)), (tg, .inl (0, 280, .inl (ax_fill tf 0 280 (-1))))] := ax_hs.call (rest := [(ld, .inr (9, [.int me, .ref rk, .ref nt, .ref tb, .ref wk, .ref ma, .ref sp, .int ep, .int st, .int hd, .int cl, .long ak, .int ni, .int tu, .int md])), (tb, .inr (6, [.int g, .ref a1, .ref a2, .ref a3, .ref a4, .ref a5, .ref a6, .ref a7, .long kn, .int fl, .int an])), (wk, .inr (10, [.ref tb, .ref wa, .ref wb, .int ws, .int wo, .int w5, .int w6, .int w7, .int w8, .int w9, .int w10, .int w11, .int w12, .int w13, .int w14])), (a1, .inl (0, 48, .inl f1)), (a2, .inl (0, 48, .inl f2)), (a5, .inl (0, 512, .inl f5)), (a6, .inl (0, 961, .inl f6)), (a7, .inl (0, 961, .inl f7)), (ma, .inl (0, 16, .inl fm)), (rk, .inr (3, [.int (nI nn), .int C, .int (nI gg), .ref o])), (o, .inl (0, gg * nn, .inl f))]) [0, 1, 2, 3] [4, 5, 6, 7, 8, 9, 10, 11, 12, 13, 14] hF qf qF rfl rfl rfl [3] rfl rfl [0, 1, 2, 3] (news := []) rfl rfl (fun _ z => absurd z List.not_mem_nil) rfl
  replace hf := hf.trC qf (by intro x hx hB; simp at hB; first | (rcases hB with rfl <;> first | omega | simp) | omega | simp [hB])
  replace hn : h2.1 = n := by omega
  replace hs : h2.2.1 = sl := by omega
  clear qF qn qs qf
  refine ar_aload_n 10 d_18_9 rfl rfl ?_
  refine ar_iload_n 11 d_18_10 rfl rfl ?_
  refine ar_iload_n 12 d_18_11 rfl rfl ?_
  have hN := hN.fr hf (by intro x hx hB; simp at hB; rcases hB with rfl | rfl | rfl | rfl | rfl | rfl | rfl | rfl | rfl | rfl | rfl <;> exact absurd hx (by assumption))
  refine ar_call (r := []) (na := 0) (kd := 0) (cm := 29) (fr2 := fr - 1) (lo2 := lo - 22) 15 d_18_12 (ar_hoV (as := [.int e2, .int s2]) rfl rfl rfl (hF.at 11 rfl)) rfl (by omega) (show lo - 22 + (19 + 3) = lo by omega) (Nat.le_of_ble_eq_true rfl) (Nat.le_of_ble_eq_true rfl) (c_29L (by omega) (by omega) hgg hg1 hnn hA_nd hA_ld hA_tb hA_wk hA_a1 hA_a2 hA_a5 hA_a6 hA_a7 hA_ma hA_rk hA_o hld hl hN (hF.sub (F' := [(nd, .inr (7, [.int me, .ref rk, .ref nt, .ref dk, .ref ld, .ref tg, .int 1, .int ne, .int ns])), (ld, .inr (9, [.int me, .ref rk, .ref nt, .ref tb, .ref wk, .ref ma, .ref sp, .int ep, .int st, .int hd, .int cl, .long ak, .int ni, .int tu, .int md])), (tb, .inr (6, [.int g, .ref a1, .ref a2, .ref a3, .ref a4, .ref a5, .ref a6, .ref a7, .long kn, .int fl, .int an])), (wk, .inr (10, [.ref tb, .ref wa, .ref wb, .int ws, .int wo, .int w5, .int w6, .int w7, .int w8, .int w9, .int w10, .int w11, .int w12, .int w13, .int w14])), (a1, .inl (0, 48, .inl f1)), (a2, .inl (0, 48, .inl f2)), (a5, .inl (0, 512, .inl f5)), (a6, .inl (0, 961, .inl f6)), (a7, .inl (0, 961, .inl f7)), (ma, .inl (0, 16, .inl fm)), (rk, .inr (3, [.int (nI nn), .int C, .int (nI gg), .ref o])), (o, .inl (0, gg * nn, .inl f))]) [11, 0, 1, 2, 3, 4, 5, 6, 7, 8, 9, 10] rfl rfl) hn hs (by omega)) ?_
  intro v h9 hq
  obtain ⟨fm', ids', ms', rfl, qF, hN2, hms, qn, qs, qf⟩ := hq
  have hR : ax_hs h9 [(dk, .inr (8, [.ref da, .ref db, .ref dc, .ref dd, .int dn])), (da, .inl (0, 35840, .inl ff)), (tg, .inl (0, 280, .inl (ax_fill tf 0 280 (-1))))] := (hF.sub (F' := [(dk, .inr (8, [.ref da, .ref db, .ref dc, .ref dd, .int dn])), (da, .inl (0, 35840, .inl ff)), (tg, .inl (0, 280, .inl (ax_fill tf 0 280 (-1))))]) [12, 13, 14] rfl rfl).fr qf (by intro x hx; simp at hx; rcases hx with rfl | rfl | rfl; exact (fun z => z.elim (fun z => hA_dk z) (fun z => ax_hs.apart hF 12 [11, 0, 1, 2, 3, 4, 5, 6, 7, 8] (by decide) rfl rfl z)); exact (fun z => z.elim (fun z => hA_da z) (fun z => ax_hs.apart hF 13 [11, 0, 1, 2, 3, 4, 5, 6, 7, 8] (by decide) rfl rfl z)); exact (fun z => z.elim (fun z => hA_tg z) (fun z => ax_hs.apart hF 14 [11, 0, 1, 2, 3, 4, 5, 6, 7, 8] (by decide) rfl rfl z)))
  have hF : ax_hs h9 [(dk, .inr (8, [.ref da, .ref db, .ref dc, .ref dd, .int dn])), (da, .inl (0, 35840, .inl ff)), (tg, .inl (0, 280, .inl (ax_fill tf 0 280 (-1)))), (nd, .inr (7, [.int me, .ref rk, .ref nt, .ref dk, .ref ld, .ref tg, .int 1, .int e2, .int s2])), (ld, .inr (9, [.int me, .ref rk, .ref nt, .ref tb, .ref wk, .ref ma, .ref sp, .int e2, .int s2, .int 0, .int 0, .long 0, .int 0, .int 0, .int 0])), (tb, .inr (6, [.int g, .ref a1, .ref a2, .ref a3, .ref a4, .ref a5, .ref a6, .ref a7, .long 0, .int 0, .int 0])), (wk, .inr (10, [.ref tb, .ref wa, .ref wb, .int 0, .int (-1), .int w5, .int w6, .int w7, .int w8, .int w9, .int w10, .int w11, .int w12, .int w13, .int w14])), (a1, .inl (0, 48, .inl (ax_fill f1 0 48 (-1)))), (a2, .inl (0, 48, .inl (ax_fill f2 0 48 0))), (a5, .inl (0, 512, .inl (ax_fill f5 0 512 (-1)))), (a6, .inl (0, 961, .inl (ax_fill f6 0 961 (-1)))), (a7, .inl (0, 961, .inl (ax_fill f7 0 961 0))), (ma, .inl (0, 16, .inl fm')), (rk, .inr (3, [.int (nI nn), .int C, .int (nI gg), .ref o])), (o, .inl (0, gg * nn, .inl f))] := hR.app qF (by intro i j p q hp hq; exact ax_hs.apart2 hF [12, 13, 14] [11, 0, 1, 2, 3, 4, 5, 6, 7, 8, 9, 10] (by decide) rfl rfl hp hq)
  have hF3 := hF.sub (F' := [(nd, .inr (7, [.int me, .ref rk, .ref nt, .ref dk, .ref ld, .ref tg, .int 1, .int e2, .int s2])), (dk, .inr (8, [.ref da, .ref db, .ref dc, .ref dd, .int dn])), (da, .inl (0, 35840, .inl ff)), (tg, .inl (0, 280, .inl (ax_fill tf 0 280 (-1)))), (ld, .inr (9, [.int me, .ref rk, .ref nt, .ref tb, .ref wk, .ref ma, .ref sp, .int e2, .int s2, .int 0, .int 0, .long 0, .int 0, .int 0, .int 0])), (tb, .inr (6, [.int g, .ref a1, .ref a2, .ref a3, .ref a4, .ref a5, .ref a6, .ref a7, .long 0, .int 0, .int 0])), (wk, .inr (10, [.ref tb, .ref wa, .ref wb, .int 0, .int (-1), .int w5, .int w6, .int w7, .int w8, .int w9, .int w10, .int w11, .int w12, .int w13, .int w14])), (a1, .inl (0, 48, .inl (ax_fill f1 0 48 (-1)))), (a2, .inl (0, 48, .inl (ax_fill f2 0 48 0))), (a5, .inl (0, 512, .inl (ax_fill f5 0 512 (-1)))), (a6, .inl (0, 961, .inl (ax_fill f6 0 961 (-1)))), (a7, .inl (0, 961, .inl (ax_fill f7 0 961 0))), (ma, .inl (0, 16, .inl fm')), (rk, .inr (3, [.int (nI nn), .int C, .int (nI gg), .ref o])), (o, .inl (0, gg * nn, .inl f))]) [3, 0, 1, 2, 4, 5, 6, 7, 8, 9, 10, 11, 12, 13, 14] rfl rfl
  exact ar_ret d_18_15 rfl (⟨fm', ids', ms', rfl, hF3, hN2, hms, by omega, by omega, ((hf.mono (fun x hx => Or.inr hx)).tr (qf.mono (fun x hx => hx.elim Or.inl (fun z => Or.inr (List.mem_cons_of_mem _ z)))))⟩)
theorem c_18N {L : Nat} {xs : Nat → Int32} {fr lo nn gg o n sl nd dk tg da db dc dd : Nat} {ld rk nt tb wk ma sp wa wb a1 a2 a3 a4 a5 a6 a7 : Nat} {me ep st hd cl ni tu md g fl an ws wo w5 w6 w7 w8 w9 w10 w11 w12 w13 w14 : Int32} {ak kn : Int64} {f1 f2 f5 f6 f7 : Nat → Int32} {dn C e2 s2 up ne ns : Int32} {ff tf f fm : Nat → Int32} {h : ax_H}  (hfr : 5 ≤ fr) (hlo : 108 ≤ lo) (hgg : gg ≤ 16) (hg1 : 0 < gg) (hnn : nn ≤ 6)  (hw : ∀ i, i < 280 → ¬ whB ff i) (hld : ¬ nof f 0 s2 nn 0 0 = me)  (hF : ax_hs h [(nd, .inr (7, [.int me, .ref rk, .ref nt, .ref dk, .ref ld, .ref tg, .int up, .int ne, .int ns])), (dk, .inr (8, [.ref da, .ref db, .ref dc, .ref dd, .int dn])), (da, .inl (0, 35840, .inl ff)), (tg, .inl (0, 280, .inl tf)), (ld, .inr (9, [.int me, .ref rk, .ref nt, .ref tb, .ref wk, .ref ma, .ref sp, .int ep, .int st, .int hd, .int cl, .long ak, .int ni, .int tu, .int md])), (tb, .inr (6, [.int g, .ref a1, .ref a2, .ref a3, .ref a4, .ref a5, .ref a6, .ref a7, .long kn, .int fl, .int an])), (wk, .inr (10, [.ref tb, .ref wa, .ref wb, .int ws, .int wo, .int w5, .int w6, .int w7, .int w8, .int w9, .int w10, .int w11, .int w12, .int w13, .int w14])), (a1, .inl (0, 48, .inl f1)), (a2, .inl (0, 48, .inl f2)), (a5, .inl (0, 512, .inl f5)), (a6, .inl (0, 961, .inl f6)), (a7, .inl (0, 961, .inl f7)), (ma, .inl (0, 16, .inl fm)), (rk, .inr (3, [.int (nI nn), .int C, .int (nI gg), .ref o])), (o, .inl (0, gg * nn, .inl f))]) (hn : h.1 = n) (hs : h.2.1 = sl) (hn0 : 0 < n) : ax_M L xs 18 fr lo [.ref nd, .int e2, .int s2] h (fun r h' => r = none ∧ ax_hs h' [(nd, .inr (7, [.int me, .ref rk, .ref nt, .ref dk, .ref ld, .ref tg, .int 1, .int e2, .int s2])), (dk, .inr (8, [.ref da, .ref db, .ref dc, .ref dd, .int dn])), (da, .inl (0, 35840, .inl ff)), (tg, .inl (0, 280, .inl (ax_fill tf 0 280 (-1)))), (ld, .inr (9, [.int me, .ref rk, .ref nt, .ref tb, .ref wk, .ref ma, .ref sp, .int ep, .int st, .int 0, .int 0, .long 0, .int 0, .int 0, .int 0])), (tb, .inr (6, [.int g, .ref a1, .ref a2, .ref a3, .ref a4, .ref a5, .ref a6, .ref a7, .long 0, .int 0, .int 0])), (wk, .inr (10, [.ref tb, .ref wa, .ref wb, .int 0, .int (-1), .int w5, .int w6, .int w7, .int w8, .int w9, .int w10, .int w11, .int w12, .int w13, .int w14])), (a1, .inl (0, 48, .inl (ax_fill f1 0 48 (-1)))), (a2, .inl (0, 48, .inl (ax_fill f2 0 48 0))), (a5, .inl (0, 512, .inl (ax_fill f5 0 512 (-1)))), (a6, .inl (0, 961, .inl (ax_fill f6 0 961 (-1)))), (a7, .inl (0, 961, .inl (ax_fill f7 0 961 0))), (ma, .inl (0, 16, .inl fm)), (rk, .inr (3, [.int (nI nn), .int C, .int (nI gg), .ref o])), (o, .inl (0, gg * nn, .inl f))] ∧ h'.1 = n ∧ h'.2.1 = sl ∧ ax_fr (fun x => x ∈ [tg, nd, ld, tb, wk, a1, a2, a5, a6, a7]) h h') := by
  show ax_A (ax_step L xs) ((18, 0, fr, lo), [(0, .ref nd), (1, .int e2), (2, .int s2)], [], h) _
  have hbase : h.1 = n := hn
  have hbasl : h.2.1 = sl := hs
  have hf : ax_fr (fun x => x ∈ [tg, nd, ld, tb, wk, a1, a2, a5, a6, a7]) h h := ax_fr.rf
  refine ar_aload_n 1 d_18_0 rfl rfl ?_
  refine ar_iconst 2 (v := 1) d_18_1 rfl (by decide) ?_
  refine ar_putf 5 [.int me, .ref rk, .ref nt, .ref dk, .ref ld, .ref tg, .int 1, .int ne, .int ns] d_18_2 rfl (ci := 7) (k := 6) rfl rfl (hF.at 0 rfl) (Nat.le_of_ble_eq_true rfl) rfl rfl rfl ?_
  replace hF : ax_hs (ax_put h nd (.inr (7, [.int me, .ref rk, .ref nt, .ref dk, .ref ld, .ref tg, .int 1, .int ne, .int ns]))) [(nd, .inr (7, [.int me, .ref rk, .ref nt, .ref dk, .ref ld, .ref tg, .int 1, .int ne, .int ns])), (dk, .inr (8, [.ref da, .ref db, .ref dc, .ref dd, .int dn])), (da, .inl (0, 35840, .inl ff)), (tg, .inl (0, 280, .inl tf)), (ld, .inr (9, [.int me, .ref rk, .ref nt, .ref tb, .ref wk, .ref ma, .ref sp, .int ep, .int st, .int hd, .int cl, .long ak, .int ni, .int tu, .int md])), (tb, .inr (6, [.int g, .ref a1, .ref a2, .ref a3, .ref a4, .ref a5, .ref a6, .ref a7, .long kn, .int fl, .int an])), (wk, .inr (10, [.ref tb, .ref wa, .ref wb, .int ws, .int wo, .int w5, .int w6, .int w7, .int w8, .int w9, .int w10, .int w11, .int w12, .int w13, .int w14])), (a1, .inl (0, 48, .inl f1)), (a2, .inl (0, 48, .inl f2)), (a5, .inl (0, 512, .inl f5)), (a6, .inl (0, 961, .inl f6)), (a7, .inl (0, 961, .inl f7)), (ma, .inl (0, 16, .inl fm)), (rk, .inr (3, [.int (nI nn), .int C, .int (nI gg), .ref o])), (o, .inl (0, gg * nn, .inl f))] := hF.put 0 _ rfl rfl
  replace hf := hf.put (a := nd) (c := .inr (7, [.int me, .ref rk, .ref nt, .ref dk, .ref ld, .ref tg, .int 1, .int ne, .int ns])) (by simp)
  replace hn : (ax_put h nd (.inr (7, [.int me, .ref rk, .ref nt, .ref dk, .ref ld, .ref tg, .int 1, .int ne, .int ns]))).1 = n := hn
  replace hs : (ax_put h nd (.inr (7, [.int me, .ref rk, .ref nt, .ref dk, .ref ld, .ref tg, .int 1, .int ne, .int ns]))).2.1 = sl := hs
  generalize ax_put h nd (.inr (7, [.int me, .ref rk, .ref nt, .ref dk, .ref ld, .ref tg, .int 1, .int ne, .int ns])) = h1 at hF hf hn hs ⊢
  refine ar_aload_n 6 d_18_5 rfl rfl ?_
  refine ar_call (r := []) (na := 0) (kd := 0) (cm := 19) (fr2 := fr - 1) (lo2 := lo - 22) 9 d_18_6 (ar_hoV (as := []) rfl rfl rfl (hF.at 0 rfl)) rfl (by omega) (show lo - 22 + (19 + 3) = lo by omega) (Nat.le_of_ble_eq_true rfl) (Nat.le_of_ble_eq_true rfl) (c_19 (by omega) (by omega) hw (hF.sub (F' := [(nd, .inr (7, [.int me, .ref rk, .ref nt, .ref dk, .ref ld, .ref tg, .int 1, .int ne, .int ns])), (dk, .inr (8, [.ref da, .ref db, .ref dc, .ref dd, .int dn])), (da, .inl (0, 35840, .inl ff)), (tg, .inl (0, 280, .inl tf))]) [0, 1, 2, 3] rfl rfl) hn hs (by omega)) ?_
  intro v h2 hq
  obtain ⟨rfl, qF, qn, qs, qf⟩ := hq
  have qF : ax_hs h2 [(nd, .inr (7, [.int me, .ref rk, .ref nt, .ref dk, .ref ld, .ref tg, .int 1, .int ne, .int ns])), (dk, .inr (8, [.ref da, .ref db, .ref dc, .ref dd, .int dn])), (da, .inl (0, 35840, .inl ff)), (tg, .inl (0, 280, .inl (ax_fill tf 0 280 (-1))))] := qF
  replace hF : ax_hs h2 [(ld, .inr (9, [.int me, .ref rk, .ref nt, .ref tb, .ref wk, .ref ma, .ref sp, .int ep, .int st, .int hd, .int cl, .long ak, .int ni, .int tu, .int md])), (tb, .inr (6, [.int g, .ref a1, .ref a2, .ref a3, .ref a4, .ref a5, .ref a6, .ref a7, .long kn, .int fl, .int an])), (wk, .inr (10, [.ref tb, .ref wa, .ref wb, .int ws, .int wo, .int w5, .int w6, .int w7, .int w8, .int w9, .int w10, .int w11, .int w12, .int w13, .int w14])), (a1, .inl (0, 48, .inl f1)), (a2, .inl (0, 48, .inl f2)), (a5, .inl (0, 512, .inl f5)), (a6, .inl (0, 961, .inl f6)), (a7, .inl (0, 961, .inl f7)), (ma, .inl (0, 16, .inl fm)), (rk, .inr (3, [.int (nI nn), .int C, .int (nI gg), .ref o])), (o, .inl (0, gg * nn, .inl f)), (nd, .inr (7, [.int me, .ref rk, .ref nt, .ref dk, .ref ld, .ref tg, .int 1, .int ne, .int ns])), (dk, .inr (8, [.ref da, .ref db, .ref dc, .ref dd, .int dn])), (da, .inl (0, 35840, .inl ff)), (tg, .inl (0, 280, .inl (ax_fill tf 0 280 (-1))))] := ax_hs.call (rest := [(ld, .inr (9, [.int me, .ref rk, .ref nt, .ref tb, .ref wk, .ref ma, .ref sp, .int ep, .int st, .int hd, .int cl, .long ak, .int ni, .int tu, .int md])), (tb, .inr (6, [.int g, .ref a1, .ref a2, .ref a3, .ref a4, .ref a5, .ref a6, .ref a7, .long kn, .int fl, .int an])), (wk, .inr (10, [.ref tb, .ref wa, .ref wb, .int ws, .int wo, .int w5, .int w6, .int w7, .int w8, .int w9, .int w10, .int w11, .int w12, .int w13, .int w14])), (a1, .inl (0, 48, .inl f1)), (a2, .inl (0, 48, .inl f2)), (a5, .inl (0, 512, .inl f5)), (a6, .inl (0, 961, .inl f6)), (a7, .inl (0, 961, .inl f7)), (ma, .inl (0, 16, .inl fm)), (rk, .inr (3, [.int (nI nn), .int C, .int (nI gg), .ref o])), (o, .inl (0, gg * nn, .inl f))]) [0, 1, 2, 3] [4, 5, 6, 7, 8, 9, 10, 11, 12, 13, 14] hF qf qF rfl rfl rfl [3] rfl rfl [0, 1, 2, 3] (news := []) rfl rfl (fun _ z => absurd z List.not_mem_nil) rfl
  replace hf := hf.trC qf (by intro x hx hB; simp at hB; first | (rcases hB with rfl <;> first | omega | simp) | omega | simp [hB])
  replace hn : h2.1 = n := by omega
  replace hs : h2.2.1 = sl := by omega
  clear qF qn qs qf
  refine ar_aload_n 10 d_18_9 rfl rfl ?_
  refine ar_iload_n 11 d_18_10 rfl rfl ?_
  refine ar_iload_n 12 d_18_11 rfl rfl ?_
  refine ar_call (r := []) (na := 0) (kd := 0) (cm := 29) (fr2 := fr - 1) (lo2 := lo - 22) 15 d_18_12 (ar_hoV (as := [.int e2, .int s2]) rfl rfl rfl (hF.at 11 rfl)) rfl (by omega) (show lo - 22 + (19 + 3) = lo by omega) (Nat.le_of_ble_eq_true rfl) (Nat.le_of_ble_eq_true rfl) (c_29N (w := 0) (q := 0) (u := fun _ => 0) (b := fun _ => 0) (by omega) (by omega) hgg hg1 hnn hld (hF.sub (F' := [(nd, .inr (7, [.int me, .ref rk, .ref nt, .ref dk, .ref ld, .ref tg, .int 1, .int ne, .int ns])), (ld, .inr (9, [.int me, .ref rk, .ref nt, .ref tb, .ref wk, .ref ma, .ref sp, .int ep, .int st, .int hd, .int cl, .long ak, .int ni, .int tu, .int md])), (tb, .inr (6, [.int g, .ref a1, .ref a2, .ref a3, .ref a4, .ref a5, .ref a6, .ref a7, .long kn, .int fl, .int an])), (wk, .inr (10, [.ref tb, .ref wa, .ref wb, .int ws, .int wo, .int w5, .int w6, .int w7, .int w8, .int w9, .int w10, .int w11, .int w12, .int w13, .int w14])), (a1, .inl (0, 48, .inl f1)), (a2, .inl (0, 48, .inl f2)), (a5, .inl (0, 512, .inl f5)), (a6, .inl (0, 961, .inl f6)), (a7, .inl (0, 961, .inl f7)), (ma, .inl (0, 16, .inl fm)), (rk, .inr (3, [.int (nI nn), .int C, .int (nI gg), .ref o])), (o, .inl (0, gg * nn, .inl f))]) [11, 0, 1, 2, 3, 4, 5, 6, 7, 8, 9, 10] rfl rfl) hn hs (by omega)) ?_
  intro v h3 hq
  obtain ⟨rfl, qF, qn, qs, qf⟩ := hq
  have qF : ax_hs h3 [(nd, .inr (7, [.int me, .ref rk, .ref nt, .ref dk, .ref ld, .ref tg, .int 1, .int e2, .int s2])), (ld, .inr (9, [.int me, .ref rk, .ref nt, .ref tb, .ref wk, .ref ma, .ref sp, .int ep, .int st, .int 0, .int 0, .long 0, .int 0, .int 0, .int 0])), (tb, .inr (6, [.int g, .ref a1, .ref a2, .ref a3, .ref a4, .ref a5, .ref a6, .ref a7, .long 0, .int 0, .int 0])), (wk, .inr (10, [.ref tb, .ref wa, .ref wb, .int 0, .int (-1), .int w5, .int w6, .int w7, .int w8, .int w9, .int w10, .int w11, .int w12, .int w13, .int w14])), (a1, .inl (0, 48, .inl (ax_fill f1 0 48 (-1)))), (a2, .inl (0, 48, .inl (ax_fill f2 0 48 0))), (a5, .inl (0, 512, .inl (ax_fill f5 0 512 (-1)))), (a6, .inl (0, 961, .inl (ax_fill f6 0 961 (-1)))), (a7, .inl (0, 961, .inl (ax_fill f7 0 961 0))), (ma, .inl (0, 16, .inl fm)), (rk, .inr (3, [.int (nI nn), .int C, .int (nI gg), .ref o])), (o, .inl (0, gg * nn, .inl f))] := qF
  replace hF : ax_hs h3 [(dk, .inr (8, [.ref da, .ref db, .ref dc, .ref dd, .int dn])), (da, .inl (0, 35840, .inl ff)), (tg, .inl (0, 280, .inl (ax_fill tf 0 280 (-1)))), (nd, .inr (7, [.int me, .ref rk, .ref nt, .ref dk, .ref ld, .ref tg, .int 1, .int e2, .int s2])), (ld, .inr (9, [.int me, .ref rk, .ref nt, .ref tb, .ref wk, .ref ma, .ref sp, .int ep, .int st, .int 0, .int 0, .long 0, .int 0, .int 0, .int 0])), (tb, .inr (6, [.int g, .ref a1, .ref a2, .ref a3, .ref a4, .ref a5, .ref a6, .ref a7, .long 0, .int 0, .int 0])), (wk, .inr (10, [.ref tb, .ref wa, .ref wb, .int 0, .int (-1), .int w5, .int w6, .int w7, .int w8, .int w9, .int w10, .int w11, .int w12, .int w13, .int w14])), (a1, .inl (0, 48, .inl (ax_fill f1 0 48 (-1)))), (a2, .inl (0, 48, .inl (ax_fill f2 0 48 0))), (a5, .inl (0, 512, .inl (ax_fill f5 0 512 (-1)))), (a6, .inl (0, 961, .inl (ax_fill f6 0 961 (-1)))), (a7, .inl (0, 961, .inl (ax_fill f7 0 961 0))), (ma, .inl (0, 16, .inl fm)), (rk, .inr (3, [.int (nI nn), .int C, .int (nI gg), .ref o])), (o, .inl (0, gg * nn, .inl f))] := ax_hs.call (rest := [(dk, .inr (8, [.ref da, .ref db, .ref dc, .ref dd, .int dn])), (da, .inl (0, 35840, .inl ff)), (tg, .inl (0, 280, .inl (ax_fill tf 0 280 (-1))))]) [11, 0, 1, 2, 3, 4, 5, 6, 7, 8, 9, 10] [12, 13, 14] hF qf qF rfl rfl rfl [11, 0, 1, 2, 3, 4, 5, 6, 7] rfl rfl [11, 0, 1, 2, 3, 4, 5, 6, 7, 8, 9, 10] (news := []) rfl rfl (fun _ z => absurd z List.not_mem_nil) rfl
  replace hf := hf.trC qf (by intro x hx hB; simp at hB; first | (rcases hB with rfl | rfl | rfl | rfl | rfl | rfl | rfl | rfl | rfl <;> first | omega | simp) | omega | simp [hB])
  replace hn : h3.1 = n := by omega
  replace hs : h3.2.1 = sl := by omega
  clear qF qn qs qf
  have hF3 := hF.sub (F' := [(nd, .inr (7, [.int me, .ref rk, .ref nt, .ref dk, .ref ld, .ref tg, .int 1, .int e2, .int s2])), (dk, .inr (8, [.ref da, .ref db, .ref dc, .ref dd, .int dn])), (da, .inl (0, 35840, .inl ff)), (tg, .inl (0, 280, .inl (ax_fill tf 0 280 (-1)))), (ld, .inr (9, [.int me, .ref rk, .ref nt, .ref tb, .ref wk, .ref ma, .ref sp, .int ep, .int st, .int 0, .int 0, .long 0, .int 0, .int 0, .int 0])), (tb, .inr (6, [.int g, .ref a1, .ref a2, .ref a3, .ref a4, .ref a5, .ref a6, .ref a7, .long 0, .int 0, .int 0])), (wk, .inr (10, [.ref tb, .ref wa, .ref wb, .int 0, .int (-1), .int w5, .int w6, .int w7, .int w8, .int w9, .int w10, .int w11, .int w12, .int w13, .int w14])), (a1, .inl (0, 48, .inl (ax_fill f1 0 48 (-1)))), (a2, .inl (0, 48, .inl (ax_fill f2 0 48 0))), (a5, .inl (0, 512, .inl (ax_fill f5 0 512 (-1)))), (a6, .inl (0, 961, .inl (ax_fill f6 0 961 (-1)))), (a7, .inl (0, 961, .inl (ax_fill f7 0 961 0))), (ma, .inl (0, 16, .inl fm)), (rk, .inr (3, [.int (nI nn), .int C, .int (nI gg), .ref o])), (o, .inl (0, gg * nn, .inl f))]) [3, 0, 1, 2, 4, 5, 6, 7, 8, 9, 10, 11, 12, 13, 14] rfl rfl
  exact ar_ret d_18_15 rfl (⟨rfl, hF3, hn, hs, hf⟩)


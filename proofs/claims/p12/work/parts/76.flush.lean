/-! NODES, exactly: flushAndTell -/
theorem c_60X {L : Nat} {xs : Nat → Int32} {fr lo : Nat} {h : ax_H} {nd rk nt w dk ld tg da db dc dd q nn gg o e : Nat} {me up ne ns : Int32} {u b : Nat → Int32} {ids : List Nat} {ms : List Mg} {C : Int32} {tf ff rf sw ow f : Nat → Int32} (hfr : 2 ≤ fr) (hlo : 60 ≤ lo) (hgg : gg ≤ 16) (hg1 : 0 < gg) (hnn : nn ≤ 6) (he : e ≤ 32) (he0 : 0 < e) (hsw : ∀ j, j < e → ¬ sw j < 0 ∧ (sw j).toNatClampNeg < 280) (hA_nd : ¬ NTA nt w nd) (hA_tg : ¬ NTA nt w tg) (hA_dk : ¬ NTA nt w dk) (hA_da : ¬ NTA nt w da) (hA_db : ¬ NTA nt w db) (hA_dc : ¬ NTA nt w dc) (hA_dd : ¬ NTA nt w dd) (hA_rk : ¬ NTA nt w rk) (hA_o : ¬ NTA nt w o) (hN : NTL h nt w ids ms q u b) (hF : ax_hs h [(nd, .inr (7, [.int me, .ref rk, .ref nt, .ref dk, .ref ld, .ref tg, .int up, .int ne, .int ns])), (tg, .inl (0, 280, .inl tf)), (dk, .inr (8, [.ref da, .ref db, .ref dc, .ref dd, .int (nI e)])), (da, .inl (0, 35840, .inl ff)), (db, .inl (0, 4096, .inl rf)), (dc, .inl (0, 32, .inl sw)), (dd, .inl (0, 280, .inl ow)), (rk, .inr (3, [.int (nI nn), .int C, .int (nI gg), .ref o])), (o, .inl (0, gg * nn, .inl f))]) : ax_M L xs 60 fr lo [.ref nd] h (fun r h' => ∃ (ids' : List Nat) (bm : Nat → Int32), r = none ∧ ax_hs h' [(nd, .inr (7, [.int me, .ref rk, .ref nt, .ref dk, .ref ld, .ref tg, .int up, .int ne, .int ns])), (tg, .inl (0, 280, .inl tf)), (dk, .inr (8, [.ref da, .ref db, .ref dc, .ref dd, .int 0])), (da, .inl (0, 35840, .inl (flsF rf sw e ff))), (db, .inl (0, 4096, .inl rf)), (dc, .inl (0, 32, .inl sw)), (dd, .inl (0, 280, .inl (flsO sw e ow))), (rk, .inr (3, [.int (nI nn), .int C, .int (nI gg), .ref o])), (o, .inl (0, gg * nn, .inl f))] ∧ NTL h' nt w ids' (pst ms (va_up (mg 11 me (nof f 0 ns nn 0 0) ne ns) 7 (nI (ftC tf sw e 0 0)), ftF tf sw e 0 0 bm)) q u b ∧ ax_fr (fun x => NTA nt w x ∨ x ∈ [dk, da, dd]) h h' ∧ h'.1 = h.1 ∧ h'.2.1 = h.2.1) := by
  show ax_A (ax_step L xs) ((60, 0, fr, lo), [(0, .ref nd)], [], h) _
  obtain ⟨za, zc, hnet⟩ := hN.net
  refine ar_aload_n 1 d_60_0 rfl rfl ?_
  refine ar_getf 4 d_60_1 rfl (ci := 7) (k := 3) rfl (hF.at 0 rfl) rfl ?_
  refine ar_getf 7 d_60_4 rfl (ci := 8) (k := 4) rfl (hF.at 2 rfl) rfl ?_
  refine ar_if_ne 11 10 d_60_7 (by decide) rfl (fun _ => ?_) (fun c => absurd (nI_nz9 he0 (by omega)) c)
  refine ar_aload_n 12 d_60_11 rfl rfl ?_
  refine ar_getf 15 d_60_12 rfl (ci := 7) (k := 2) rfl (hF.at 0 rfl) rfl ?_
  refine ar_bipush 17 (v := 11) d_60_15 rfl (by decide) ?_
  refine ar_aload_n 18 d_60_17 rfl rfl ?_
  refine ar_getf 21 d_60_18 rfl (ci := 7) (k := 0) rfl (hF.at 0 rfl) rfl ?_
  refine ar_aload_n 22 d_60_21 rfl rfl ?_
  refine ar_getf 25 d_60_22 rfl (ci := 7) (k := 1) rfl (hF.at 0 rfl) rfl ?_
  refine ar_iconst 26 (v := 0) d_60_25 rfl (by decide) ?_
  refine ar_iconst 27 (v := 0) d_60_26 rfl (by decide) ?_
  refine ar_aload_n 28 d_60_27 rfl rfl ?_
  refine ar_getf 31 d_60_28 rfl (ci := 7) (k := 8) rfl (hF.at 0 rfl) rfl ?_
  refine ar_call (r := [.int me, .int 11, .ref nt]) (na := 0) (kd := 0) (cm := 31) (fr2 := fr - 1) (lo2 := lo - 26) 34 d_60_31 (ar_hoV (as := [.int 0, .int 0, .int ns]) rfl rfl rfl (hF.at 7 rfl)) rfl (by omega) (show lo - 26 + (19 + 7) = lo by omega) (Nat.le_of_ble_eq_true rfl) (Nat.le_of_ble_eq_true rfl) (c_31 (g := 0) hgg hnn hg1 (hF.sub (F' := [(rk, .inr (3, [.int (nI nn), .int C, .int (nI gg), .ref o])), (o, .inl (0, gg * nn, .inl f))]) [7, 8] rfl rfl)) ?_
  intro v hh hq
  obtain ⟨rfl, ehh⟩ := hq
  rw [ehh]
  clear ehh
  refine ar_top (x' := nof f 0 ns nn 0 0) (by rw [show (0 : Nat) * nn = 0 by omega]) ?_
  refine ar_aload_n 35 d_60_34 rfl rfl ?_
  refine ar_getf 38 d_60_35 rfl (ci := 7) (k := 7) rfl (hF.at 0 rfl) rfl ?_
  refine ar_aload_n 39 d_60_38 rfl rfl ?_
  refine ar_getf 42 d_60_39 rfl (ci := 7) (k := 8) rfl (hF.at 0 rfl) rfl ?_
  refine ar_call (r := []) (na := 0) (kd := 0) (cm := 36) (fr2 := fr - 1) (lo2 := lo - 26) 45 d_60_42 (ar_hoV (as := [.int 11, .int me, .int (nof f 0 ns nn 0 0), .int ne, .int ns]) rfl rfl rfl hnet) rfl (by omega) (show lo - 26 + (19 + 7) = lo by omega) (Nat.le_of_ble_eq_true rfl) (Nat.le_of_ble_eq_true rfl) (c_36H hN) ?_
  intro v h2 hq
  obtain ⟨m, bm, ids2, hm, rfl, hmq, hmm, hed, hf2, hz1, hz2⟩ := hq
  have hNm : NTA nt w (w + 1 + 2 * m) := Or.inr (by omega)
  have hNm1 : NTA nt w (w + 1 + 2 * m + 1) := Or.inr (by omega)
  have hF2 : ax_hs h2 [(nd, .inr (7, [.int me, .ref rk, .ref nt, .ref dk, .ref ld, .ref tg, .int up, .int ne, .int ns])), (tg, .inl (0, 280, .inl tf)), (dk, .inr (8, [.ref da, .ref db, .ref dc, .ref dd, .int (nI e)])), (da, .inl (0, 35840, .inl ff)), (db, .inl (0, 4096, .inl rf)), (dc, .inl (0, 32, .inl sw)), (dd, .inl (0, 280, .inl ow)), (rk, .inr (3, [.int (nI nn), .int C, .int (nI gg), .ref o])), (o, .inl (0, gg * nn, .inl f))] := hF.fr hf2 (by intro x hx; simp only [List.mem_cons, List.not_mem_nil, or_false] at hx; rcases hx with rfl | rfl | rfl | rfl | rfl | rfl | rfl | rfl | rfl <;> assumption)
  have hF3 : ax_hs h2 [(w + 1 + 2 * m + 1, .inl (0, 617, .inl bm)), (nd, .inr (7, [.int me, .ref rk, .ref nt, .ref dk, .ref ld, .ref tg, .int up, .int ne, .int ns])), (tg, .inl (0, 280, .inl tf)), (dk, .inr (8, [.ref da, .ref db, .ref dc, .ref dd, .int (nI e)])), (da, .inl (0, 35840, .inl ff)), (db, .inl (0, 4096, .inl rf)), (dc, .inl (0, 32, .inl sw)), (dd, .inl (0, 280, .inl ow)), (rk, .inr (3, [.int (nI nn), .int C, .int (nI gg), .ref o])), (o, .inl (0, gg * nn, .inl f))] := ax_hs.consN (nt := nt) (w := w) hmm.2 hF2 hNm1 (by intro x hx; simp only [List.mem_cons, List.not_mem_nil, or_false] at hx; rcases hx with rfl | rfl | rfl | rfl | rfl | rfl | rfl | rfl | rfl <;> assumption)
  replace hF3 : ax_hs h2 [(w + 1 + 2 * m, .inr (2, [.int 11, .int me, .int (nof f 0 ns nn 0 0), .int ne, .int ns, .int (-1), .int 0, .int 0, .ref (w + 1 + 2 * m + 1)])), (w + 1 + 2 * m + 1, .inl (0, 617, .inl bm)), (nd, .inr (7, [.int me, .ref rk, .ref nt, .ref dk, .ref ld, .ref tg, .int up, .int ne, .int ns])), (tg, .inl (0, 280, .inl tf)), (dk, .inr (8, [.ref da, .ref db, .ref dc, .ref dd, .int (nI e)])), (da, .inl (0, 35840, .inl ff)), (db, .inl (0, 4096, .inl rf)), (dc, .inl (0, 32, .inl sw)), (dd, .inl (0, 280, .inl ow)), (rk, .inr (3, [.int (nI nn), .int C, .int (nI gg), .ref o])), (o, .inl (0, gg * nn, .inl f))] := ax_hs.cons (show ax_g h2 (w + 1 + 2 * m) = some (.inr (2, [.int 11, .int me, .int (nof f 0 ns nn 0 0), .int ne, .int ns, .int (-1), .int 0, .int 0, .ref (w + 1 + 2 * m + 1)])) from hmm.1) hF3 (by intro x hx e; simp only [List.mem_cons, List.not_mem_nil, or_false] at hx; rcases hx with rfl | rfl | rfl | rfl | rfl | rfl | rfl | rfl | rfl | rfl; exact absurd e (by dsimp only; omega); all_goals exact absurd (e ▸ hNm) (by assumption))
  refine ar_astore_n 46 [(0, .ref nd), (1, .ref (w + 1 + 2 * m))] d_60_45 rfl (by decide) rfl ?_
  refine ar_iconst 47 (v := 0) d_60_46 rfl (by decide) ?_
  refine ar_istore_n 48 [(0, .ref nd), (1, .ref (w + 1 + 2 * m)), (2, .int 0)] d_60_47 rfl (by decide) rfl ?_
  have hF4 := hF3.sub (F' := [(w + 1 + 2 * m, .inr (2, [.int 11, .int me, .int (nof f 0 ns nn 0 0), .int ne, .int ns, .int (-1), .int 0, .int 0, .ref (w + 1 + 2 * m + 1)])), (w + 1 + 2 * m + 1, .inl (0, 617, .inl bm)), (nd, .inr (7, [.int me, .ref rk, .ref nt, .ref dk, .ref ld, .ref tg, .int up, .int ne, .int ns])), (dk, .inr (8, [.ref da, .ref db, .ref dc, .ref dd, .int (nI e)])), (tg, .inl (0, 280, .inl tf)), (dc, .inl (0, 32, .inl sw))]) [0, 1, 2, 4, 3, 7] rfl rfl
  refine lp_60 (by omega) (by omega) he hsw e 0 0 h2 bm (by omega) (by omega) hF4 rfl rfl (fun h' qF qn qs qf => ?_)
  have hR := (hF3.sub (F' := [(da, .inl (0, 35840, .inl ff)), (db, .inl (0, 4096, .inl rf)), (dd, .inl (0, 280, .inl ow)), (rk, .inr (3, [.int (nI nn), .int C, .int (nI gg), .ref o])), (o, .inl (0, gg * nn, .inl f))]) [5, 6, 8, 9, 10] rfl rfl).fr qf (by intro x hx z; exact ax_hs.apartA hF3 [5, 6, 8, 9, 10] [0, 1] (by decide) rfl rfl x.1 (List.mem_map.mpr ⟨x, hx, rfl⟩) z)
  have hG := hR.app qF (by intro i j p q hp hq; exact ax_hs.apart2 hF3 [5, 6, 8, 9, 10] [0, 1, 2, 4, 3, 7] (by decide) rfl rfl hp hq)
  refine ar_aload_n 104 d_60_103 rfl rfl ?_
  refine ar_getf 107 d_60_104 rfl (ci := 7) (k := 3) rfl (hG.at 7 rfl) rfl ?_
  refine ar_call (r := []) (na := 0) (kd := 0) (cm := 24) (fr2 := fr - 1) (lo2 := lo - 21) 110 d_60_107 (ar_hoV (as := []) rfl rfl rfl (hG.at 8 rfl)) rfl (by omega) (show lo - 21 + (19 + 2) = lo by omega) (Nat.le_of_ble_eq_true rfl) (Nat.le_of_ble_eq_true rfl) (c_24 (by omega) (by omega) he hsw (hG.sub (F' := [(dk, .inr (8, [.ref da, .ref db, .ref dc, .ref dd, .int (nI e)])), (da, .inl (0, 35840, .inl ff)), (db, .inl (0, 4096, .inl rf)), (dc, .inl (0, 32, .inl sw)), (dd, .inl (0, 280, .inl ow))]) [8, 0, 1, 10, 2] rfl rfl) rfl rfl (by have := (ax_g_lt (hG.at 0 rfl)).2; omega)) ?_
  intro v h3 hq
  obtain ⟨rfl, qF3, qn3, qs3, qf3⟩ := hq
  have hK := (hG.sub (F' := [(nd, .inr (7, [.int me, .ref rk, .ref nt, .ref dk, .ref ld, .ref tg, .int up, .int ne, .int ns])), (tg, .inl (0, 280, .inl tf)), (rk, .inr (3, [.int (nI nn), .int C, .int (nI gg), .ref o])), (o, .inl (0, gg * nn, .inl f))]) [7, 9, 3, 4] rfl rfl).fr qf3 (by intro x hx z; exact ax_hs.apartA hG [7, 9, 3, 4] [8, 0, 2] (by decide) rfl rfl x.1 (List.mem_map.mpr ⟨x, hx, rfl⟩) z)
  have hZ := hK.app qF3 (by intro i j p q hp hq; exact ax_hs.apart2 hG [7, 9, 3, 4] [8, 0, 1, 10, 2] (by decide) rfl rfl hp hq)
  have hF9 := hZ.sub (F' := [(nd, .inr (7, [.int me, .ref rk, .ref nt, .ref dk, .ref ld, .ref tg, .int up, .int ne, .int ns])), (tg, .inl (0, 280, .inl tf)), (dk, .inr (8, [.ref da, .ref db, .ref dc, .ref dd, .int 0])), (da, .inl (0, 35840, .inl (flsF rf sw e ff))), (db, .inl (0, 4096, .inl rf)), (dc, .inl (0, 32, .inl sw)), (dd, .inl (0, 280, .inl (flsO sw e ow))), (rk, .inr (3, [.int (nI nn), .int C, .int (nI gg), .ref o])), (o, .inl (0, gg * nn, .inl f))]) [0, 1, 4, 5, 6, 7, 8, 2, 3] rfl rfl
  have hE := hed h' (va_up (mg 11 me (nof f 0 ns nn 0 0) ne ns) 7 (nI (ftC tf sw e 0 0))) (ftF tf sw e 0 0 bm) (qf.mono (by intro x hx; simpa using hx)) ⟨qF.at 0 rfl, qF.at 1 rfl⟩
  have hE3 := hE.fr qf3 (by intro x hx hB; simp only [List.mem_cons, List.not_mem_nil, or_false] at hB; rcases hB with rfl | rfl | rfl <;> exact absurd hx (by assumption))
  exact ar_ret d_60_110 rfl (⟨_, bm, rfl, hF9, hE3, ((hf2.mono (fun x hx => Or.inl hx)).tr (qf.mono (by intro x hx; simp only [List.mem_cons, List.not_mem_nil, or_false] at hx; rcases hx with rfl | rfl; exact Or.inl hNm; exact Or.inl hNm1))).tr (qf3.mono (fun x hx => Or.inr hx)), qn3.trans (qn.trans hz1), qs3.trans (qs.trans hz2)⟩)


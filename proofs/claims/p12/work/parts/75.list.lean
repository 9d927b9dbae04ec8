/-! NODES, exactly: list, flushAndTell -/
/-- what a NODE tells of: how many from the place i on, and which -/
def lsC (tf ow : Nat → Int32) : Nat → Nat → Nat → Nat
  | 0, _, c => c
  | k + 1, i, c => if tf i < 0 ∨ ¬ ow i < 0 then lsC tf ow k (i + 1) c else lsC tf ow k (i + 1) (c + 1)
def lsF (tf ow : Nat → Int32) : Nat → Nat → Nat → (Nat → Int32) → (Nat → Int32)
  | 0, _, _, bf => bf
  | k + 1, i, c, bf => if tf i < 0 ∨ ¬ ow i < 0 then lsF tf ow k (i + 1) c bf else lsF tf ow k (i + 1) (c + 1) (upd bf c (tf i))
theorem lp_56 {L : Nat} {xs : Nat → Int32} {fr lo n sl : Nat} {nd rk nt w dk ld tg da db dc dd m : Nat} {me up ne ns dn to : Int32} {tf ow : Nat → Int32} {post : ax_Po} (hfr : 1 ≤ fr) (hlo : 30 ≤ lo) : ∀ (k i c : Nat) (h : ax_H) (bf : Nat → Int32), i + k = 280 → c ≤ i → ax_hs h [(w + 1 + 2 * m, .inr (2, [.int 5, .int me, .int to, .int ne, .int ns, .int (-1), .int 0, .int (nI c), .ref (w + 1 + 2 * m + 1)])), (w + 1 + 2 * m + 1, .inl (0, 617, .inl bf)), (nd, .inr (7, [.int me, .ref rk, .ref nt, .ref dk, .ref ld, .ref tg, .int up, .int ne, .int ns])), (dk, .inr (8, [.ref da, .ref db, .ref dc, .ref dd, .int dn])), (tg, .inl (0, 280, .inl tf)), (dd, .inl (0, 280, .inl ow))] → h.1 = n → h.2.1 = sl → (∀ h', ax_hs h' [(w + 1 + 2 * m, .inr (2, [.int 5, .int me, .int to, .int ne, .int ns, .int (-1), .int 0, .int (nI (lsC tf ow k i c)), .ref (w + 1 + 2 * m + 1)])), (w + 1 + 2 * m + 1, .inl (0, 617, .inl (lsF tf ow k i c bf))), (nd, .inr (7, [.int me, .ref rk, .ref nt, .ref dk, .ref ld, .ref tg, .int up, .int ne, .int ns])), (dk, .inr (8, [.ref da, .ref db, .ref dc, .ref dd, .int dn])), (tg, .inl (0, 280, .inl tf)), (dd, .inl (0, 280, .inl ow))] → h'.1 = n → h'.2.1 = sl → ax_fr (fun x => x ∈ [w + 1 + 2 * m, w + 1 + 2 * m + 1]) h h' → ax_A (ax_step L xs) ((56, 82, fr, lo), [(0, .ref nd), (1, .int to), (2, .ref (w + 1 + 2 * m)), (3, .int (nI 280))], [], h') post) → ax_A (ax_step L xs) ((56, 24, fr, lo), [(0, .ref nd), (1, .int to), (2, .ref (w + 1 + 2 * m)), (3, .int (nI i))], [], h) post := by
  intro k
  induction k with
  | zero =>
    intro i c h bf hi hc hF hn hs kk
    have e : i = 280 := by omega
    subst e
    refine ar_iload_n 25 d_56_24 rfl rfl ?_
    refine ar_sipush 28 (v := 280) d_56_25 rfl (by decide) ?_
    refine ar_top (x' := nI 280) rfl ?_
    refine ar_icmp_ge 82 31 d_56_28 (by decide) rfl (fun _ => ?_) (fun c => absurd (Int32.le_refl _) c)
    exact kk h hF hn hs ax_fr.rf
  | succ k ih =>
    intro i c h bf hi hc hF hn hs kk
    have hi8 : i < 280 := by omega
    refine ar_iload_n 25 d_56_24 rfl rfl ?_
    refine ar_sipush 28 (v := 280) d_56_25 rfl (by decide) ?_
    refine ar_top (x' := nI 280) rfl ?_
    refine ar_icmp_ge 82 31 d_56_28 (by decide) rfl (fun c => absurd c (nI_ge hi8 (by omega))) (fun _ => ?_)
    refine ar_aload_n 32 d_56_31 rfl rfl ?_
    refine ar_getf 35 d_56_32 rfl (ci := 7) (k := 5) rfl (hF.at 2 rfl) rfl ?_
    refine ar_iload_n 36 d_56_35 rfl rfl ?_
    refine ar_iald 37 d_56_36 rfl (hF.at 4 rfl) (nI_in (by omega) (by omega)) ?_
    refine ar_top (x' := tf i) (by rw [nI_clamp (by omega)]) ?_
    refine ar_if_lt 76 40 d_56_37 (by decide) rfl (fun c1 => ?_) (fun c1 => ?_)
    · refine ar_iinc 79 [(0, .ref nd), (1, .int to), (2, .ref (w + 1 + 2 * m)), (3, .int (nI (i + 1)))] d_56_76 rfl rfl (nI_1 i) (by decide) rfl ?_
      refine ar_goto 24 d_56_79 (by decide) ?_
      have k9 : tf i < 0 ∨ ¬ ow i < 0 := Or.inl c1
      rw [show lsC tf ow (k + 1) i c = lsC tf ow k (i + 1) c from if_pos k9, show lsF tf ow (k + 1) i c bf = lsF tf ow k (i + 1) c bf from if_pos k9] at kk
      exact ih (i + 1) c h bf (by omega) (by omega) hF hn hs kk
    · refine ar_aload_n 41 d_56_40 rfl rfl ?_
      refine ar_getf 44 d_56_41 rfl (ci := 7) (k := 3) rfl (hF.at 2 rfl) rfl ?_
      refine ar_iload_n 45 d_56_44 rfl rfl ?_
      refine ar_call (r := []) (na := 0) (kd := 0) (cm := 57) (fr2 := fr - 1) (lo2 := lo - 21) 48 d_56_45 (ar_hoV (as := [.int (nI i)]) rfl rfl rfl (hF.at 3 rfl)) rfl (by omega) (show lo - 21 + (19 + 2) = lo by omega) (Nat.le_of_ble_eq_true rfl) (Nat.le_of_ble_eq_true rfl) (c_57 hi8 (hF.sub (F' := [(dk, .inr (8, [.ref da, .ref db, .ref dc, .ref dd, .int dn])), (dd, .inl (0, 280, .inl ow))]) [3, 5] rfl rfl)) ?_
      intro v hh hq
      obtain ⟨rfl, ehh⟩ := hq
      rw [ehh]
      clear ehh
      refine ar_if_ne 76 51 d_56_48 (by decide) rfl (fun c2 => ?_) (fun c2 => ?_)
      · refine ar_iinc 79 [(0, .ref nd), (1, .int to), (2, .ref (w + 1 + 2 * m)), (3, .int (nI (i + 1)))] d_56_76 rfl rfl (nI_1 i) (by decide) rfl ?_
        refine ar_goto 24 d_56_79 (by decide) ?_
        have k9 : tf i < 0 ∨ ¬ ow i < 0 := Or.inr (fun z => c2 (by rw [if_pos z]))
        rw [show lsC tf ow (k + 1) i c = lsC tf ow k (i + 1) c from if_pos k9, show lsF tf ow (k + 1) i c bf = lsF tf ow k (i + 1) c bf from if_pos k9] at kk
        exact ih (i + 1) c h bf (by omega) (by omega) hF hn hs kk
      · have k9 : ¬ (tf i < 0 ∨ ¬ ow i < 0) := fun z => z.elim c1 (fun q => c2 (fun r => absurd r (by rw [if_neg q]; decide)))
        have hbase : h.1 = n := hn
        have hbasl : h.2.1 = sl := hs
        have hf : ax_fr (fun x => x ∈ [w + 1 + 2 * m, w + 1 + 2 * m + 1]) h h := ax_fr.rf
        refine ar_aload_n 52 d_56_51 rfl rfl ?_
        refine ar_getf 55 d_56_52 rfl (ci := 2) (k := 8) rfl (hF.at 0 rfl) rfl ?_
        refine ar_aload_n 56 d_56_55 rfl rfl ?_
        refine ar_getf 59 d_56_56 rfl (ci := 2) (k := 7) rfl (hF.at 0 rfl) rfl ?_
        refine ar_aload_n 60 d_56_59 rfl rfl ?_
        refine ar_getf 63 d_56_60 rfl (ci := 7) (k := 5) rfl (hF.at 2 rfl) rfl ?_
        refine ar_iload_n 64 d_56_63 rfl rfl ?_
        refine ar_iald 65 d_56_64 rfl (hF.at 4 rfl) (nI_in (by omega) (by omega)) ?_
        refine ar_top (x' := tf i) (by rw [nI_clamp (by omega)]) ?_
        refine ar_iast 66 d_56_65 rfl (hF.at 1 rfl) (nI_in (by omega) (by omega)) ?_
        replace hF : ax_hs (ax_put h (w + 1 + 2 * m + 1) (.inl (0, 617, .inl (upd bf (nI c).toNatClampNeg (tf i))))) [(w + 1 + 2 * m, .inr (2, [.int 5, .int me, .int to, .int ne, .int ns, .int (-1), .int 0, .int (nI c), .ref (w + 1 + 2 * m + 1)])), (w + 1 + 2 * m + 1, .inl (0, 617, .inl (upd bf (nI c).toNatClampNeg (tf i)))), (nd, .inr (7, [.int me, .ref rk, .ref nt, .ref dk, .ref ld, .ref tg, .int up, .int ne, .int ns])), (dk, .inr (8, [.ref da, .ref db, .ref dc, .ref dd, .int dn])), (tg, .inl (0, 280, .inl tf)), (dd, .inl (0, 280, .inl ow))] := hF.put 1 _ rfl rfl
        replace hf := hf.put (a := w + 1 + 2 * m + 1) (c := .inl (0, 617, .inl (upd bf (nI c).toNatClampNeg (tf i)))) (by simp)
        replace hn : (ax_put h (w + 1 + 2 * m + 1) (.inl (0, 617, .inl (upd bf (nI c).toNatClampNeg (tf i))))).1 = n := hn
        replace hs : (ax_put h (w + 1 + 2 * m + 1) (.inl (0, 617, .inl (upd bf (nI c).toNatClampNeg (tf i))))).2.1 = sl := hs
        generalize ax_put h (w + 1 + 2 * m + 1) (.inl (0, 617, .inl (upd bf (nI c).toNatClampNeg (tf i)))) = h1 at hF hf hn hs ⊢
        refine ar_aload_n 67 d_56_66 rfl rfl ?_
        refine ar_dup 68 d_56_67 rfl rfl ?_
        refine ar_getf 71 d_56_68 rfl (ci := 2) (k := 7) rfl (hF.at 0 rfl) rfl ?_
        refine ar_iconst 72 (v := 1) d_56_71 rfl (by decide) ?_
        refine ar_iadd 73 d_56_72 rfl ?_
        refine ar_top (x' := nI (c + 1)) (nI_1 c) ?_
        refine ar_putf 76 [.int 5, .int me, .int to, .int ne, .int ns, .int (-1), .int 0, .int (nI (c + 1)), .ref (w + 1 + 2 * m + 1)] d_56_73 rfl (ci := 2) (k := 7) rfl rfl (hF.at 0 rfl) (Nat.le_of_ble_eq_true rfl) rfl rfl rfl ?_
        replace hF : ax_hs (ax_put h1 (w + 1 + 2 * m) (.inr (2, [.int 5, .int me, .int to, .int ne, .int ns, .int (-1), .int 0, .int (nI (c + 1)), .ref (w + 1 + 2 * m + 1)]))) [(w + 1 + 2 * m, .inr (2, [.int 5, .int me, .int to, .int ne, .int ns, .int (-1), .int 0, .int (nI (c + 1)), .ref (w + 1 + 2 * m + 1)])), (w + 1 + 2 * m + 1, .inl (0, 617, .inl (upd bf (nI c).toNatClampNeg (tf i)))), (nd, .inr (7, [.int me, .ref rk, .ref nt, .ref dk, .ref ld, .ref tg, .int up, .int ne, .int ns])), (dk, .inr (8, [.ref da, .ref db, .ref dc, .ref dd, .int dn])), (tg, .inl (0, 280, .inl tf)), (dd, .inl (0, 280, .inl ow))] := hF.put 0 _ rfl rfl
        replace hf := hf.put (a := w + 1 + 2 * m) (c := .inr (2, [.int 5, .int me, .int to, .int ne, .int ns, .int (-1), .int 0, .int (nI (c + 1)), .ref (w + 1 + 2 * m + 1)])) (by simp)
        replace hn : (ax_put h1 (w + 1 + 2 * m) (.inr (2, [.int 5, .int me, .int to, .int ne, .int ns, .int (-1), .int 0, .int (nI (c + 1)), .ref (w + 1 + 2 * m + 1)]))).1 = n := hn
        replace hs : (ax_put h1 (w + 1 + 2 * m) (.inr (2, [.int 5, .int me, .int to, .int ne, .int ns, .int (-1), .int 0, .int (nI (c + 1)), .ref (w + 1 + 2 * m + 1)]))).2.1 = sl := hs
        generalize ax_put h1 (w + 1 + 2 * m) (.inr (2, [.int 5, .int me, .int to, .int ne, .int ns, .int (-1), .int 0, .int (nI (c + 1)), .ref (w + 1 + 2 * m + 1)])) = h2 at hF hf hn hs ⊢
        refine ar_iinc 79 [(0, .ref nd), (1, .int to), (2, .ref (w + 1 + 2 * m)), (3, .int (nI (i + 1)))] d_56_76 rfl rfl (nI_1 i) (by decide) rfl ?_
        refine ar_goto 24 d_56_79 (by decide) ?_
        rw [nI_clamp (show c < 2 ^ 31 by omega)] at hF
        rw [show lsC tf ow (k + 1) i c = lsC tf ow k (i + 1) (c + 1) from if_neg k9, show lsF tf ow (k + 1) i c bf = lsF tf ow k (i + 1) (c + 1) (upd bf c (tf i)) from if_neg k9] at kk
        exact ih (i + 1) (c + 1) h2 _ (by omega) (by omega) hF hn hs (fun h' j1 j2 j3 j4 => kk h' j1 j2 j3 (hf.tr j4))
theorem c_56X {L : Nat} {xs : Nat → Int32} {fr lo : Nat} {h : ax_H} {nd rk nt w dk ld tg da db dc dd q : Nat} {me up ne ns dn : Int32} {u b : Nat → Int32} {ids : List Nat} {ms : List Mg} {tf ow : Nat → Int32} {to : Int32} (hfr : 1 ≤ fr) (hlo : 40 ≤ lo) (hA_nd : ¬ NTA nt w nd) (hA_dk : ¬ NTA nt w dk) (hA_tg : ¬ NTA nt w tg) (hA_dd : ¬ NTA nt w dd) (hN : NTL h nt w ids ms q u b) (hF : ax_hs h [(nd, .inr (7, [.int me, .ref rk, .ref nt, .ref dk, .ref ld, .ref tg, .int up, .int ne, .int ns])), (dk, .inr (8, [.ref da, .ref db, .ref dc, .ref dd, .int dn])), (tg, .inl (0, 280, .inl tf)), (dd, .inl (0, 280, .inl ow))]) : ax_M L xs 56 fr lo [.ref nd, .int to] h (fun r h' => ∃ (ids' : List Nat) (bm : Nat → Int32), r = none ∧ NTL h' nt w ids' (pst ms (va_up (va_up (mg 5 me to ne ns) 6 dn) 7 (nI (lsC tf ow 280 0 0)), lsF tf ow 280 0 0 bm)) q u b ∧ ax_fr (NTA nt w) h h' ∧ h'.1 = h.1 ∧ h'.2.1 = h.2.1) := by
  show ax_A (ax_step L xs) ((56, 0, fr, lo), [(0, .ref nd), (1, .int to)], [], h) _
  obtain ⟨za, zc, hnet⟩ := hN.net
  refine ar_aload_n 1 d_56_0 rfl rfl ?_
  refine ar_getf 4 d_56_1 rfl (ci := 7) (k := 2) rfl (hF.at 0 rfl) rfl ?_
  refine ar_iconst 5 (v := 5) d_56_4 rfl (by decide) ?_
  refine ar_aload_n 6 d_56_5 rfl rfl ?_
  refine ar_getf 9 d_56_6 rfl (ci := 7) (k := 0) rfl (hF.at 0 rfl) rfl ?_
  refine ar_iload_n 10 d_56_9 rfl rfl ?_
  refine ar_aload_n 11 d_56_10 rfl rfl ?_
  refine ar_getf 14 d_56_11 rfl (ci := 7) (k := 7) rfl (hF.at 0 rfl) rfl ?_
  refine ar_aload_n 15 d_56_14 rfl rfl ?_
  refine ar_getf 18 d_56_15 rfl (ci := 7) (k := 8) rfl (hF.at 0 rfl) rfl ?_
  refine ar_call (r := []) (na := 0) (kd := 0) (cm := 36) (fr2 := fr - 1) (lo2 := lo - 26) 21 d_56_18 (ar_hoV (as := [.int 5, .int me, .int to, .int ne, .int ns]) rfl rfl rfl hnet) rfl (by omega) (show lo - 26 + (19 + 7) = lo by omega) (Nat.le_of_ble_eq_true rfl) (Nat.le_of_ble_eq_true rfl) (c_36H hN) ?_
  intro v h2 hq
  obtain ⟨m, bm, ids2, hm, rfl, hmq, hmm, hed, hf2, hz1, hz2⟩ := hq
  have hNm : NTA nt w (w + 1 + 2 * m) := Or.inr (by omega)
  have hNm1 : NTA nt w (w + 1 + 2 * m + 1) := Or.inr (by omega)
  have hF2 : ax_hs h2 [(nd, .inr (7, [.int me, .ref rk, .ref nt, .ref dk, .ref ld, .ref tg, .int up, .int ne, .int ns])), (dk, .inr (8, [.ref da, .ref db, .ref dc, .ref dd, .int dn])), (tg, .inl (0, 280, .inl tf)), (dd, .inl (0, 280, .inl ow))] := hF.fr hf2 (by intro x hx; simp only [List.mem_cons, List.not_mem_nil, or_false] at hx; rcases hx with rfl | rfl | rfl | rfl <;> assumption)
  have hF3 : ax_hs h2 [(w + 1 + 2 * m + 1, .inl (0, 617, .inl bm)), (nd, .inr (7, [.int me, .ref rk, .ref nt, .ref dk, .ref ld, .ref tg, .int up, .int ne, .int ns])), (dk, .inr (8, [.ref da, .ref db, .ref dc, .ref dd, .int dn])), (tg, .inl (0, 280, .inl tf)), (dd, .inl (0, 280, .inl ow))] := ax_hs.consN (nt := nt) (w := w) hmm.2 hF2 hNm1 (by intro x hx; simp only [List.mem_cons, List.not_mem_nil, or_false] at hx; rcases hx with rfl | rfl | rfl | rfl <;> assumption)
  replace hF3 : ax_hs h2 [(w + 1 + 2 * m, .inr (2, [.int 5, .int me, .int to, .int ne, .int ns, .int (-1), .int 0, .int 0, .ref (w + 1 + 2 * m + 1)])), (w + 1 + 2 * m + 1, .inl (0, 617, .inl bm)), (nd, .inr (7, [.int me, .ref rk, .ref nt, .ref dk, .ref ld, .ref tg, .int up, .int ne, .int ns])), (dk, .inr (8, [.ref da, .ref db, .ref dc, .ref dd, .int dn])), (tg, .inl (0, 280, .inl tf)), (dd, .inl (0, 280, .inl ow))] := ax_hs.cons (show ax_g h2 (w + 1 + 2 * m) = some (.inr (2, [.int 5, .int me, .int to, .int ne, .int ns, .int (-1), .int 0, .int 0, .ref (w + 1 + 2 * m + 1)])) from hmm.1) hF3 (by intro x hx e; simp only [List.mem_cons, List.not_mem_nil, or_false] at hx; rcases hx with rfl | rfl | rfl | rfl | rfl; exact absurd e (by dsimp only; omega); all_goals exact absurd (e ▸ hNm) (by assumption))
  refine ar_astore_n 22 [(0, .ref nd), (1, .int to), (2, .ref (w + 1 + 2 * m))] d_56_21 rfl (by decide) rfl ?_
  refine ar_iconst 23 (v := 0) d_56_22 rfl (by decide) ?_
  refine ar_istore_n 24 [(0, .ref nd), (1, .int to), (2, .ref (w + 1 + 2 * m)), (3, .int 0)] d_56_23 rfl (by decide) rfl ?_
  refine lp_56 hfr (by omega) 280 0 0 h2 bm (by omega) (by omega) hF3 rfl rfl (fun h' qF qn qs qf => ?_)
  refine ar_aload_n 83 d_56_82 rfl rfl ?_
  refine ar_aload_n 84 d_56_83 rfl rfl ?_
  refine ar_getf 87 d_56_84 rfl (ci := 7) (k := 3) rfl (qF.at 2 rfl) rfl ?_
  refine ar_getf 90 d_56_87 rfl (ci := 8) (k := 4) rfl (qF.at 3 rfl) rfl ?_
  refine ar_putf 93 [.int 5, .int me, .int to, .int ne, .int ns, .int (-1), .int dn, .int (nI (lsC tf ow 280 0 0)), .ref (w + 1 + 2 * m + 1)] d_56_90 rfl (ci := 2) (k := 6) rfl rfl (qF.at 0 rfl) (Nat.le_of_ble_eq_true rfl) rfl rfl rfl ?_
  have qF : ax_hs (ax_put h' (w + 1 + 2 * m) (.inr (2, [.int 5, .int me, .int to, .int ne, .int ns, .int (-1), .int dn, .int (nI (lsC tf ow 280 0 0)), .ref (w + 1 + 2 * m + 1)]))) [(w + 1 + 2 * m, .inr (2, [.int 5, .int me, .int to, .int ne, .int ns, .int (-1), .int dn, .int (nI (lsC tf ow 280 0 0)), .ref (w + 1 + 2 * m + 1)])), (w + 1 + 2 * m + 1, .inl (0, 617, .inl (lsF tf ow 280 0 0 bm))), (nd, .inr (7, [.int me, .ref rk, .ref nt, .ref dk, .ref ld, .ref tg, .int up, .int ne, .int ns])), (dk, .inr (8, [.ref da, .ref db, .ref dc, .ref dd, .int dn])), (tg, .inl (0, 280, .inl tf)), (dd, .inl (0, 280, .inl ow))] := qF.put 0 _ rfl rfl
  exact ar_ret d_56_93 rfl (⟨_, bm, rfl, hed _ (va_up (va_up (mg 5 me to ne ns) 6 dn) 7 (nI (lsC tf ow 280 0 0))) (lsF tf ow 280 0 0 bm) (((qf.mono (by intro x hx; simpa using hx))).put (Or.inl rfl)) ⟨qF.at 0 rfl, qF.at 1 rfl⟩, hf2.tr ((qf.mono (by intro x hx; simp only [List.mem_cons, List.not_mem_nil, or_false] at hx; rcases hx with rfl | rfl; exact hNm; exact hNm1)).put hNm), qn.trans hz1, qs.trans hz2⟩)
/-- what a NODE says that it has, as it FLUSHES c blocks -/
def ftC (tf sw : Nat → Int32) : Nat → Nat → Nat → Nat
  | 0, _, c => c
  | k + 1, i, c => if tf (sw i).toNatClampNeg < 0 then ftC tf sw k (i + 1) c else ftC tf sw k (i + 1) (c + 1)
def ftF (tf sw : Nat → Int32) : Nat → Nat → Nat → (Nat → Int32) → (Nat → Int32)
  | 0, _, _, bf => bf
  | k + 1, i, c, bf => if tf (sw i).toNatClampNeg < 0 then ftF tf sw k (i + 1) c bf else ftF tf sw k (i + 1) (c + 1) (upd bf c (tf (sw i).toNatClampNeg))
theorem lp_60 {L : Nat} {xs : Nat → Int32} {fr lo n sl : Nat} {nd rk nt w dk ld tg da db dc dd m e : Nat} {me up ne ns ll : Int32} {tf sw : Nat → Int32} {post : ax_Po} (hfr : 1 ≤ fr) (hlo : 30 ≤ lo) (he : e ≤ 32) (hsw : ∀ j, j < e → ¬ sw j < 0 ∧ (sw j).toNatClampNeg < 280) : ∀ (k i c : Nat) (h : ax_H) (bf : Nat → Int32), i + k = e → c ≤ i → ax_hs h [(w + 1 + 2 * m, .inr (2, [.int 11, .int me, .int ll, .int ne, .int ns, .int (-1), .int 0, .int (nI c), .ref (w + 1 + 2 * m + 1)])), (w + 1 + 2 * m + 1, .inl (0, 617, .inl bf)), (nd, .inr (7, [.int me, .ref rk, .ref nt, .ref dk, .ref ld, .ref tg, .int up, .int ne, .int ns])), (dk, .inr (8, [.ref da, .ref db, .ref dc, .ref dd, .int (nI e)])), (tg, .inl (0, 280, .inl tf)), (dc, .inl (0, 32, .inl sw))] → h.1 = n → h.2.1 = sl → (∀ h', ax_hs h' [(w + 1 + 2 * m, .inr (2, [.int 11, .int me, .int ll, .int ne, .int ns, .int (-1), .int 0, .int (nI (ftC tf sw k i c)), .ref (w + 1 + 2 * m + 1)])), (w + 1 + 2 * m + 1, .inl (0, 617, .inl (ftF tf sw k i c bf))), (nd, .inr (7, [.int me, .ref rk, .ref nt, .ref dk, .ref ld, .ref tg, .int up, .int ne, .int ns])), (dk, .inr (8, [.ref da, .ref db, .ref dc, .ref dd, .int (nI e)])), (tg, .inl (0, 280, .inl tf)), (dc, .inl (0, 32, .inl sw))] → h'.1 = n → h'.2.1 = sl → ax_fr (fun x => x ∈ [w + 1 + 2 * m, w + 1 + 2 * m + 1]) h h' → ax_A (ax_step L xs) ((60, 103, fr, lo), [(0, .ref nd), (1, .ref (w + 1 + 2 * m)), (2, .int (nI e))], [], h') post) → ax_A (ax_step L xs) ((60, 48, fr, lo), [(0, .ref nd), (1, .ref (w + 1 + 2 * m)), (2, .int (nI i))], [], h) post := by
  intro k
  induction k with
  | zero =>
    intro i c h bf hi hc hF hn hs kk
    have ei : i = e := by omega
    subst ei
    refine ar_iload_n 49 d_60_48 rfl rfl ?_
    refine ar_aload_n 50 d_60_49 rfl rfl ?_
    refine ar_getf 53 d_60_50 rfl (ci := 7) (k := 3) rfl (hF.at 2 rfl) rfl ?_
    refine ar_getf 56 d_60_53 rfl (ci := 8) (k := 4) rfl (hF.at 3 rfl) rfl ?_
    refine ar_icmp_ge 103 59 d_60_56 (by decide) rfl (fun _ => ?_) (fun c => absurd (Int32.le_refl _) c)
    exact kk h hF hn hs ax_fr.rf
  | succ k ih =>
    intro i c h bf hi hc hF hn hs kk
    have hie : i < e := by omega
    obtain ⟨s0, s1⟩ := hsw i hie
    have hse := nI_cl s0
    refine ar_iload_n 49 d_60_48 rfl rfl ?_
    refine ar_aload_n 50 d_60_49 rfl rfl ?_
    refine ar_getf 53 d_60_50 rfl (ci := 7) (k := 3) rfl (hF.at 2 rfl) rfl ?_
    refine ar_getf 56 d_60_53 rfl (ci := 8) (k := 4) rfl (hF.at 3 rfl) rfl ?_
    refine ar_icmp_ge 103 59 d_60_56 (by decide) rfl (fun c => absurd c (nI_ge hie (by omega))) (fun _ => ?_)
    refine ar_aload_n 60 d_60_59 rfl rfl ?_
    refine ar_getf 63 d_60_60 rfl (ci := 7) (k := 5) rfl (hF.at 2 rfl) rfl ?_
    refine ar_aload_n 64 d_60_63 rfl rfl ?_
    refine ar_getf 67 d_60_64 rfl (ci := 7) (k := 3) rfl (hF.at 2 rfl) rfl ?_
    refine ar_iload_n 68 d_60_67 rfl rfl ?_
    refine ar_call (r := [.ref tg]) (na := 0) (kd := 0) (cm := 61) (fr2 := fr - 1) (lo2 := lo - 21) 71 d_60_68 (ar_hoV (as := [.int (nI i)]) rfl rfl rfl (hF.at 3 rfl)) rfl (by omega) (show lo - 21 + (19 + 2) = lo by omega) (Nat.le_of_ble_eq_true rfl) (Nat.le_of_ble_eq_true rfl) (c_61 (by omega) (hF.sub (F' := [(dk, .inr (8, [.ref da, .ref db, .ref dc, .ref dd, .int (nI e)])), (dc, .inl (0, 32, .inl sw))]) [3, 5] rfl rfl)) ?_
    intro v hh hq
    obtain ⟨rfl, ehh⟩ := hq
    rw [ehh]
    clear ehh
    refine ar_iald 72 d_60_71 rfl (hF.at 4 rfl) (by rw [hse]; exact nI_in s1 (by omega)) ?_
    refine ar_top (x' := tf (sw i).toNatClampNeg) (rfl) ?_
    refine ar_istore_n 73 [(0, .ref nd), (1, .ref (w + 1 + 2 * m)), (2, .int (nI i)), (3, .int (tf (sw i).toNatClampNeg))] d_60_72 rfl (by decide) rfl ?_
    refine ar_iload_n 74 d_60_73 rfl rfl ?_
    refine ar_if_lt 97 77 d_60_74 (by decide) rfl (fun c1 => ?_) (fun c1 => ?_)
    · refine ar_iinc 100 [(0, .ref nd), (1, .ref (w + 1 + 2 * m)), (2, .int (nI (i + 1))), (3, .int (tf (sw i).toNatClampNeg))] d_60_97 rfl rfl (nI_1 i) (by decide) rfl ?_
      refine ar_goto 48 d_60_100 (by decide) ?_
      refine ar_wk [0, 1, 2] rfl (by simp) ?_
      rw [show ftC tf sw (k + 1) i c = ftC tf sw k (i + 1) c from if_pos c1, show ftF tf sw (k + 1) i c bf = ftF tf sw k (i + 1) c bf from if_pos c1] at kk
      exact ih (i + 1) c h bf (by omega) (by omega) hF hn hs kk
    · have hbase : h.1 = n := hn
      have hbasl : h.2.1 = sl := hs
      have hf : ax_fr (fun x => x ∈ [w + 1 + 2 * m, w + 1 + 2 * m + 1]) h h := ax_fr.rf
      refine ar_aload_n 78 d_60_77 rfl rfl ?_
      refine ar_getf 81 d_60_78 rfl (ci := 2) (k := 8) rfl (hF.at 0 rfl) rfl ?_
      refine ar_aload_n 82 d_60_81 rfl rfl ?_
      refine ar_getf 85 d_60_82 rfl (ci := 2) (k := 7) rfl (hF.at 0 rfl) rfl ?_
      refine ar_iload_n 86 d_60_85 rfl rfl ?_
      refine ar_iast 87 d_60_86 rfl (hF.at 1 rfl) (nI_in (by omega) (by omega)) ?_
      replace hF : ax_hs (ax_put h (w + 1 + 2 * m + 1) (.inl (0, 617, .inl (upd bf (nI c).toNatClampNeg (tf (sw i).toNatClampNeg))))) [(w + 1 + 2 * m, .inr (2, [.int 11, .int me, .int ll, .int ne, .int ns, .int (-1), .int 0, .int (nI c), .ref (w + 1 + 2 * m + 1)])), (w + 1 + 2 * m + 1, .inl (0, 617, .inl (upd bf (nI c).toNatClampNeg (tf (sw i).toNatClampNeg)))), (nd, .inr (7, [.int me, .ref rk, .ref nt, .ref dk, .ref ld, .ref tg, .int up, .int ne, .int ns])), (dk, .inr (8, [.ref da, .ref db, .ref dc, .ref dd, .int (nI e)])), (tg, .inl (0, 280, .inl tf)), (dc, .inl (0, 32, .inl sw))] := hF.put 1 _ rfl rfl
      replace hf := hf.put (a := w + 1 + 2 * m + 1) (c := .inl (0, 617, .inl (upd bf (nI c).toNatClampNeg (tf (sw i).toNatClampNeg)))) (by simp)
      replace hn : (ax_put h (w + 1 + 2 * m + 1) (.inl (0, 617, .inl (upd bf (nI c).toNatClampNeg (tf (sw i).toNatClampNeg))))).1 = n := hn
      replace hs : (ax_put h (w + 1 + 2 * m + 1) (.inl (0, 617, .inl (upd bf (nI c).toNatClampNeg (tf (sw i).toNatClampNeg))))).2.1 = sl := hs
      generalize ax_put h (w + 1 + 2 * m + 1) (.inl (0, 617, .inl (upd bf (nI c).toNatClampNeg (tf (sw i).toNatClampNeg)))) = h1 at hF hf hn hs ⊢
      refine ar_aload_n 88 d_60_87 rfl rfl ?_
      refine ar_dup 89 d_60_88 rfl rfl ?_
      refine ar_getf 92 d_60_89 rfl (ci := 2) (k := 7) rfl (hF.at 0 rfl) rfl ?_
      refine ar_iconst 93 (v := 1) d_60_92 rfl (by decide) ?_
      refine ar_iadd 94 d_60_93 rfl ?_
      refine ar_top (x' := nI (c + 1)) (nI_1 c) ?_
      refine ar_putf 97 [.int 11, .int me, .int ll, .int ne, .int ns, .int (-1), .int 0, .int (nI (c + 1)), .ref (w + 1 + 2 * m + 1)] d_60_94 rfl (ci := 2) (k := 7) rfl rfl (hF.at 0 rfl) (Nat.le_of_ble_eq_true rfl) rfl rfl rfl ?_
      replace hF : ax_hs (ax_put h1 (w + 1 + 2 * m) (.inr (2, [.int 11, .int me, .int ll, .int ne, .int ns, .int (-1), .int 0, .int (nI (c + 1)), .ref (w + 1 + 2 * m + 1)]))) [(w + 1 + 2 * m, .inr (2, [.int 11, .int me, .int ll, .int ne, .int ns, .int (-1), .int 0, .int (nI (c + 1)), .ref (w + 1 + 2 * m + 1)])), (w + 1 + 2 * m + 1, .inl (0, 617, .inl (upd bf (nI c).toNatClampNeg (tf (sw i).toNatClampNeg)))), (nd, .inr (7, [.int me, .ref rk, .ref nt, .ref dk, .ref ld, .ref tg, .int up, .int ne, .int ns])), (dk, .inr (8, [.ref da, .ref db, .ref dc, .ref dd, .int (nI e)])), (tg, .inl (0, 280, .inl tf)), (dc, .inl (0, 32, .inl sw))] := hF.put 0 _ rfl rfl
      replace hf := hf.put (a := w + 1 + 2 * m) (c := .inr (2, [.int 11, .int me, .int ll, .int ne, .int ns, .int (-1), .int 0, .int (nI (c + 1)), .ref (w + 1 + 2 * m + 1)])) (by simp)
      replace hn : (ax_put h1 (w + 1 + 2 * m) (.inr (2, [.int 11, .int me, .int ll, .int ne, .int ns, .int (-1), .int 0, .int (nI (c + 1)), .ref (w + 1 + 2 * m + 1)]))).1 = n := hn
      replace hs : (ax_put h1 (w + 1 + 2 * m) (.inr (2, [.int 11, .int me, .int ll, .int ne, .int ns, .int (-1), .int 0, .int (nI (c + 1)), .ref (w + 1 + 2 * m + 1)]))).2.1 = sl := hs
      generalize ax_put h1 (w + 1 + 2 * m) (.inr (2, [.int 11, .int me, .int ll, .int ne, .int ns, .int (-1), .int 0, .int (nI (c + 1)), .ref (w + 1 + 2 * m + 1)])) = h2 at hF hf hn hs ⊢
      refine ar_iinc 100 [(0, .ref nd), (1, .ref (w + 1 + 2 * m)), (2, .int (nI (i + 1))), (3, .int (tf (sw i).toNatClampNeg))] d_60_97 rfl rfl (nI_1 i) (by decide) rfl ?_
      refine ar_goto 48 d_60_100 (by decide) ?_
      refine ar_wk [0, 1, 2] rfl (by simp) ?_
      rw [nI_clamp (show c < 2 ^ 31 by omega)] at hF
      rw [show ftC tf sw (k + 1) i c = ftC tf sw k (i + 1) (c + 1) from if_neg c1, show ftF tf sw (k + 1) i c bf = ftF tf sw k (i + 1) (c + 1) (upd bf c (tf (sw i).toNatClampNeg)) from if_neg c1] at kk
      exact ih (i + 1) (c + 1) h2 _ (by omega) (by omega) hF hn hs (fun h' j1 j2 j3 j4 => kk h' j1 j2 j3 (hf.tr j4))


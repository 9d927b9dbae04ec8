/-! the reference's methods that FILES do not matter for, exactly: feed, end, name, begin, crash, restart, map, replace .. -/

def ptB (g : Nat → Int32) (l : Nat) (x : Int32) : Nat → Int32 := upd (upd (upd (upd g l (vp_nar .byte (x >>> (24 &&& 31)).toInt8.toInt32)) (l + 1) (vp_nar .byte (x >>> (16 &&& 31)).toInt8.toInt32)) (l + 2) (vp_nar .byte (x >>> (8 &&& 31)).toInt8.toInt32)) (l + 3) (vp_nar .byte (x >>> (0 &&& 31)).toInt8.toInt32)
def ptM (M : Nat → Nat → Int32) (l : Nat) (x : Int32) : Nat → Nat → Int32 := va_up (va_up M 0 (upd (M 0) 9 (nI (l + 4)))) 8 (ptB (M 8) l x)
theorem upd2 {g : Nat → Int32} {k : Nat} {a b : Int32} : upd (upd g k a) k b = upd g k b := by
  funext j
  by_cases e : j = k
  · rw [e, pk_us, pk_us]
  · rw [pk_un e, pk_un e, pk_un e]
set_option maxRecDepth 100000 in
theorem r_177 {L : Nat} {xs : Nat → Int32} {fr lo : Nat} {m p al AL : Nat} {h0 h : ax_H} {M : Nat → Nat → Int32} {x : Int32} (hfr : 0 ≤ fr) (hlo : 0 ≤ lo) (hC : RC m p al) (hS : RS m p al AL h0 h M) {l : Nat} (e9 : M 0 9 = nI l) (hl : l + 4 ≤ 2048) : ax_M L xs 177 fr lo [.ref m, .int x] h (fun r h' => r = none ∧ RS m p al AL h0 h' (ptM M l x)) := by
  have hC0 := hC
  show ax_A (ax_step L xs) ((177, 0, fr, lo), [(0, .ref m), (1, .int x)], [], h) _
  obtain ⟨hmp, hal, hm0⟩ := hC
  obtain ⟨hF, hf, hn, hs, hp0⟩ := hS
  replace hF : ax_hs h [cRo m p al M, cRB p 2048 (M 8), cRB (p + 1) 400 (M 10), cRI (p + 2) 2 (M 11), cRI (p + 3) 48 (M 12), cRZ (p + 4) 48 (M 13), cRB (p + 5) 9600 (M 14), cRI (p + 6) 48 (M 15), cRI (p + 7) 48 (M 16), cRI (p + 8) 48 (M 17), cRB (p + 9) 393216 (M 18), cRZ (p + 10) 912 (M 19), cRI (p + 11) 12 (M 27), cRI (p + 12) 12 (M 28), cRI (p + 13) 12 (M 29), cRB (p + 14) 4800 (M 30), cRI (p + 15) 24 (M 31), cRB (p + 16) 24576 (M 32), cRI (p + 17) 12 (M 33), cRI al AL (M 34), cRI (p + 19) 24576 (M 35), cRI (p + 20) 12 (M 36)] := hF
  refine ar_bipush 2 (v := 24) d_177_0 rfl (by decide) ?_
  refine ar_istore_n 3 [(0, .ref m), (1, .int x), (2, .int 24)] d_177_2 rfl (by decide) rfl ?_
  refine ar_iload_n 4 d_177_3 rfl rfl ?_
  refine ar_if_lt 36 7 d_177_4 (by decide) rfl (fun c => absurd c (by decide)) (fun _ => ?_)
  refine ar_aload_n 8 d_177_7 rfl rfl ?_
  refine ar_getf 11 d_177_8 rfl (ci := 11) (k := 8) rfl (hF.at 0 rfl) (show _ = some (.ref p) from rfl) ?_
  refine ar_aload_n 12 d_177_11 rfl rfl ?_
  refine ar_getf 15 d_177_12 rfl (ci := 11) (k := 9) rfl (hF.at 0 rfl) (show _ = some (.int ((M 0) 9)) from rfl) ?_
  refine ar_top (x' := nI l) (e9) ?_
  refine ar_iload_n 16 d_177_15 rfl rfl ?_
  refine ar_iload_n 17 d_177_16 rfl rfl ?_
  refine ar_ishr 18 d_177_17 rfl ?_
  refine ar_i2b 19 d_177_18 rfl ?_
  refine ar_bast 20 d_177_19 rfl (hF.at 1 rfl) (vin (by omega) (by omega)) ?_
  replace hF : ax_hs (ax_put h p (.inl (1, 2048, .inl (upd (M 8) (nI l).toNatClampNeg (vp_nar .byte ((x >>> (24 &&& 31)).toInt8.toInt32)))))) [cRo m p al M, (p, .inl (1, 2048, .inl (upd (M 8) (nI l).toNatClampNeg (vp_nar .byte ((x >>> (24 &&& 31)).toInt8.toInt32))))), cRB (p + 1) 400 (M 10), cRI (p + 2) 2 (M 11), cRI (p + 3) 48 (M 12), cRZ (p + 4) 48 (M 13), cRB (p + 5) 9600 (M 14), cRI (p + 6) 48 (M 15), cRI (p + 7) 48 (M 16), cRI (p + 8) 48 (M 17), cRB (p + 9) 393216 (M 18), cRZ (p + 10) 912 (M 19), cRI (p + 11) 12 (M 27), cRI (p + 12) 12 (M 28), cRI (p + 13) 12 (M 29), cRB (p + 14) 4800 (M 30), cRI (p + 15) 24 (M 31), cRB (p + 16) 24576 (M 32), cRI (p + 17) 12 (M 33), cRI al AL (M 34), cRI (p + 19) 24576 (M 35), cRI (p + 20) 12 (M 36)] := hF.put 1 _ rfl rfl
  replace hf := hf.put (a := p) (c := .inl (1, 2048, .inl (upd (M 8) (nI l).toNatClampNeg (vp_nar .byte ((x >>> (24 &&& 31)).toInt8.toInt32))))) (show m ≤ p by omega)
  replace hn : (ax_put h p (.inl (1, 2048, .inl (upd (M 8) (nI l).toNatClampNeg (vp_nar .byte ((x >>> (24 &&& 31)).toInt8.toInt32)))))).1 = h0.1 := hn
  replace hs : (ax_put h p (.inl (1, 2048, .inl (upd (M 8) (nI l).toNatClampNeg (vp_nar .byte ((x >>> (24 &&& 31)).toInt8.toInt32)))))).2.1 = h0.2.1 := hs
  generalize ax_put h p (.inl (1, 2048, .inl (upd (M 8) (nI l).toNatClampNeg (vp_nar .byte ((x >>> (24 &&& 31)).toInt8.toInt32))))) = hp_1 at hF hf hn hs ⊢
  replace hF : ax_hs hp_1 [cRo m p al M, (p, .inl (1, 2048, .inl (upd (M 8) l (vp_nar .byte (x >>> (24 &&& 31)).toInt8.toInt32)))), cRB (p + 1) 400 (M 10), cRI (p + 2) 2 (M 11), cRI (p + 3) 48 (M 12), cRZ (p + 4) 48 (M 13), cRB (p + 5) 9600 (M 14), cRI (p + 6) 48 (M 15), cRI (p + 7) 48 (M 16), cRI (p + 8) 48 (M 17), cRB (p + 9) 393216 (M 18), cRZ (p + 10) 912 (M 19), cRI (p + 11) 12 (M 27), cRI (p + 12) 12 (M 28), cRI (p + 13) 12 (M 29), cRB (p + 14) 4800 (M 30), cRI (p + 15) 24 (M 31), cRB (p + 16) 24576 (M 32), cRI (p + 17) 12 (M 33), cRI al AL (M 34), cRI (p + 19) 24576 (M 35), cRI (p + 20) 12 (M 36)] := by
    have e := hF
    rw [nI_clamp (show l < 2 ^ 31 by omega)] at e
    exact e
  refine ar_aload_n 21 d_177_20 rfl rfl ?_
  refine ar_dup 22 d_177_21 rfl rfl ?_
  refine ar_getf 25 d_177_22 rfl (ci := 11) (k := 9) rfl (hF.at 0 rfl) (show _ = some (.int ((M 0) 9)) from rfl) ?_
  refine ar_top (x' := nI l) (e9) ?_
  refine ar_iconst 26 (v := 1) d_177_25 rfl (by decide) ?_
  refine ar_iadd 27 d_177_26 rfl ?_
  refine ar_top (x' := nI (l + 1)) (nI_1 l) ?_
  refine ar_putf 30 (RV p al (upd (M 0) 9 (nI (l + 1)))) d_177_27 rfl (ci := 11) (k := 9) rfl rfl (hF.at 0 rfl) (Nat.le_of_ble_eq_true rfl) rfl rfl rfl ?_
  replace hF : ax_hs (ax_put hp_1 m (.inr (11, RV p al (upd (M 0) 9 (nI (l + 1)))))) [(m, .inr (11, RV p al (upd (M 0) 9 (nI (l + 1))))), (p, .inl (1, 2048, .inl (upd (M 8) l (vp_nar .byte (x >>> (24 &&& 31)).toInt8.toInt32)))), cRB (p + 1) 400 (M 10), cRI (p + 2) 2 (M 11), cRI (p + 3) 48 (M 12), cRZ (p + 4) 48 (M 13), cRB (p + 5) 9600 (M 14), cRI (p + 6) 48 (M 15), cRI (p + 7) 48 (M 16), cRI (p + 8) 48 (M 17), cRB (p + 9) 393216 (M 18), cRZ (p + 10) 912 (M 19), cRI (p + 11) 12 (M 27), cRI (p + 12) 12 (M 28), cRI (p + 13) 12 (M 29), cRB (p + 14) 4800 (M 30), cRI (p + 15) 24 (M 31), cRB (p + 16) 24576 (M 32), cRI (p + 17) 12 (M 33), cRI al AL (M 34), cRI (p + 19) 24576 (M 35), cRI (p + 20) 12 (M 36)] := hF.put 0 _ rfl rfl
  replace hf := hf.put (a := m) (c := .inr (11, RV p al (upd (M 0) 9 (nI (l + 1))))) (show m ≤ m by omega)
  replace hn : (ax_put hp_1 m (.inr (11, RV p al (upd (M 0) 9 (nI (l + 1)))))).1 = h0.1 := hn
  replace hs : (ax_put hp_1 m (.inr (11, RV p al (upd (M 0) 9 (nI (l + 1)))))).2.1 = h0.2.1 := hs
  generalize ax_put hp_1 m (.inr (11, RV p al (upd (M 0) 9 (nI (l + 1))))) = hp_2 at hF hf hn hs ⊢
  refine ar_iinc 33 [(0, .ref m), (1, .int x), (2, .int 16)] d_177_30 rfl rfl (by decide) (by decide) rfl ?_
  refine ar_goto 3 d_177_33 (by decide) ?_
  refine ar_iload_n 4 d_177_3 rfl rfl ?_
  refine ar_if_lt 36 7 d_177_4 (by decide) rfl (fun c => absurd c (by decide)) (fun _ => ?_)
  refine ar_aload_n 8 d_177_7 rfl rfl ?_
  refine ar_getf 11 d_177_8 rfl (ci := 11) (k := 8) rfl (hF.at 0 rfl) (show _ = some (.ref p) from rfl) ?_
  refine ar_aload_n 12 d_177_11 rfl rfl ?_
  refine ar_getf 15 d_177_12 rfl (ci := 11) (k := 9) rfl (hF.at 0 rfl) (show _ = some (.int (nI (l + 1))) from rfl) ?_
  refine ar_top (x' := nI (l + 1)) (rfl) ?_
  refine ar_iload_n 16 d_177_15 rfl rfl ?_
  refine ar_iload_n 17 d_177_16 rfl rfl ?_
  refine ar_ishr 18 d_177_17 rfl ?_
  refine ar_i2b 19 d_177_18 rfl ?_
  refine ar_bast 20 d_177_19 rfl (hF.at 1 rfl) (vin (by omega) (by omega)) ?_
  replace hF : ax_hs (ax_put hp_2 p (.inl (1, 2048, .inl (upd (upd (M 8) l (vp_nar .byte (x >>> (24 &&& 31)).toInt8.toInt32)) (nI (l + 1)).toNatClampNeg (vp_nar .byte ((x >>> (16 &&& 31)).toInt8.toInt32)))))) [(m, .inr (11, RV p al (upd (M 0) 9 (nI (l + 1))))), (p, .inl (1, 2048, .inl (upd (upd (M 8) l (vp_nar .byte (x >>> (24 &&& 31)).toInt8.toInt32)) (nI (l + 1)).toNatClampNeg (vp_nar .byte ((x >>> (16 &&& 31)).toInt8.toInt32))))), cRB (p + 1) 400 (M 10), cRI (p + 2) 2 (M 11), cRI (p + 3) 48 (M 12), cRZ (p + 4) 48 (M 13), cRB (p + 5) 9600 (M 14), cRI (p + 6) 48 (M 15), cRI (p + 7) 48 (M 16), cRI (p + 8) 48 (M 17), cRB (p + 9) 393216 (M 18), cRZ (p + 10) 912 (M 19), cRI (p + 11) 12 (M 27), cRI (p + 12) 12 (M 28), cRI (p + 13) 12 (M 29), cRB (p + 14) 4800 (M 30), cRI (p + 15) 24 (M 31), cRB (p + 16) 24576 (M 32), cRI (p + 17) 12 (M 33), cRI al AL (M 34), cRI (p + 19) 24576 (M 35), cRI (p + 20) 12 (M 36)] := hF.put 1 _ rfl rfl
  replace hf := hf.put (a := p) (c := .inl (1, 2048, .inl (upd (upd (M 8) l (vp_nar .byte (x >>> (24 &&& 31)).toInt8.toInt32)) (nI (l + 1)).toNatClampNeg (vp_nar .byte ((x >>> (16 &&& 31)).toInt8.toInt32))))) (show m ≤ p by omega)
  replace hn : (ax_put hp_2 p (.inl (1, 2048, .inl (upd (upd (M 8) l (vp_nar .byte (x >>> (24 &&& 31)).toInt8.toInt32)) (nI (l + 1)).toNatClampNeg (vp_nar .byte ((x >>> (16 &&& 31)).toInt8.toInt32)))))).1 = h0.1 := hn
  replace hs : (ax_put hp_2 p (.inl (1, 2048, .inl (upd (upd (M 8) l (vp_nar .byte (x >>> (24 &&& 31)).toInt8.toInt32)) (nI (l + 1)).toNatClampNeg (vp_nar .byte ((x >>> (16 &&& 31)).toInt8.toInt32)))))).2.1 = h0.2.1 := hs
  generalize ax_put hp_2 p (.inl (1, 2048, .inl (upd (upd (M 8) l (vp_nar .byte (x >>> (24 &&& 31)).toInt8.toInt32)) (nI (l + 1)).toNatClampNeg (vp_nar .byte ((x >>> (16 &&& 31)).toInt8.toInt32))))) = hp_3 at hF hf hn hs ⊢
  replace hF : ax_hs hp_3 [(m, .inr (11, RV p al (upd (M 0) 9 (nI (l + 1))))), (p, .inl (1, 2048, .inl (upd (upd (M 8) l (vp_nar .byte (x >>> (24 &&& 31)).toInt8.toInt32)) (l + 1) (vp_nar .byte (x >>> (16 &&& 31)).toInt8.toInt32)))), cRB (p + 1) 400 (M 10), cRI (p + 2) 2 (M 11), cRI (p + 3) 48 (M 12), cRZ (p + 4) 48 (M 13), cRB (p + 5) 9600 (M 14), cRI (p + 6) 48 (M 15), cRI (p + 7) 48 (M 16), cRI (p + 8) 48 (M 17), cRB (p + 9) 393216 (M 18), cRZ (p + 10) 912 (M 19), cRI (p + 11) 12 (M 27), cRI (p + 12) 12 (M 28), cRI (p + 13) 12 (M 29), cRB (p + 14) 4800 (M 30), cRI (p + 15) 24 (M 31), cRB (p + 16) 24576 (M 32), cRI (p + 17) 12 (M 33), cRI al AL (M 34), cRI (p + 19) 24576 (M 35), cRI (p + 20) 12 (M 36)] := by
    have e := hF
    rw [nI_clamp (show l + 1 < 2 ^ 31 by omega)] at e
    exact e
  refine ar_aload_n 21 d_177_20 rfl rfl ?_
  refine ar_dup 22 d_177_21 rfl rfl ?_
  refine ar_getf 25 d_177_22 rfl (ci := 11) (k := 9) rfl (hF.at 0 rfl) (show _ = some (.int (nI (l + 1))) from rfl) ?_
  refine ar_top (x' := nI (l + 1)) (rfl) ?_
  refine ar_iconst 26 (v := 1) d_177_25 rfl (by decide) ?_
  refine ar_iadd 27 d_177_26 rfl ?_
  refine ar_top (x' := nI (l + 2)) (nI_1 (l + 1)) ?_
  refine ar_putf 30 (RV p al (upd (upd (M 0) 9 (nI (l + 1))) 9 (nI (l + 2)))) d_177_27 rfl (ci := 11) (k := 9) rfl rfl (hF.at 0 rfl) (Nat.le_of_ble_eq_true rfl) rfl rfl rfl ?_
  replace hF : ax_hs (ax_put hp_3 m (.inr (11, RV p al (upd (upd (M 0) 9 (nI (l + 1))) 9 (nI (l + 2)))))) [(m, .inr (11, RV p al (upd (upd (M 0) 9 (nI (l + 1))) 9 (nI (l + 2))))), (p, .inl (1, 2048, .inl (upd (upd (M 8) l (vp_nar .byte (x >>> (24 &&& 31)).toInt8.toInt32)) (l + 1) (vp_nar .byte (x >>> (16 &&& 31)).toInt8.toInt32)))), cRB (p + 1) 400 (M 10), cRI (p + 2) 2 (M 11), cRI (p + 3) 48 (M 12), cRZ (p + 4) 48 (M 13), cRB (p + 5) 9600 (M 14), cRI (p + 6) 48 (M 15), cRI (p + 7) 48 (M 16), cRI (p + 8) 48 (M 17), cRB (p + 9) 393216 (M 18), cRZ (p + 10) 912 (M 19), cRI (p + 11) 12 (M 27), cRI (p + 12) 12 (M 28), cRI (p + 13) 12 (M 29), cRB (p + 14) 4800 (M 30), cRI (p + 15) 24 (M 31), cRB (p + 16) 24576 (M 32), cRI (p + 17) 12 (M 33), cRI al AL (M 34), cRI (p + 19) 24576 (M 35), cRI (p + 20) 12 (M 36)] := hF.put 0 _ rfl rfl
  replace hf := hf.put (a := m) (c := .inr (11, RV p al (upd (upd (M 0) 9 (nI (l + 1))) 9 (nI (l + 2))))) (show m ≤ m by omega)
  replace hn : (ax_put hp_3 m (.inr (11, RV p al (upd (upd (M 0) 9 (nI (l + 1))) 9 (nI (l + 2)))))).1 = h0.1 := hn
  replace hs : (ax_put hp_3 m (.inr (11, RV p al (upd (upd (M 0) 9 (nI (l + 1))) 9 (nI (l + 2)))))).2.1 = h0.2.1 := hs
  generalize ax_put hp_3 m (.inr (11, RV p al (upd (upd (M 0) 9 (nI (l + 1))) 9 (nI (l + 2))))) = hp_4 at hF hf hn hs ⊢
  refine ar_iinc 33 [(0, .ref m), (1, .int x), (2, .int 8)] d_177_30 rfl rfl (by decide) (by decide) rfl ?_
  refine ar_goto 3 d_177_33 (by decide) ?_
  refine ar_iload_n 4 d_177_3 rfl rfl ?_
  refine ar_if_lt 36 7 d_177_4 (by decide) rfl (fun c => absurd c (by decide)) (fun _ => ?_)
  refine ar_aload_n 8 d_177_7 rfl rfl ?_
  refine ar_getf 11 d_177_8 rfl (ci := 11) (k := 8) rfl (hF.at 0 rfl) (show _ = some (.ref p) from rfl) ?_
  refine ar_aload_n 12 d_177_11 rfl rfl ?_
  refine ar_getf 15 d_177_12 rfl (ci := 11) (k := 9) rfl (hF.at 0 rfl) (show _ = some (.int (nI (l + 2))) from rfl) ?_
  refine ar_top (x' := nI (l + 2)) (rfl) ?_
  refine ar_iload_n 16 d_177_15 rfl rfl ?_
  refine ar_iload_n 17 d_177_16 rfl rfl ?_
  refine ar_ishr 18 d_177_17 rfl ?_
  refine ar_i2b 19 d_177_18 rfl ?_
  refine ar_bast 20 d_177_19 rfl (hF.at 1 rfl) (vin (by omega) (by omega)) ?_
  replace hF : ax_hs (ax_put hp_4 p (.inl (1, 2048, .inl (upd (upd (upd (M 8) l (vp_nar .byte (x >>> (24 &&& 31)).toInt8.toInt32)) (l + 1) (vp_nar .byte (x >>> (16 &&& 31)).toInt8.toInt32)) (nI (l + 2)).toNatClampNeg (vp_nar .byte ((x >>> (8 &&& 31)).toInt8.toInt32)))))) [(m, .inr (11, RV p al (upd (upd (M 0) 9 (nI (l + 1))) 9 (nI (l + 2))))), (p, .inl (1, 2048, .inl (upd (upd (upd (M 8) l (vp_nar .byte (x >>> (24 &&& 31)).toInt8.toInt32)) (l + 1) (vp_nar .byte (x >>> (16 &&& 31)).toInt8.toInt32)) (nI (l + 2)).toNatClampNeg (vp_nar .byte ((x >>> (8 &&& 31)).toInt8.toInt32))))), cRB (p + 1) 400 (M 10), cRI (p + 2) 2 (M 11), cRI (p + 3) 48 (M 12), cRZ (p + 4) 48 (M 13), cRB (p + 5) 9600 (M 14), cRI (p + 6) 48 (M 15), cRI (p + 7) 48 (M 16), cRI (p + 8) 48 (M 17), cRB (p + 9) 393216 (M 18), cRZ (p + 10) 912 (M 19), cRI (p + 11) 12 (M 27), cRI (p + 12) 12 (M 28), cRI (p + 13) 12 (M 29), cRB (p + 14) 4800 (M 30), cRI (p + 15) 24 (M 31), cRB (p + 16) 24576 (M 32), cRI (p + 17) 12 (M 33), cRI al AL (M 34), cRI (p + 19) 24576 (M 35), cRI (p + 20) 12 (M 36)] := hF.put 1 _ rfl rfl
  replace hf := hf.put (a := p) (c := .inl (1, 2048, .inl (upd (upd (upd (M 8) l (vp_nar .byte (x >>> (24 &&& 31)).toInt8.toInt32)) (l + 1) (vp_nar .byte (x >>> (16 &&& 31)).toInt8.toInt32)) (nI (l + 2)).toNatClampNeg (vp_nar .byte ((x >>> (8 &&& 31)).toInt8.toInt32))))) (show m ≤ p by omega)
  replace hn : (ax_put hp_4 p (.inl (1, 2048, .inl (upd (upd (upd (M 8) l (vp_nar .byte (x >>> (24 &&& 31)).toInt8.toInt32)) (l + 1) (vp_nar .byte (x >>> (16 &&& 31)).toInt8.toInt32)) (nI (l + 2)).toNatClampNeg (vp_nar .byte ((x >>> (8 &&& 31)).toInt8.toInt32)))))).1 = h0.1 := hn
  replace hs : (ax_put hp_4 p (.inl (1, 2048, .inl (upd (upd (upd (M 8) l (vp_nar .byte (x >>> (24 &&& 31)).toInt8.toInt32)) (l + 1) (vp_nar .byte (x >>> (16 &&& 31)).toInt8.toInt32)) (nI (l + 2)).toNatClampNeg (vp_nar .byte ((x >>> (8 &&& 31)).toInt8.toInt32)))))).2.1 = h0.2.1 := hs
  generalize ax_put hp_4 p (.inl (1, 2048, .inl (upd (upd (upd (M 8) l (vp_nar .byte (x >>> (24 &&& 31)).toInt8.toInt32)) (l + 1) (vp_nar .byte (x >>> (16 &&& 31)).toInt8.toInt32)) (nI (l + 2)).toNatClampNeg (vp_nar .byte ((x >>> (8 &&& 31)).toInt8.toInt32))))) = hp_5 at hF hf hn hs ⊢
  replace hF : ax_hs hp_5 [(m, .inr (11, RV p al (upd (upd (M 0) 9 (nI (l + 1))) 9 (nI (l + 2))))), (p, .inl (1, 2048, .inl (upd (upd (upd (M 8) l (vp_nar .byte (x >>> (24 &&& 31)).toInt8.toInt32)) (l + 1) (vp_nar .byte (x >>> (16 &&& 31)).toInt8.toInt32)) (l + 2) (vp_nar .byte (x >>> (8 &&& 31)).toInt8.toInt32)))), cRB (p + 1) 400 (M 10), cRI (p + 2) 2 (M 11), cRI (p + 3) 48 (M 12), cRZ (p + 4) 48 (M 13), cRB (p + 5) 9600 (M 14), cRI (p + 6) 48 (M 15), cRI (p + 7) 48 (M 16), cRI (p + 8) 48 (M 17), cRB (p + 9) 393216 (M 18), cRZ (p + 10) 912 (M 19), cRI (p + 11) 12 (M 27), cRI (p + 12) 12 (M 28), cRI (p + 13) 12 (M 29), cRB (p + 14) 4800 (M 30), cRI (p + 15) 24 (M 31), cRB (p + 16) 24576 (M 32), cRI (p + 17) 12 (M 33), cRI al AL (M 34), cRI (p + 19) 24576 (M 35), cRI (p + 20) 12 (M 36)] := by
    have e := hF
    rw [nI_clamp (show l + 2 < 2 ^ 31 by omega)] at e
    exact e
  refine ar_aload_n 21 d_177_20 rfl rfl ?_
  refine ar_dup 22 d_177_21 rfl rfl ?_
  refine ar_getf 25 d_177_22 rfl (ci := 11) (k := 9) rfl (hF.at 0 rfl) (show _ = some (.int (nI (l + 2))) from rfl) ?_
  refine ar_top (x' := nI (l + 2)) (rfl) ?_
  refine ar_iconst 26 (v := 1) d_177_25 rfl (by decide) ?_
  refine ar_iadd 27 d_177_26 rfl ?_
  refine ar_top (x' := nI (l + 3)) (nI_1 (l + 2)) ?_
  refine ar_putf 30 (RV p al (upd (upd (upd (M 0) 9 (nI (l + 1))) 9 (nI (l + 2))) 9 (nI (l + 3)))) d_177_27 rfl (ci := 11) (k := 9) rfl rfl (hF.at 0 rfl) (Nat.le_of_ble_eq_true rfl) rfl rfl rfl ?_
  replace hF : ax_hs (ax_put hp_5 m (.inr (11, RV p al (upd (upd (upd (M 0) 9 (nI (l + 1))) 9 (nI (l + 2))) 9 (nI (l + 3)))))) [(m, .inr (11, RV p al (upd (upd (upd (M 0) 9 (nI (l + 1))) 9 (nI (l + 2))) 9 (nI (l + 3))))), (p, .inl (1, 2048, .inl (upd (upd (upd (M 8) l (vp_nar .byte (x >>> (24 &&& 31)).toInt8.toInt32)) (l + 1) (vp_nar .byte (x >>> (16 &&& 31)).toInt8.toInt32)) (l + 2) (vp_nar .byte (x >>> (8 &&& 31)).toInt8.toInt32)))), cRB (p + 1) 400 (M 10), cRI (p + 2) 2 (M 11), cRI (p + 3) 48 (M 12), cRZ (p + 4) 48 (M 13), cRB (p + 5) 9600 (M 14), cRI (p + 6) 48 (M 15), cRI (p + 7) 48 (M 16), cRI (p + 8) 48 (M 17), cRB (p + 9) 393216 (M 18), cRZ (p + 10) 912 (M 19), cRI (p + 11) 12 (M 27), cRI (p + 12) 12 (M 28), cRI (p + 13) 12 (M 29), cRB (p + 14) 4800 (M 30), cRI (p + 15) 24 (M 31), cRB (p + 16) 24576 (M 32), cRI (p + 17) 12 (M 33), cRI al AL (M 34), cRI (p + 19) 24576 (M 35), cRI (p + 20) 12 (M 36)] := hF.put 0 _ rfl rfl
  replace hf := hf.put (a := m) (c := .inr (11, RV p al (upd (upd (upd (M 0) 9 (nI (l + 1))) 9 (nI (l + 2))) 9 (nI (l + 3))))) (show m ≤ m by omega)
  replace hn : (ax_put hp_5 m (.inr (11, RV p al (upd (upd (upd (M 0) 9 (nI (l + 1))) 9 (nI (l + 2))) 9 (nI (l + 3)))))).1 = h0.1 := hn
  replace hs : (ax_put hp_5 m (.inr (11, RV p al (upd (upd (upd (M 0) 9 (nI (l + 1))) 9 (nI (l + 2))) 9 (nI (l + 3)))))).2.1 = h0.2.1 := hs
  generalize ax_put hp_5 m (.inr (11, RV p al (upd (upd (upd (M 0) 9 (nI (l + 1))) 9 (nI (l + 2))) 9 (nI (l + 3))))) = hp_6 at hF hf hn hs ⊢
  refine ar_iinc 33 [(0, .ref m), (1, .int x), (2, .int 0)] d_177_30 rfl rfl (by decide) (by decide) rfl ?_
  refine ar_goto 3 d_177_33 (by decide) ?_
  refine ar_iload_n 4 d_177_3 rfl rfl ?_
  refine ar_if_lt 36 7 d_177_4 (by decide) rfl (fun c => absurd c (by decide)) (fun _ => ?_)
  refine ar_aload_n 8 d_177_7 rfl rfl ?_
  refine ar_getf 11 d_177_8 rfl (ci := 11) (k := 8) rfl (hF.at 0 rfl) (show _ = some (.ref p) from rfl) ?_
  refine ar_aload_n 12 d_177_11 rfl rfl ?_
  refine ar_getf 15 d_177_12 rfl (ci := 11) (k := 9) rfl (hF.at 0 rfl) (show _ = some (.int (nI (l + 3))) from rfl) ?_
  refine ar_top (x' := nI (l + 3)) (rfl) ?_
  refine ar_iload_n 16 d_177_15 rfl rfl ?_
  refine ar_iload_n 17 d_177_16 rfl rfl ?_
  refine ar_ishr 18 d_177_17 rfl ?_
  refine ar_i2b 19 d_177_18 rfl ?_
  refine ar_bast 20 d_177_19 rfl (hF.at 1 rfl) (vin (by omega) (by omega)) ?_
  replace hF : ax_hs (ax_put hp_6 p (.inl (1, 2048, .inl (upd (upd (upd (upd (M 8) l (vp_nar .byte (x >>> (24 &&& 31)).toInt8.toInt32)) (l + 1) (vp_nar .byte (x >>> (16 &&& 31)).toInt8.toInt32)) (l + 2) (vp_nar .byte (x >>> (8 &&& 31)).toInt8.toInt32)) (nI (l + 3)).toNatClampNeg (vp_nar .byte ((x >>> (0 &&& 31)).toInt8.toInt32)))))) [(m, .inr (11, RV p al (upd (upd (upd (M 0) 9 (nI (l + 1))) 9 (nI (l + 2))) 9 (nI (l + 3))))), (p, .inl (1, 2048, .inl (upd (upd (upd (upd (M 8) l (vp_nar .byte (x >>> (24 &&& 31)).toInt8.toInt32)) (l + 1) (vp_nar .byte (x >>> (16 &&& 31)).toInt8.toInt32)) (l + 2) (vp_nar .byte (x >>> (8 &&& 31)).toInt8.toInt32)) (nI (l + 3)).toNatClampNeg (vp_nar .byte ((x >>> (0 &&& 31)).toInt8.toInt32))))), cRB (p + 1) 400 (M 10), cRI (p + 2) 2 (M 11), cRI (p + 3) 48 (M 12), cRZ (p + 4) 48 (M 13), cRB (p + 5) 9600 (M 14), cRI (p + 6) 48 (M 15), cRI (p + 7) 48 (M 16), cRI (p + 8) 48 (M 17), cRB (p + 9) 393216 (M 18), cRZ (p + 10) 912 (M 19), cRI (p + 11) 12 (M 27), cRI (p + 12) 12 (M 28), cRI (p + 13) 12 (M 29), cRB (p + 14) 4800 (M 30), cRI (p + 15) 24 (M 31), cRB (p + 16) 24576 (M 32), cRI (p + 17) 12 (M 33), cRI al AL (M 34), cRI (p + 19) 24576 (M 35), cRI (p + 20) 12 (M 36)] := hF.put 1 _ rfl rfl
  replace hf := hf.put (a := p) (c := .inl (1, 2048, .inl (upd (upd (upd (upd (M 8) l (vp_nar .byte (x >>> (24 &&& 31)).toInt8.toInt32)) (l + 1) (vp_nar .byte (x >>> (16 &&& 31)).toInt8.toInt32)) (l + 2) (vp_nar .byte (x >>> (8 &&& 31)).toInt8.toInt32)) (nI (l + 3)).toNatClampNeg (vp_nar .byte ((x >>> (0 &&& 31)).toInt8.toInt32))))) (show m ≤ p by omega)
  replace hn : (ax_put hp_6 p (.inl (1, 2048, .inl (upd (upd (upd (upd (M 8) l (vp_nar .byte (x >>> (24 &&& 31)).toInt8.toInt32)) (l + 1) (vp_nar .byte (x >>> (16 &&& 31)).toInt8.toInt32)) (l + 2) (vp_nar .byte (x >>> (8 &&& 31)).toInt8.toInt32)) (nI (l + 3)).toNatClampNeg (vp_nar .byte ((x >>> (0 &&& 31)).toInt8.toInt32)))))).1 = h0.1 := hn
  replace hs : (ax_put hp_6 p (.inl (1, 2048, .inl (upd (upd (upd (upd (M 8) l (vp_nar .byte (x >>> (24 &&& 31)).toInt8.toInt32)) (l + 1) (vp_nar .byte (x >>> (16 &&& 31)).toInt8.toInt32)) (l + 2) (vp_nar .byte (x >>> (8 &&& 31)).toInt8.toInt32)) (nI (l + 3)).toNatClampNeg (vp_nar .byte ((x >>> (0 &&& 31)).toInt8.toInt32)))))).2.1 = h0.2.1 := hs
  generalize ax_put hp_6 p (.inl (1, 2048, .inl (upd (upd (upd (upd (M 8) l (vp_nar .byte (x >>> (24 &&& 31)).toInt8.toInt32)) (l + 1) (vp_nar .byte (x >>> (16 &&& 31)).toInt8.toInt32)) (l + 2) (vp_nar .byte (x >>> (8 &&& 31)).toInt8.toInt32)) (nI (l + 3)).toNatClampNeg (vp_nar .byte ((x >>> (0 &&& 31)).toInt8.toInt32))))) = hp_7 at hF hf hn hs ⊢
  replace hF : ax_hs hp_7 [(m, .inr (11, RV p al (upd (upd (upd (M 0) 9 (nI (l + 1))) 9 (nI (l + 2))) 9 (nI (l + 3))))), (p, .inl (1, 2048, .inl (upd (upd (upd (upd (M 8) l (vp_nar .byte (x >>> (24 &&& 31)).toInt8.toInt32)) (l + 1) (vp_nar .byte (x >>> (16 &&& 31)).toInt8.toInt32)) (l + 2) (vp_nar .byte (x >>> (8 &&& 31)).toInt8.toInt32)) (l + 3) (vp_nar .byte (x >>> (0 &&& 31)).toInt8.toInt32)))), cRB (p + 1) 400 (M 10), cRI (p + 2) 2 (M 11), cRI (p + 3) 48 (M 12), cRZ (p + 4) 48 (M 13), cRB (p + 5) 9600 (M 14), cRI (p + 6) 48 (M 15), cRI (p + 7) 48 (M 16), cRI (p + 8) 48 (M 17), cRB (p + 9) 393216 (M 18), cRZ (p + 10) 912 (M 19), cRI (p + 11) 12 (M 27), cRI (p + 12) 12 (M 28), cRI (p + 13) 12 (M 29), cRB (p + 14) 4800 (M 30), cRI (p + 15) 24 (M 31), cRB (p + 16) 24576 (M 32), cRI (p + 17) 12 (M 33), cRI al AL (M 34), cRI (p + 19) 24576 (M 35), cRI (p + 20) 12 (M 36)] := by
    have e := hF
    rw [nI_clamp (show l + 3 < 2 ^ 31 by omega)] at e
    exact e
  refine ar_aload_n 21 d_177_20 rfl rfl ?_
  refine ar_dup 22 d_177_21 rfl rfl ?_
  refine ar_getf 25 d_177_22 rfl (ci := 11) (k := 9) rfl (hF.at 0 rfl) (show _ = some (.int (nI (l + 3))) from rfl) ?_
  refine ar_top (x' := nI (l + 3)) (rfl) ?_
  refine ar_iconst 26 (v := 1) d_177_25 rfl (by decide) ?_
  refine ar_iadd 27 d_177_26 rfl ?_
  refine ar_top (x' := nI (l + 4)) (nI_1 (l + 3)) ?_
  refine ar_putf 30 (RV p al (upd (upd (upd (upd (M 0) 9 (nI (l + 1))) 9 (nI (l + 2))) 9 (nI (l + 3))) 9 (nI (l + 4)))) d_177_27 rfl (ci := 11) (k := 9) rfl rfl (hF.at 0 rfl) (Nat.le_of_ble_eq_true rfl) rfl rfl rfl ?_
  replace hF : ax_hs (ax_put hp_7 m (.inr (11, RV p al (upd (upd (upd (upd (M 0) 9 (nI (l + 1))) 9 (nI (l + 2))) 9 (nI (l + 3))) 9 (nI (l + 4)))))) [(m, .inr (11, RV p al (upd (upd (upd (upd (M 0) 9 (nI (l + 1))) 9 (nI (l + 2))) 9 (nI (l + 3))) 9 (nI (l + 4))))), (p, .inl (1, 2048, .inl (upd (upd (upd (upd (M 8) l (vp_nar .byte (x >>> (24 &&& 31)).toInt8.toInt32)) (l + 1) (vp_nar .byte (x >>> (16 &&& 31)).toInt8.toInt32)) (l + 2) (vp_nar .byte (x >>> (8 &&& 31)).toInt8.toInt32)) (l + 3) (vp_nar .byte (x >>> (0 &&& 31)).toInt8.toInt32)))), cRB (p + 1) 400 (M 10), cRI (p + 2) 2 (M 11), cRI (p + 3) 48 (M 12), cRZ (p + 4) 48 (M 13), cRB (p + 5) 9600 (M 14), cRI (p + 6) 48 (M 15), cRI (p + 7) 48 (M 16), cRI (p + 8) 48 (M 17), cRB (p + 9) 393216 (M 18), cRZ (p + 10) 912 (M 19), cRI (p + 11) 12 (M 27), cRI (p + 12) 12 (M 28), cRI (p + 13) 12 (M 29), cRB (p + 14) 4800 (M 30), cRI (p + 15) 24 (M 31), cRB (p + 16) 24576 (M 32), cRI (p + 17) 12 (M 33), cRI al AL (M 34), cRI (p + 19) 24576 (M 35), cRI (p + 20) 12 (M 36)] := hF.put 0 _ rfl rfl
  replace hf := hf.put (a := m) (c := .inr (11, RV p al (upd (upd (upd (upd (M 0) 9 (nI (l + 1))) 9 (nI (l + 2))) 9 (nI (l + 3))) 9 (nI (l + 4))))) (show m ≤ m by omega)
  replace hn : (ax_put hp_7 m (.inr (11, RV p al (upd (upd (upd (upd (M 0) 9 (nI (l + 1))) 9 (nI (l + 2))) 9 (nI (l + 3))) 9 (nI (l + 4)))))).1 = h0.1 := hn
  replace hs : (ax_put hp_7 m (.inr (11, RV p al (upd (upd (upd (upd (M 0) 9 (nI (l + 1))) 9 (nI (l + 2))) 9 (nI (l + 3))) 9 (nI (l + 4)))))).2.1 = h0.2.1 := hs
  generalize ax_put hp_7 m (.inr (11, RV p al (upd (upd (upd (upd (M 0) 9 (nI (l + 1))) 9 (nI (l + 2))) 9 (nI (l + 3))) 9 (nI (l + 4))))) = hp_8 at hF hf hn hs ⊢
  refine ar_iinc 33 [(0, .ref m), (1, .int x), (2, .int (-8))] d_177_30 rfl rfl (by decide) (by decide) rfl ?_
  refine ar_goto 3 d_177_33 (by decide) ?_
  refine ar_iload_n 4 d_177_3 rfl rfl ?_
  refine ar_if_lt 36 7 d_177_4 (by decide) rfl (fun _ => ?_) (fun c => absurd (by decide) c)
  have eM : va_up (va_up M 0 (upd (upd (upd (upd (M 0) 9 (nI (l + 1))) 9 (nI (l + 2))) 9 (nI (l + 3))) 9 (nI (l + 4)))) 8 (upd (upd (upd (upd (M 8) l (vp_nar .byte (x >>> (24 &&& 31)).toInt8.toInt32)) (l + 1) (vp_nar .byte (x >>> (16 &&& 31)).toInt8.toInt32)) (l + 2) (vp_nar .byte (x >>> (8 &&& 31)).toInt8.toInt32)) (l + 3) (vp_nar .byte (x >>> (0 &&& 31)).toInt8.toInt32)) = ptM M l x := by
    unfold ptM ptB
    rw [upd2, upd2, upd2]
  have hS1 : RS m p al AL h0 hp_8 (va_up (va_up M 0 (upd (upd (upd (upd (M 0) 9 (nI (l + 1))) 9 (nI (l + 2))) 9 (nI (l + 3))) 9 (nI (l + 4)))) 8 (upd (upd (upd (upd (M 8) l (vp_nar .byte (x >>> (24 &&& 31)).toInt8.toInt32)) (l + 1) (vp_nar .byte (x >>> (16 &&& 31)).toInt8.toInt32)) (l + 2) (vp_nar .byte (x >>> (8 &&& 31)).toInt8.toInt32)) (l + 3) (vp_nar .byte (x >>> (0 &&& 31)).toInt8.toInt32))) := ⟨hF, hf, hn, hs, hp0⟩
  rw [eM] at hS1
  exact ar_ret d_177_36 rfl (⟨rfl, hS1⟩)
def fdM (M : Nat → Nat → Int32) (l : Nat) (a b c d e : Int32) : Nat → Nat → Int32 := ptM (ptM (ptM (ptM (ptM M l a) (l + 4) b) (l + 8) c) (l + 12) d) (l + 16) e
set_option maxRecDepth 100000 in
theorem r_176 {L : Nat} {xs : Nat → Int32} {fr lo : Nat} {m p al AL : Nat} {h0 h : ax_H} {M : Nat → Nat → Int32} {xa xb xc xd xe : Int32} (hfr : 1 ≤ fr) (hlo : 40 ≤ lo) (hC : RC m p al) (hS : RS m p al AL h0 h M) {l : Nat} (e9 : M 0 9 = nI l) (hl : l ≤ 2048) : ax_M L xs 176 fr lo [.ref m, .int xa, .int xb, .int xc, .int xd, .int xe] h (fun r h' => (2048 < l + 20 ∧ r = some (.int (-4)) ∧ RS m p al AL h0 h' M) ∨ (l + 20 ≤ 2048 ∧ r = some (.int (nI (l + 20))) ∧ RS m p al AL h0 h' (fdM M l xa xb xc xd xe))) := by
  have hC0 := hC
  show ax_A (ax_step L xs) ((176, 0, fr, lo), [(0, .ref m), (1, .int xa), (2, .int xb), (3, .int xc), (4, .int xd), (5, .int xe)], [], h) _
  obtain ⟨hmp, hal, hm0⟩ := hC
  obtain ⟨hF, hf, hn, hs, hp0⟩ := hS
  replace hF : ax_hs h [cRo m p al M, cRB p 2048 (M 8), cRB (p + 1) 400 (M 10), cRI (p + 2) 2 (M 11), cRI (p + 3) 48 (M 12), cRZ (p + 4) 48 (M 13), cRB (p + 5) 9600 (M 14), cRI (p + 6) 48 (M 15), cRI (p + 7) 48 (M 16), cRI (p + 8) 48 (M 17), cRB (p + 9) 393216 (M 18), cRZ (p + 10) 912 (M 19), cRI (p + 11) 12 (M 27), cRI (p + 12) 12 (M 28), cRI (p + 13) 12 (M 29), cRB (p + 14) 4800 (M 30), cRI (p + 15) 24 (M 31), cRB (p + 16) 24576 (M 32), cRI (p + 17) 12 (M 33), cRI al AL (M 34), cRI (p + 19) 24576 (M 35), cRI (p + 20) 12 (M 36)] := hF
  refine ar_aload_n 1 d_176_0 rfl rfl ?_
  refine ar_getf 4 d_176_1 rfl (ci := 11) (k := 9) rfl (hF.at 0 rfl) (show _ = some (.int ((M 0) 9)) from rfl) ?_
  refine ar_top (x' := nI l) (e9) ?_
  refine ar_bipush 6 (v := 20) d_176_4 rfl (by decide) ?_
  refine ar_iadd 7 d_176_6 rfl ?_
  refine ar_top (x' := nI (l + 20)) (nI_add l 20) ?_
  refine ar_sipush 10 (v := 2048) d_176_7 rfl (by decide) ?_
  refine ar_icmp_le 16 13 d_176_10 (by decide) rfl (fun c1 => ?_) (fun c1 => ?_)
  · have hl2 : l + 20 ≤ 2048 := (nI_leI (by omega) (by decide)).mp (show nI (l + 20) ≤ nI 2048 from c1)
    refine ar_aload_n 17 d_176_16 rfl rfl ?_
    refine ar_iload_n 18 d_176_17 rfl rfl ?_
    have hS1 : RS m p al AL h0 h M := ⟨hF, hf, hn, hs, hp0⟩
    refine ar_call (r := []) (na := 0) (kd := 0) (cm := 177) (fr2 := fr - 1) (lo2 := lo - 22) 21 d_176_18 (ar_hoV (as := [.int xa]) rfl rfl rfl (hF.at 0 rfl)) rfl (by omega) (show lo - 22 + (19 + 3) = lo by omega) (Nat.le_of_ble_eq_true rfl) (Nat.le_of_ble_eq_true rfl) (r_177 (l := l) (by omega) (by omega) hC0 hS1 e9 (by omega)) ?_
    intro v hp_1 hq
    obtain ⟨rfl, hS2⟩ := hq
    clear hS1 hF hf hn hs hp0
    obtain ⟨hF, hf, hn, hs, hp0⟩ := hS2
    replace hF : ax_hs hp_1 [cRo m p al (ptM M l xa), cRB p 2048 ((ptM M l xa) 8), cRB (p + 1) 400 ((ptM M l xa) 10), cRI (p + 2) 2 ((ptM M l xa) 11), cRI (p + 3) 48 ((ptM M l xa) 12), cRZ (p + 4) 48 ((ptM M l xa) 13), cRB (p + 5) 9600 ((ptM M l xa) 14), cRI (p + 6) 48 ((ptM M l xa) 15), cRI (p + 7) 48 ((ptM M l xa) 16), cRI (p + 8) 48 ((ptM M l xa) 17), cRB (p + 9) 393216 ((ptM M l xa) 18), cRZ (p + 10) 912 ((ptM M l xa) 19), cRI (p + 11) 12 ((ptM M l xa) 27), cRI (p + 12) 12 ((ptM M l xa) 28), cRI (p + 13) 12 ((ptM M l xa) 29), cRB (p + 14) 4800 ((ptM M l xa) 30), cRI (p + 15) 24 ((ptM M l xa) 31), cRB (p + 16) 24576 ((ptM M l xa) 32), cRI (p + 17) 12 ((ptM M l xa) 33), cRI al AL ((ptM M l xa) 34), cRI (p + 19) 24576 ((ptM M l xa) 35), cRI (p + 20) 12 ((ptM M l xa) 36)] := hF
    refine ar_aload_n 22 d_176_21 rfl rfl ?_
    refine ar_iload_n 23 d_176_22 rfl rfl ?_
    have hS1 : RS m p al AL h0 hp_1 (ptM M l xa) := ⟨hF, hf, hn, hs, hp0⟩
    refine ar_call (r := []) (na := 0) (kd := 0) (cm := 177) (fr2 := fr - 1) (lo2 := lo - 22) 26 d_176_23 (ar_hoV (as := [.int xb]) rfl rfl rfl (hF.at 0 rfl)) rfl (by omega) (show lo - 22 + (19 + 3) = lo by omega) (Nat.le_of_ble_eq_true rfl) (Nat.le_of_ble_eq_true rfl) (r_177 (l := l + 4) (by omega) (by omega) hC0 hS1 rfl (by omega)) ?_
    intro v hp_2 hq
    obtain ⟨rfl, hS2⟩ := hq
    clear hS1 hF hf hn hs hp0
    obtain ⟨hF, hf, hn, hs, hp0⟩ := hS2
    replace hF : ax_hs hp_2 [cRo m p al (ptM (ptM M l xa) (l + 4) xb), cRB p 2048 ((ptM (ptM M l xa) (l + 4) xb) 8), cRB (p + 1) 400 ((ptM (ptM M l xa) (l + 4) xb) 10), cRI (p + 2) 2 ((ptM (ptM M l xa) (l + 4) xb) 11), cRI (p + 3) 48 ((ptM (ptM M l xa) (l + 4) xb) 12), cRZ (p + 4) 48 ((ptM (ptM M l xa) (l + 4) xb) 13), cRB (p + 5) 9600 ((ptM (ptM M l xa) (l + 4) xb) 14), cRI (p + 6) 48 ((ptM (ptM M l xa) (l + 4) xb) 15), cRI (p + 7) 48 ((ptM (ptM M l xa) (l + 4) xb) 16), cRI (p + 8) 48 ((ptM (ptM M l xa) (l + 4) xb) 17), cRB (p + 9) 393216 ((ptM (ptM M l xa) (l + 4) xb) 18), cRZ (p + 10) 912 ((ptM (ptM M l xa) (l + 4) xb) 19), cRI (p + 11) 12 ((ptM (ptM M l xa) (l + 4) xb) 27), cRI (p + 12) 12 ((ptM (ptM M l xa) (l + 4) xb) 28), cRI (p + 13) 12 ((ptM (ptM M l xa) (l + 4) xb) 29), cRB (p + 14) 4800 ((ptM (ptM M l xa) (l + 4) xb) 30), cRI (p + 15) 24 ((ptM (ptM M l xa) (l + 4) xb) 31), cRB (p + 16) 24576 ((ptM (ptM M l xa) (l + 4) xb) 32), cRI (p + 17) 12 ((ptM (ptM M l xa) (l + 4) xb) 33), cRI al AL ((ptM (ptM M l xa) (l + 4) xb) 34), cRI (p + 19) 24576 ((ptM (ptM M l xa) (l + 4) xb) 35), cRI (p + 20) 12 ((ptM (ptM M l xa) (l + 4) xb) 36)] := hF
    refine ar_aload_n 27 d_176_26 rfl rfl ?_
    refine ar_iload_n 28 d_176_27 rfl rfl ?_
    have hS1 : RS m p al AL h0 hp_2 (ptM (ptM M l xa) (l + 4) xb) := ⟨hF, hf, hn, hs, hp0⟩
    refine ar_call (r := []) (na := 0) (kd := 0) (cm := 177) (fr2 := fr - 1) (lo2 := lo - 22) 31 d_176_28 (ar_hoV (as := [.int xc]) rfl rfl rfl (hF.at 0 rfl)) rfl (by omega) (show lo - 22 + (19 + 3) = lo by omega) (Nat.le_of_ble_eq_true rfl) (Nat.le_of_ble_eq_true rfl) (r_177 (l := l + 8) (by omega) (by omega) hC0 hS1 rfl (by omega)) ?_
    intro v hp_3 hq
    obtain ⟨rfl, hS2⟩ := hq
    clear hS1 hF hf hn hs hp0
    obtain ⟨hF, hf, hn, hs, hp0⟩ := hS2
    replace hF : ax_hs hp_3 [cRo m p al (ptM (ptM (ptM M l xa) (l + 4) xb) (l + 8) xc), cRB p 2048 ((ptM (ptM (ptM M l xa) (l + 4) xb) (l + 8) xc) 8), cRB (p + 1) 400 ((ptM (ptM (ptM M l xa) (l + 4) xb) (l + 8) xc) 10), cRI (p + 2) 2 ((ptM (ptM (ptM M l xa) (l + 4) xb) (l + 8) xc) 11), cRI (p + 3) 48 ((ptM (ptM (ptM M l xa) (l + 4) xb) (l + 8) xc) 12), cRZ (p + 4) 48 ((ptM (ptM (ptM M l xa) (l + 4) xb) (l + 8) xc) 13), cRB (p + 5) 9600 ((ptM (ptM (ptM M l xa) (l + 4) xb) (l + 8) xc) 14), cRI (p + 6) 48 ((ptM (ptM (ptM M l xa) (l + 4) xb) (l + 8) xc) 15), cRI (p + 7) 48 ((ptM (ptM (ptM M l xa) (l + 4) xb) (l + 8) xc) 16), cRI (p + 8) 48 ((ptM (ptM (ptM M l xa) (l + 4) xb) (l + 8) xc) 17), cRB (p + 9) 393216 ((ptM (ptM (ptM M l xa) (l + 4) xb) (l + 8) xc) 18), cRZ (p + 10) 912 ((ptM (ptM (ptM M l xa) (l + 4) xb) (l + 8) xc) 19), cRI (p + 11) 12 ((ptM (ptM (ptM M l xa) (l + 4) xb) (l + 8) xc) 27), cRI (p + 12) 12 ((ptM (ptM (ptM M l xa) (l + 4) xb) (l + 8) xc) 28), cRI (p + 13) 12 ((ptM (ptM (ptM M l xa) (l + 4) xb) (l + 8) xc) 29), cRB (p + 14) 4800 ((ptM (ptM (ptM M l xa) (l + 4) xb) (l + 8) xc) 30), cRI (p + 15) 24 ((ptM (ptM (ptM M l xa) (l + 4) xb) (l + 8) xc) 31), cRB (p + 16) 24576 ((ptM (ptM (ptM M l xa) (l + 4) xb) (l + 8) xc) 32), cRI (p + 17) 12 ((ptM (ptM (ptM M l xa) (l + 4) xb) (l + 8) xc) 33), cRI al AL ((ptM (ptM (ptM M l xa) (l + 4) xb) (l + 8) xc) 34), cRI (p + 19) 24576 ((ptM (ptM (ptM M l xa) (l + 4) xb) (l + 8) xc) 35), cRI (p + 20) 12 ((ptM (ptM (ptM M l xa) (l + 4) xb) (l + 8) xc) 36)] := hF
    refine ar_aload_n 32 d_176_31 rfl rfl ?_
    refine ar_iload 34 d_176_32 rfl rfl ?_
    have hS1 : RS m p al AL h0 hp_3 (ptM (ptM (ptM M l xa) (l + 4) xb) (l + 8) xc) := ⟨hF, hf, hn, hs, hp0⟩
    refine ar_call (r := []) (na := 0) (kd := 0) (cm := 177) (fr2 := fr - 1) (lo2 := lo - 22) 37 d_176_34 (ar_hoV (as := [.int xd]) rfl rfl rfl (hF.at 0 rfl)) rfl (by omega) (show lo - 22 + (19 + 3) = lo by omega) (Nat.le_of_ble_eq_true rfl) (Nat.le_of_ble_eq_true rfl) (r_177 (l := l + 12) (by omega) (by omega) hC0 hS1 rfl (by omega)) ?_
    intro v hp_4 hq
    obtain ⟨rfl, hS2⟩ := hq
    clear hS1 hF hf hn hs hp0
    obtain ⟨hF, hf, hn, hs, hp0⟩ := hS2
    replace hF : ax_hs hp_4 [cRo m p al (ptM (ptM (ptM (ptM M l xa) (l + 4) xb) (l + 8) xc) (l + 12) xd), cRB p 2048 ((ptM (ptM (ptM (ptM M l xa) (l + 4) xb) (l + 8) xc) (l + 12) xd) 8), cRB (p + 1) 400 ((ptM (ptM (ptM (ptM M l xa) (l + 4) xb) (l + 8) xc) (l + 12) xd) 10), cRI (p + 2) 2 ((ptM (ptM (ptM (ptM M l xa) (l + 4) xb) (l + 8) xc) (l + 12) xd) 11), cRI (p + 3) 48 ((ptM (ptM (ptM (ptM M l xa) (l + 4) xb) (l + 8) xc) (l + 12) xd) 12), cRZ (p + 4) 48 ((ptM (ptM (ptM (ptM M l xa) (l + 4) xb) (l + 8) xc) (l + 12) xd) 13), cRB (p + 5) 9600 ((ptM (ptM (ptM (ptM M l xa) (l + 4) xb) (l + 8) xc) (l + 12) xd) 14), cRI (p + 6) 48 ((ptM (ptM (ptM (ptM M l xa) (l + 4) xb) (l + 8) xc) (l + 12) xd) 15), cRI (p + 7) 48 ((ptM (ptM (ptM (ptM M l xa) (l + 4) xb) (l + 8) xc) (l + 12) xd) 16), cRI (p + 8) 48 ((ptM (ptM (ptM (ptM M l xa) (l + 4) xb) (l + 8) xc) (l + 12) xd) 17), cRB (p + 9) 393216 ((ptM (ptM (ptM (ptM M l xa) (l + 4) xb) (l + 8) xc) (l + 12) xd) 18), cRZ (p + 10) 912 ((ptM (ptM (ptM (ptM M l xa) (l + 4) xb) (l + 8) xc) (l + 12) xd) 19), cRI (p + 11) 12 ((ptM (ptM (ptM (ptM M l xa) (l + 4) xb) (l + 8) xc) (l + 12) xd) 27), cRI (p + 12) 12 ((ptM (ptM (ptM (ptM M l xa) (l + 4) xb) (l + 8) xc) (l + 12) xd) 28), cRI (p + 13) 12 ((ptM (ptM (ptM (ptM M l xa) (l + 4) xb) (l + 8) xc) (l + 12) xd) 29), cRB (p + 14) 4800 ((ptM (ptM (ptM (ptM M l xa) (l + 4) xb) (l + 8) xc) (l + 12) xd) 30), cRI (p + 15) 24 ((ptM (ptM (ptM (ptM M l xa) (l + 4) xb) (l + 8) xc) (l + 12) xd) 31), cRB (p + 16) 24576 ((ptM (ptM (ptM (ptM M l xa) (l + 4) xb) (l + 8) xc) (l + 12) xd) 32), cRI (p + 17) 12 ((ptM (ptM (ptM (ptM M l xa) (l + 4) xb) (l + 8) xc) (l + 12) xd) 33), cRI al AL ((ptM (ptM (ptM (ptM M l xa) (l + 4) xb) (l + 8) xc) (l + 12) xd) 34), cRI (p + 19) 24576 ((ptM (ptM (ptM (ptM M l xa) (l + 4) xb) (l + 8) xc) (l + 12) xd) 35), cRI (p + 20) 12 ((ptM (ptM (ptM (ptM M l xa) (l + 4) xb) (l + 8) xc) (l + 12) xd) 36)] := hF
    refine ar_aload_n 38 d_176_37 rfl rfl ?_
    refine ar_iload 40 d_176_38 rfl rfl ?_
    have hS1 : RS m p al AL h0 hp_4 (ptM (ptM (ptM (ptM M l xa) (l + 4) xb) (l + 8) xc) (l + 12) xd) := ⟨hF, hf, hn, hs, hp0⟩
    refine ar_call (r := []) (na := 0) (kd := 0) (cm := 177) (fr2 := fr - 1) (lo2 := lo - 22) 43 d_176_40 (ar_hoV (as := [.int xe]) rfl rfl rfl (hF.at 0 rfl)) rfl (by omega) (show lo - 22 + (19 + 3) = lo by omega) (Nat.le_of_ble_eq_true rfl) (Nat.le_of_ble_eq_true rfl) (r_177 (l := l + 16) (by omega) (by omega) hC0 hS1 rfl (by omega)) ?_
    intro v hp_5 hq
    obtain ⟨rfl, hS2⟩ := hq
    clear hS1 hF hf hn hs hp0
    obtain ⟨hF, hf, hn, hs, hp0⟩ := hS2
    replace hF : ax_hs hp_5 [cRo m p al (ptM (ptM (ptM (ptM (ptM M l xa) (l + 4) xb) (l + 8) xc) (l + 12) xd) (l + 16) xe), cRB p 2048 ((ptM (ptM (ptM (ptM (ptM M l xa) (l + 4) xb) (l + 8) xc) (l + 12) xd) (l + 16) xe) 8), cRB (p + 1) 400 ((ptM (ptM (ptM (ptM (ptM M l xa) (l + 4) xb) (l + 8) xc) (l + 12) xd) (l + 16) xe) 10), cRI (p + 2) 2 ((ptM (ptM (ptM (ptM (ptM M l xa) (l + 4) xb) (l + 8) xc) (l + 12) xd) (l + 16) xe) 11), cRI (p + 3) 48 ((ptM (ptM (ptM (ptM (ptM M l xa) (l + 4) xb) (l + 8) xc) (l + 12) xd) (l + 16) xe) 12), cRZ (p + 4) 48 ((ptM (ptM (ptM (ptM (ptM M l xa) (l + 4) xb) (l + 8) xc) (l + 12) xd) (l + 16) xe) 13), cRB (p + 5) 9600 ((ptM (ptM (ptM (ptM (ptM M l xa) (l + 4) xb) (l + 8) xc) (l + 12) xd) (l + 16) xe) 14), cRI (p + 6) 48 ((ptM (ptM (ptM (ptM (ptM M l xa) (l + 4) xb) (l + 8) xc) (l + 12) xd) (l + 16) xe) 15), cRI (p + 7) 48 ((ptM (ptM (ptM (ptM (ptM M l xa) (l + 4) xb) (l + 8) xc) (l + 12) xd) (l + 16) xe) 16), cRI (p + 8) 48 ((ptM (ptM (ptM (ptM (ptM M l xa) (l + 4) xb) (l + 8) xc) (l + 12) xd) (l + 16) xe) 17), cRB (p + 9) 393216 ((ptM (ptM (ptM (ptM (ptM M l xa) (l + 4) xb) (l + 8) xc) (l + 12) xd) (l + 16) xe) 18), cRZ (p + 10) 912 ((ptM (ptM (ptM (ptM (ptM M l xa) (l + 4) xb) (l + 8) xc) (l + 12) xd) (l + 16) xe) 19), cRI (p + 11) 12 ((ptM (ptM (ptM (ptM (ptM M l xa) (l + 4) xb) (l + 8) xc) (l + 12) xd) (l + 16) xe) 27), cRI (p + 12) 12 ((ptM (ptM (ptM (ptM (ptM M l xa) (l + 4) xb) (l + 8) xc) (l + 12) xd) (l + 16) xe) 28), cRI (p + 13) 12 ((ptM (ptM (ptM (ptM (ptM M l xa) (l + 4) xb) (l + 8) xc) (l + 12) xd) (l + 16) xe) 29), cRB (p + 14) 4800 ((ptM (ptM (ptM (ptM (ptM M l xa) (l + 4) xb) (l + 8) xc) (l + 12) xd) (l + 16) xe) 30), cRI (p + 15) 24 ((ptM (ptM (ptM (ptM (ptM M l xa) (l + 4) xb) (l + 8) xc) (l + 12) xd) (l + 16) xe) 31), cRB (p + 16) 24576 ((ptM (ptM (ptM (ptM (ptM M l xa) (l + 4) xb) (l + 8) xc) (l + 12) xd) (l + 16) xe) 32), cRI (p + 17) 12 ((ptM (ptM (ptM (ptM (ptM M l xa) (l + 4) xb) (l + 8) xc) (l + 12) xd) (l + 16) xe) 33), cRI al AL ((ptM (ptM (ptM (ptM (ptM M l xa) (l + 4) xb) (l + 8) xc) (l + 12) xd) (l + 16) xe) 34), cRI (p + 19) 24576 ((ptM (ptM (ptM (ptM (ptM M l xa) (l + 4) xb) (l + 8) xc) (l + 12) xd) (l + 16) xe) 35), cRI (p + 20) 12 ((ptM (ptM (ptM (ptM (ptM M l xa) (l + 4) xb) (l + 8) xc) (l + 12) xd) (l + 16) xe) 36)] := hF
    refine ar_aload_n 44 d_176_43 rfl rfl ?_
    refine ar_getf 47 d_176_44 rfl (ci := 11) (k := 9) rfl (hF.at 0 rfl) (show _ = some (.int (((ptM (ptM (ptM (ptM (ptM M l xa) (l + 4) xb) (l + 8) xc) (l + 12) xd) (l + 16) xe) 0) 9)) from rfl) ?_
    refine ar_top (x' := nI (l + 20)) (rfl) ?_
    have hS9 : RS m p al AL h0 hp_5 (ptM (ptM (ptM (ptM (ptM M l xa) (l + 4) xb) (l + 8) xc) (l + 12) xd) (l + 16) xe) := ⟨hF, hf, hn, hs, hp0⟩
    exact ar_iret d_176_47 rfl rfl (Or.inr ⟨hl2, rfl, hS9⟩)
  · refine ar_bipush 15 (v := -4) d_176_13 rfl (by decide) ?_
    have hS9 : RS m p al AL h0 h M := ⟨hF, hf, hn, hs, hp0⟩
    exact ar_iret d_176_15 rfl rfl (Or.inl ⟨Nat.lt_of_not_le (fun z => c1 (show nI (l + 20) ≤ nI 2048 from nI_le z (by decide))), rfl, hS9⟩)
theorem r_178 {L : Nat} {xs : Nat → Int32} {fr lo : Nat} {m p al AL : Nat} {h0 h : ax_H} {M : Nat → Nat → Int32} {x : Int32} (hfr : 0 ≤ fr) (hlo : 0 ≤ lo) (hC : RC m p al) (hS : RS m p al AL h0 h M) {l : Nat} (e9 : M 0 9 = nI l) (hl : l ≤ 2048) : ax_M L xs 178 fr lo [.ref m, .int x] h (fun r h' => ((x < 0 ∨ nI l < x) ∧ r = some (.int (-1)) ∧ RS m p al AL h0 h' M) ∨ (¬ x < 0 ∧ x ≤ nI l ∧ r = some (.int x) ∧ RS m p al AL h0 h' (va_up M 0 (upd (M 0) 9 x)))) := by
  have hC0 := hC
  show ax_A (ax_step L xs) ((178, 0, fr, lo), [(0, .ref m), (1, .int x)], [], h) _
  obtain ⟨hmp, hal, hm0⟩ := hC
  obtain ⟨hF, hf, hn, hs, hp0⟩ := hS
  replace hF : ax_hs h [cRo m p al M, cRB p 2048 (M 8), cRB (p + 1) 400 (M 10), cRI (p + 2) 2 (M 11), cRI (p + 3) 48 (M 12), cRZ (p + 4) 48 (M 13), cRB (p + 5) 9600 (M 14), cRI (p + 6) 48 (M 15), cRI (p + 7) 48 (M 16), cRI (p + 8) 48 (M 17), cRB (p + 9) 393216 (M 18), cRZ (p + 10) 912 (M 19), cRI (p + 11) 12 (M 27), cRI (p + 12) 12 (M 28), cRI (p + 13) 12 (M 29), cRB (p + 14) 4800 (M 30), cRI (p + 15) 24 (M 31), cRB (p + 16) 24576 (M 32), cRI (p + 17) 12 (M 33), cRI al AL (M 34), cRI (p + 19) 24576 (M 35), cRI (p + 20) 12 (M 36)] := hF
  refine ar_iload_n 1 d_178_0 rfl rfl ?_
  refine ar_if_lt 12 4 d_178_1 (by decide) rfl (fun c1 => ?_) (fun c1 => ?_)
  · refine ar_iconst 13 (v := -1) d_178_12 rfl (by decide) ?_
    have hS9 : RS m p al AL h0 h M := ⟨hF, hf, hn, hs, hp0⟩
    exact ar_iret d_178_13 rfl rfl (Or.inl ⟨Or.inl c1, rfl, hS9⟩)
  · refine ar_iload_n 5 d_178_4 rfl rfl ?_
    refine ar_aload_n 6 d_178_5 rfl rfl ?_
    refine ar_getf 9 d_178_6 rfl (ci := 11) (k := 9) rfl (hF.at 0 rfl) (show _ = some (.int ((M 0) 9)) from rfl) ?_
    refine ar_top (x' := nI l) (e9) ?_
    refine ar_icmp_le 14 12 d_178_9 (by decide) rfl (fun c2 => ?_) (fun c2 => ?_)
    · refine ar_aload_n 15 d_178_14 rfl rfl ?_
      refine ar_iload_n 16 d_178_15 rfl rfl ?_
      refine ar_putf 19 (RV p al (upd (M 0) 9 x)) d_178_16 rfl (ci := 11) (k := 9) rfl rfl (hF.at 0 rfl) (Nat.le_of_ble_eq_true rfl) rfl rfl rfl ?_
      replace hF : ax_hs (ax_put h m (.inr (11, RV p al (upd (M 0) 9 x)))) [(m, .inr (11, RV p al (upd (M 0) 9 x))), cRB p 2048 (M 8), cRB (p + 1) 400 (M 10), cRI (p + 2) 2 (M 11), cRI (p + 3) 48 (M 12), cRZ (p + 4) 48 (M 13), cRB (p + 5) 9600 (M 14), cRI (p + 6) 48 (M 15), cRI (p + 7) 48 (M 16), cRI (p + 8) 48 (M 17), cRB (p + 9) 393216 (M 18), cRZ (p + 10) 912 (M 19), cRI (p + 11) 12 (M 27), cRI (p + 12) 12 (M 28), cRI (p + 13) 12 (M 29), cRB (p + 14) 4800 (M 30), cRI (p + 15) 24 (M 31), cRB (p + 16) 24576 (M 32), cRI (p + 17) 12 (M 33), cRI al AL (M 34), cRI (p + 19) 24576 (M 35), cRI (p + 20) 12 (M 36)] := hF.put 0 _ rfl rfl
      replace hf := hf.put (a := m) (c := .inr (11, RV p al (upd (M 0) 9 x))) (show m ≤ m by omega)
      replace hn : (ax_put h m (.inr (11, RV p al (upd (M 0) 9 x)))).1 = h0.1 := hn
      replace hs : (ax_put h m (.inr (11, RV p al (upd (M 0) 9 x)))).2.1 = h0.2.1 := hs
      generalize ax_put h m (.inr (11, RV p al (upd (M 0) 9 x))) = hp_1 at hF hf hn hs ⊢
      refine ar_iload_n 20 d_178_19 rfl rfl ?_
      have hS9 : RS m p al AL h0 hp_1 (va_up M 0 (upd (M 0) 9 x)) := ⟨hF, hf, hn, hs, hp0⟩
      exact ar_iret d_178_20 rfl rfl (Or.inr ⟨c1, c2, rfl, hS9⟩)
    · refine ar_iconst 13 (v := -1) d_178_12 rfl (by decide) ?_
      have hS9 : RS m p al AL h0 h M := ⟨hF, hf, hn, hs, hp0⟩
      exact ar_iret d_178_13 rfl rfl (Or.inl ⟨Or.inr (Int32.not_le.mp c2), rfl, hS9⟩)
def nmM (M : Nat → Nat → Int32) (k l : Nat) : Nat → Nat → Int32 := va_up (va_up (va_up M 0 (upd (M 0) 9 0)) 10 (rgF (fun i => vp_nar .byte (M 8 i)) (200 * k) l (M 10))) 11 (upd (M 11) k (nI l))
set_option maxRecDepth 100000 in
theorem rlp_179 {L : Nat} {xs : Nat → Int32} {fr lo : Nat} {m p al AL : Nat} {h0 : ax_H} {M : Nat → Nat → Int32} {k l : Nat} (hC : RC m p al) (e9 : M 0 9 = nI l) (hl : l ≤ 200) (hk : k < 2) : ∀ (j i : Nat) (h : ax_H), i + j = l → RS m p al AL h0 h (va_up M 10 (rgF (fun i => vp_nar .byte (M 8 i)) (200 * k) i (M 10))) → ax_A (ax_step L xs) ((179, 23, fr, lo), [(0, .ref m), (1, .int (nI k)), (2, .int (nI i))], [], h) (fun r h' => r = some (.int (nI l)) ∧ RS m p al AL h0 h' (nmM M k l)) := by
    obtain ⟨hmp, hal, hm0⟩ := hC
    intro j
    induction j with
    | zero =>
      intro i h hi hS
      have e0 : l = i := by omega
      subst e0
      obtain ⟨hF, hf, hn, hs, hp0⟩ := hS
      replace hF : ax_hs h [cRo m p al M, cRB p 2048 (M 8), (p + 1, .inl (1, 400, .inl (rgF (fun i => vp_nar .byte (M 8 i)) (200 * k) l (M 10)))), cRI (p + 2) 2 (M 11), cRI (p + 3) 48 (M 12), cRZ (p + 4) 48 (M 13), cRB (p + 5) 9600 (M 14), cRI (p + 6) 48 (M 15), cRI (p + 7) 48 (M 16), cRI (p + 8) 48 (M 17), cRB (p + 9) 393216 (M 18), cRZ (p + 10) 912 (M 19), cRI (p + 11) 12 (M 27), cRI (p + 12) 12 (M 28), cRI (p + 13) 12 (M 29), cRB (p + 14) 4800 (M 30), cRI (p + 15) 24 (M 31), cRB (p + 16) 24576 (M 32), cRI (p + 17) 12 (M 33), cRI al AL (M 34), cRI (p + 19) 24576 (M 35), cRI (p + 20) 12 (M 36)] := hF
      refine ar_iload_n 24 d_179_23 rfl rfl ?_
      refine ar_aload_n 25 d_179_24 rfl rfl ?_
      refine ar_getf 28 d_179_25 rfl (ci := 11) (k := 9) rfl (hF.at 0 rfl) (show _ = some (.int ((M 0) 9)) from rfl) ?_
      refine ar_top (x' := nI l) (e9) ?_
      refine ar_icmp_ge 55 31 d_179_28 (by decide) rfl (fun _ => ?_) (fun c => absurd (Int32.le_refl _) c)
      refine ar_aload_n 56 d_179_55 rfl rfl ?_
      refine ar_getf 59 d_179_56 rfl (ci := 11) (k := 11) rfl (hF.at 0 rfl) (show _ = some (.ref (p + 2)) from rfl) ?_
      refine ar_iload_n 60 d_179_59 rfl rfl ?_
      refine ar_aload_n 61 d_179_60 rfl rfl ?_
      refine ar_getf 64 d_179_61 rfl (ci := 11) (k := 9) rfl (hF.at 0 rfl) (show _ = some (.int ((M 0) 9)) from rfl) ?_
      refine ar_top (x' := nI l) (e9) ?_
      refine ar_iast 65 d_179_64 rfl (hF.at 3 rfl) (vin (by omega) (by omega)) ?_
      replace hF : ax_hs (ax_put h (p + 2) (.inl (0, 2, .inl (upd (M 11) (nI k).toNatClampNeg (nI l))))) [cRo m p al M, cRB p 2048 (M 8), (p + 1, .inl (1, 400, .inl (rgF (fun i => vp_nar .byte (M 8 i)) (200 * k) l (M 10)))), (p + 2, .inl (0, 2, .inl (upd (M 11) (nI k).toNatClampNeg (nI l)))), cRI (p + 3) 48 (M 12), cRZ (p + 4) 48 (M 13), cRB (p + 5) 9600 (M 14), cRI (p + 6) 48 (M 15), cRI (p + 7) 48 (M 16), cRI (p + 8) 48 (M 17), cRB (p + 9) 393216 (M 18), cRZ (p + 10) 912 (M 19), cRI (p + 11) 12 (M 27), cRI (p + 12) 12 (M 28), cRI (p + 13) 12 (M 29), cRB (p + 14) 4800 (M 30), cRI (p + 15) 24 (M 31), cRB (p + 16) 24576 (M 32), cRI (p + 17) 12 (M 33), cRI al AL (M 34), cRI (p + 19) 24576 (M 35), cRI (p + 20) 12 (M 36)] := hF.put 3 _ rfl rfl
      replace hf := hf.put (a := p + 2) (c := .inl (0, 2, .inl (upd (M 11) (nI k).toNatClampNeg (nI l)))) (show m ≤ p + 2 by omega)
      replace hn : (ax_put h (p + 2) (.inl (0, 2, .inl (upd (M 11) (nI k).toNatClampNeg (nI l))))).1 = h0.1 := hn
      replace hs : (ax_put h (p + 2) (.inl (0, 2, .inl (upd (M 11) (nI k).toNatClampNeg (nI l))))).2.1 = h0.2.1 := hs
      generalize ax_put h (p + 2) (.inl (0, 2, .inl (upd (M 11) (nI k).toNatClampNeg (nI l)))) = hp_1 at hF hf hn hs ⊢
      replace hF : ax_hs hp_1 [cRo m p al M, cRB p 2048 (M 8), (p + 1, .inl (1, 400, .inl (rgF (fun i => vp_nar .byte (M 8 i)) (200 * k) l (M 10)))), (p + 2, .inl (0, 2, .inl (upd (M 11) k (nI l)))), cRI (p + 3) 48 (M 12), cRZ (p + 4) 48 (M 13), cRB (p + 5) 9600 (M 14), cRI (p + 6) 48 (M 15), cRI (p + 7) 48 (M 16), cRI (p + 8) 48 (M 17), cRB (p + 9) 393216 (M 18), cRZ (p + 10) 912 (M 19), cRI (p + 11) 12 (M 27), cRI (p + 12) 12 (M 28), cRI (p + 13) 12 (M 29), cRB (p + 14) 4800 (M 30), cRI (p + 15) 24 (M 31), cRB (p + 16) 24576 (M 32), cRI (p + 17) 12 (M 33), cRI al AL (M 34), cRI (p + 19) 24576 (M 35), cRI (p + 20) 12 (M 36)] := by
        have e := hF
        rw [nI_clamp (show k < 2 ^ 31 by omega)] at e
        exact e
      refine ar_aload_n 66 d_179_65 rfl rfl ?_
      refine ar_iconst 67 (v := 0) d_179_66 rfl (by decide) ?_
      refine ar_putf 70 (RV p al (upd (M 0) 9 0)) d_179_67 rfl (ci := 11) (k := 9) rfl rfl (hF.at 0 rfl) (Nat.le_of_ble_eq_true rfl) rfl rfl rfl ?_
      replace hF : ax_hs (ax_put hp_1 m (.inr (11, RV p al (upd (M 0) 9 0)))) [(m, .inr (11, RV p al (upd (M 0) 9 0))), cRB p 2048 (M 8), (p + 1, .inl (1, 400, .inl (rgF (fun i => vp_nar .byte (M 8 i)) (200 * k) l (M 10)))), (p + 2, .inl (0, 2, .inl (upd (M 11) k (nI l)))), cRI (p + 3) 48 (M 12), cRZ (p + 4) 48 (M 13), cRB (p + 5) 9600 (M 14), cRI (p + 6) 48 (M 15), cRI (p + 7) 48 (M 16), cRI (p + 8) 48 (M 17), cRB (p + 9) 393216 (M 18), cRZ (p + 10) 912 (M 19), cRI (p + 11) 12 (M 27), cRI (p + 12) 12 (M 28), cRI (p + 13) 12 (M 29), cRB (p + 14) 4800 (M 30), cRI (p + 15) 24 (M 31), cRB (p + 16) 24576 (M 32), cRI (p + 17) 12 (M 33), cRI al AL (M 34), cRI (p + 19) 24576 (M 35), cRI (p + 20) 12 (M 36)] := hF.put 0 _ rfl rfl
      replace hf := hf.put (a := m) (c := .inr (11, RV p al (upd (M 0) 9 0))) (show m ≤ m by omega)
      replace hn : (ax_put hp_1 m (.inr (11, RV p al (upd (M 0) 9 0)))).1 = h0.1 := hn
      replace hs : (ax_put hp_1 m (.inr (11, RV p al (upd (M 0) 9 0)))).2.1 = h0.2.1 := hs
      generalize ax_put hp_1 m (.inr (11, RV p al (upd (M 0) 9 0))) = hp_2 at hF hf hn hs ⊢
      refine ar_aload_n 71 d_179_70 rfl rfl ?_
      refine ar_getf 74 d_179_71 rfl (ci := 11) (k := 11) rfl (hF.at 0 rfl) (show _ = some (.ref (p + 2)) from rfl) ?_
      refine ar_iload_n 75 d_179_74 rfl rfl ?_
      refine ar_iald 76 d_179_75 rfl (hF.at 3 rfl) (vin (by omega) (by omega)) ?_
      refine ar_top (x' := nI l) (by rw [nI_clamp (show k < 2 ^ 31 by omega)]; exact pk_us) ?_
      have hS9 : RS m p al AL h0 hp_2 (nmM M k l) := ⟨hF, hf, hn, hs, hp0⟩
      exact ar_iret d_179_76 rfl rfl (⟨rfl, hS9⟩)
    | succ j ih =>
      intro i h hi hS
      have hic : i < l := by omega
      obtain ⟨hF, hf, hn, hs, hp0⟩ := hS
      replace hF : ax_hs h [cRo m p al M, cRB p 2048 (M 8), (p + 1, .inl (1, 400, .inl (rgF (fun i => vp_nar .byte (M 8 i)) (200 * k) i (M 10)))), cRI (p + 2) 2 (M 11), cRI (p + 3) 48 (M 12), cRZ (p + 4) 48 (M 13), cRB (p + 5) 9600 (M 14), cRI (p + 6) 48 (M 15), cRI (p + 7) 48 (M 16), cRI (p + 8) 48 (M 17), cRB (p + 9) 393216 (M 18), cRZ (p + 10) 912 (M 19), cRI (p + 11) 12 (M 27), cRI (p + 12) 12 (M 28), cRI (p + 13) 12 (M 29), cRB (p + 14) 4800 (M 30), cRI (p + 15) 24 (M 31), cRB (p + 16) 24576 (M 32), cRI (p + 17) 12 (M 33), cRI al AL (M 34), cRI (p + 19) 24576 (M 35), cRI (p + 20) 12 (M 36)] := hF
      refine ar_iload_n 24 d_179_23 rfl rfl ?_
      refine ar_aload_n 25 d_179_24 rfl rfl ?_
      refine ar_getf 28 d_179_25 rfl (ci := 11) (k := 9) rfl (hF.at 0 rfl) (show _ = some (.int ((M 0) 9)) from rfl) ?_
      refine ar_top (x' := nI l) (e9) ?_
      refine ar_icmp_ge 55 31 d_179_28 (by decide) rfl (fun c => absurd c (nI_ge hic (by omega))) (fun _ => ?_)
      refine ar_aload_n 32 d_179_31 rfl rfl ?_
      refine ar_getf 35 d_179_32 rfl (ci := 11) (k := 10) rfl (hF.at 0 rfl) (show _ = some (.ref (p + 1)) from rfl) ?_
      refine ar_sipush 38 (v := 200) d_179_35 rfl (by decide) ?_
      refine ar_iload_n 39 d_179_38 rfl rfl ?_
      refine ar_imul 40 d_179_39 rfl ?_
      refine ar_top (x' := nI (200 * k)) (pk_mul 200 k) ?_
      refine ar_iload_n 41 d_179_40 rfl rfl ?_
      refine ar_iadd 42 d_179_41 rfl ?_
      refine ar_top (x' := nI (200 * k + i)) (nI_add _ _) ?_
      refine ar_aload_n 43 d_179_42 rfl rfl ?_
      refine ar_getf 46 d_179_43 rfl (ci := 11) (k := 8) rfl (hF.at 0 rfl) (show _ = some (.ref p) from rfl) ?_
      refine ar_iload_n 47 d_179_46 rfl rfl ?_
      refine ar_bald 48 d_179_47 rfl (hF.at 1 rfl) (vin (by omega) (by omega)) ?_
      refine ar_bast 49 d_179_48 rfl (hF.at 2 rfl) (vin (by omega) (by decide)) ?_
      replace hF : ax_hs (ax_put h (p + 1) (.inl (1, 400, .inl (upd (rgF (fun i => vp_nar .byte (M 8 i)) (200 * k) i (M 10)) (nI (200 * k + i)).toNatClampNeg (vp_nar .byte ((M 8) (nI i).toNatClampNeg)))))) [cRo m p al M, cRB p 2048 (M 8), (p + 1, .inl (1, 400, .inl (upd (rgF (fun i => vp_nar .byte (M 8 i)) (200 * k) i (M 10)) (nI (200 * k + i)).toNatClampNeg (vp_nar .byte ((M 8) (nI i).toNatClampNeg))))), cRI (p + 2) 2 (M 11), cRI (p + 3) 48 (M 12), cRZ (p + 4) 48 (M 13), cRB (p + 5) 9600 (M 14), cRI (p + 6) 48 (M 15), cRI (p + 7) 48 (M 16), cRI (p + 8) 48 (M 17), cRB (p + 9) 393216 (M 18), cRZ (p + 10) 912 (M 19), cRI (p + 11) 12 (M 27), cRI (p + 12) 12 (M 28), cRI (p + 13) 12 (M 29), cRB (p + 14) 4800 (M 30), cRI (p + 15) 24 (M 31), cRB (p + 16) 24576 (M 32), cRI (p + 17) 12 (M 33), cRI al AL (M 34), cRI (p + 19) 24576 (M 35), cRI (p + 20) 12 (M 36)] := hF.put 2 _ rfl rfl
      replace hf := hf.put (a := p + 1) (c := .inl (1, 400, .inl (upd (rgF (fun i => vp_nar .byte (M 8 i)) (200 * k) i (M 10)) (nI (200 * k + i)).toNatClampNeg (vp_nar .byte ((M 8) (nI i).toNatClampNeg))))) (show m ≤ p + 1 by omega)
      replace hn : (ax_put h (p + 1) (.inl (1, 400, .inl (upd (rgF (fun i => vp_nar .byte (M 8 i)) (200 * k) i (M 10)) (nI (200 * k + i)).toNatClampNeg (vp_nar .byte ((M 8) (nI i).toNatClampNeg)))))).1 = h0.1 := hn
      replace hs : (ax_put h (p + 1) (.inl (1, 400, .inl (upd (rgF (fun i => vp_nar .byte (M 8 i)) (200 * k) i (M 10)) (nI (200 * k + i)).toNatClampNeg (vp_nar .byte ((M 8) (nI i).toNatClampNeg)))))).2.1 = h0.2.1 := hs
      generalize ax_put h (p + 1) (.inl (1, 400, .inl (upd (rgF (fun i => vp_nar .byte (M 8 i)) (200 * k) i (M 10)) (nI (200 * k + i)).toNatClampNeg (vp_nar .byte ((M 8) (nI i).toNatClampNeg))))) = hp_3 at hF hf hn hs ⊢
      replace hF : ax_hs hp_3 [cRo m p al M, cRB p 2048 (M 8), (p + 1, .inl (1, 400, .inl (rgF (fun i => vp_nar .byte (M 8 i)) (200 * k) (i + 1) (M 10)))), cRI (p + 2) 2 (M 11), cRI (p + 3) 48 (M 12), cRZ (p + 4) 48 (M 13), cRB (p + 5) 9600 (M 14), cRI (p + 6) 48 (M 15), cRI (p + 7) 48 (M 16), cRI (p + 8) 48 (M 17), cRB (p + 9) 393216 (M 18), cRZ (p + 10) 912 (M 19), cRI (p + 11) 12 (M 27), cRI (p + 12) 12 (M 28), cRI (p + 13) 12 (M 29), cRB (p + 14) 4800 (M 30), cRI (p + 15) 24 (M 31), cRB (p + 16) 24576 (M 32), cRI (p + 17) 12 (M 33), cRI al AL (M 34), cRI (p + 19) 24576 (M 35), cRI (p + 20) 12 (M 36)] := by
        have e := hF
        rw [nI_clamp (show 200 * k + i < 2 ^ 31 by omega), nI_clamp (show i < 2 ^ 31 by omega), rgF_s (fun i => vp_nar .byte (M 8 i))] at e
        exact e
      refine ar_iinc 52 [(0, .ref m), (1, .int (nI k)), (2, .int (nI (i + 1)))] d_179_49 rfl rfl (nI_1 i) (by decide) rfl ?_
      refine ar_goto 23 d_179_52 (by decide) ?_
      exact ih (i + 1) hp_3 (by omega) ⟨hF, hf, hn, hs, hp0⟩
theorem r_179 {L : Nat} {xs : Nat → Int32} {fr lo : Nat} {m p al AL : Nat} {h0 h : ax_H} {M : Nat → Nat → Int32} {x : Int32} (hfr : 0 ≤ fr) (hlo : 0 ≤ lo) (hC : RC m p al) (hS : RS m p al AL h0 h M) {l : Nat} (e9 : M 0 9 = nI l) (hl : l ≤ 2048) : ax_M L xs 179 fr lo [.ref m, .int x] h (fun r h' => ((x < 0 ∨ 1 < x ∨ 200 < l) ∧ r = some (.int (-1)) ∧ RS m p al AL h0 h' M) ∨ (∃ k : Nat, k < 2 ∧ l ≤ 200 ∧ x = nI k ∧ r = some (.int (nI l)) ∧ RS m p al AL h0 h' (nmM M k l))) := by
  have hC0 := hC
  show ax_A (ax_step L xs) ((179, 0, fr, lo), [(0, .ref m), (1, .int x)], [], h) _
  obtain ⟨hmp, hal, hm0⟩ := hC
  obtain ⟨hF, hf, hn, hs, hp0⟩ := hS
  replace hF : ax_hs h [cRo m p al M, cRB p 2048 (M 8), cRB (p + 1) 400 (M 10), cRI (p + 2) 2 (M 11), cRI (p + 3) 48 (M 12), cRZ (p + 4) 48 (M 13), cRB (p + 5) 9600 (M 14), cRI (p + 6) 48 (M 15), cRI (p + 7) 48 (M 16), cRI (p + 8) 48 (M 17), cRB (p + 9) 393216 (M 18), cRZ (p + 10) 912 (M 19), cRI (p + 11) 12 (M 27), cRI (p + 12) 12 (M 28), cRI (p + 13) 12 (M 29), cRB (p + 14) 4800 (M 30), cRI (p + 15) 24 (M 31), cRB (p + 16) 24576 (M 32), cRI (p + 17) 12 (M 33), cRI al AL (M 34), cRI (p + 19) 24576 (M 35), cRI (p + 20) 12 (M 36)] := hF
  refine ar_iload_n 1 d_179_0 rfl rfl ?_
  refine ar_if_lt 19 4 d_179_1 (by decide) rfl (fun c1 => ?_) (fun c1 => ?_)
  · refine ar_iconst 20 (v := -1) d_179_19 rfl (by decide) ?_
    have hS9 : RS m p al AL h0 h M := ⟨hF, hf, hn, hs, hp0⟩
    exact ar_iret d_179_20 rfl rfl (Or.inl ⟨Or.inl c1, rfl, hS9⟩)
  · refine ar_iload_n 5 d_179_4 rfl rfl ?_
    refine ar_iconst 6 (v := 1) d_179_5 rfl (by decide) ?_
    refine ar_icmp_gt 19 9 d_179_6 (by decide) rfl (fun c2 => ?_) (fun c2 => ?_)
    · refine ar_iconst 20 (v := -1) d_179_19 rfl (by decide) ?_
      have hS9 : RS m p al AL h0 h M := ⟨hF, hf, hn, hs, hp0⟩
      exact ar_iret d_179_20 rfl rfl (Or.inl ⟨Or.inr (Or.inl c2), rfl, hS9⟩)
    · refine ar_aload_n 10 d_179_9 rfl rfl ?_
      refine ar_getf 13 d_179_10 rfl (ci := 11) (k := 9) rfl (hF.at 0 rfl) (show _ = some (.int ((M 0) 9)) from rfl) ?_
      refine ar_top (x' := nI l) (e9) ?_
      refine ar_sipush 16 (v := 200) d_179_13 rfl (by decide) ?_
      refine ar_icmp_le 21 19 d_179_16 (by decide) rfl (fun c3 => ?_) (fun c3 => ?_)
      · have hl2 : l ≤ 200 := (nI_leI (by omega) (by decide)).mp (show nI l ≤ nI 200 from c3)
        obtain ⟨k, hk, rfl⟩ := two_of c1 c2
        refine ar_iconst 22 (v := 0) d_179_21 rfl (by decide) ?_
        refine ar_istore_n 23 [(0, .ref m), (1, .int (nI k)), (2, .int 0)] d_179_22 rfl (by decide) rfl ?_
        have hS1 : RS m p al AL h0 h M := ⟨hF, hf, hn, hs, hp0⟩
        have hS2 : RS m p al AL h0 h (va_up M 10 (rgF (fun i => vp_nar .byte (M 8 i)) (200 * k) 0 (M 10))) := by
          rw [rgF_0, va_up_sf]
          exact hS1
        refine ax_A.post (rlp_179 hC0 e9 hl2 hk l 0 h (by omega) hS2) (fun r h' hq => Or.inr ⟨k, hk, hl2, rfl, hq.1, hq.2⟩)
      · refine ar_iconst 20 (v := -1) d_179_19 rfl (by decide) ?_
        have hS9 : RS m p al AL h0 h M := ⟨hF, hf, hn, hs, hp0⟩
        exact ar_iret d_179_20 rfl rfl (Or.inl ⟨Or.inr (Or.inr (Nat.lt_of_not_le (fun z => c3 (show nI l ≤ nI 200 from nI_le z (by decide))))), rfl, hS9⟩)


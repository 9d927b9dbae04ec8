/-! begin, and what those who begin OPERATIONS hear, exactly; answer, told -/

def opL (E : Nat → Nat → Int32) (k : Int32) : Int32 := if k = 1 ∨ k = 2 then E 4 3 else 0
def opQ (E : Nat → Nat → Int32) (A : Mg) (k a b : Int32) : Mg := (upd (upd (upd (upd (upd (upd (upd A.1 0 k) 1 a) 2 b) 3 (E 7 0)) 4 (E 7 1)) 5 (opL E k)) 6 0, if k = 1 ∨ k = 2 then va_cpy (E 5) (va_cpy (E 6) A.2 0 0 100) 0 100 512 else va_cpy (E 6) A.2 0 0 100)
def opE (E : Nat → Nat → Int32) (k : Int32) (bg : Nat) : Nat → Nat → Int32 := va_up E 4 (if k = 1 ∨ k = 2 then upd (upd (E 4) 3 0) 8 (nI (bg + 1)) else upd (E 4) 8 (nI (bg + 1)))
theorem nI_s1 (a : Nat) : nI (a + 1) - 1 = nI a := by
  rw [← nI_1]
  exact Int32.add_sub_cancel _ _
theorem opE_8 {E : Nat → Nat → Int32} {k : Int32} {bg : Nat} : opE E k bg 4 8 = nI (bg + 1) := by
  unfold opE
  rw [va_up_s]
  split <;> rfl
theorem opE_9 {E : Nat → Nat → Int32} {k : Int32} {bg : Nat} : opE E k bg 4 9 = E 4 9 := by
  unfold opE
  rw [va_up_s]
  split <;> rfl
theorem opQ_5 {E : Nat → Nat → Int32} {A : Mg} {k a b : Int32} (h : inR 2049 (E 4 3)) : inR 2049 ((opQ E A k a b).1 5) := by
  show inR 2049 (opL E k)
  unfold opL
  split
  · exact h
  · exact ⟨0, by decide, rfl⟩
set_option maxRecDepth 100000 in
theorem ek_46 {L : Nat} {xs : Nat → Int32} {fr lo : Nat} {s0 n nn gg : Nat} {C : Int32} {f : Nat → Int32} {q : Nat} {u b : Nat → Int32} {h0 h : ax_H} {E : Nat → Nat → Int32} {TK : Int64} {Q : Nat → Mg} {ms : List Mg} {kd a b0 : Int32} (hfr : 3 ≤ fr) (hlo : 100 ≤ lo) (hC : CG s0 n nn gg f) (hS : AS s0 n nn gg C f q u b h0 h E TK Q ms) {he bg : Nat} (e9 : E 4 9 = nI he) (e8 : E 4 8 = nI bg) (hhb : he ≤ bg) (hb : bg < 512) (hk5 : inR 2049 (E 4 3)) : ax_M L xs 46 fr lo [.ref (n + 266), .int kd, .int a, .int b0] h (fun r h' => r = some (.int (nI bg)) ∧ ∃ ms' : List Mg, AS s0 n nn gg C f q u b h0 h' (opE E kd bg) TK (va_up Q (bg % 24) (opQ E (Q (bg % 24)) kd a b0)) ms' ∧ ((he = bg ∧ askR nn f (opE E kd bg) (va_up Q (bg % 24) (opQ E (Q (bg % 24)) kd a b0)) ms ms') ∨ (¬ he = bg ∧ ms' = ms))) := by
  have hC0 := hC
  show ax_A (ax_step L xs) ((46, 0, fr, lo), [(0, .ref (n + 266)), (1, .int kd), (2, .int a), (3, .int b0)], [], h) _
  obtain ⟨hs0, hsn, hnn3, hnn, hgg1, hgg, hRg⟩ := hC
  obtain ⟨hF, hA, hN, hf, hn, hs, hp0⟩ := hS
  replace hF : ax_hs h [cSt s0 n E, cRk n nn gg C, cOr n nn gg f, cAs n E, cEr n 5 512 E, cEr n 6 100 E, cEr n 7 2 E, cAk n, cEr n 9 512 E, cNa n nn, cEr n 0 48 E, cEr n 1 961 E, cTs n gg E TK, cEr n 59 48 E, cEr n 60 48 E, cEr n 61 48 E, cEr n 62 2400 E, cEr n 63 512 E, cEr n 64 961 E, cEr n 65 961 E] := hF
  have haj : bg % 24 < 24 := Nat.mod_lt _ (by omega)
  refine ar_aload_n 1 d_46_0 rfl rfl ?_
  refine ar_getf 4 d_46_1 rfl (ci := 4) (k := 6) rfl (hF.at 3 rfl) rfl ?_
  refine ar_aload_n 5 d_46_4 rfl rfl ?_
  refine ar_getf 8 d_46_5 rfl (ci := 4) (k := 8) rfl (hF.at 3 rfl) rfl ?_
  refine ar_top (x' := nI bg) (e8) ?_
  refine ar_aload_n 9 d_46_8 rfl rfl ?_
  refine ar_getf 12 d_46_9 rfl (ci := 4) (k := 6) rfl (hF.at 3 rfl) rfl ?_
  refine ar_alen 13 d_46_12 rfl (hF.at 7 rfl) (by decide) ?_
  refine ar_top (x' := 24) (rfl) ?_
  refine ar_irem 14 d_46_13 rfl (by decide) ?_
  refine ar_top (x' := nI (bg % 24)) (pk_rem (d := 24) (by omega) (by omega) (by omega)) ?_
  refine ar_aald 15 d_46_14 rfl (hF.at 7 rfl) rfl (vin (by omega) (by omega)) ?_
  refine ar_tv (v' := .ref (n + 272 + 2 * (bg % 24))) (akr haj) ?_
  replace hF : ax_hs h [(n + 272 + 2 * (bg % 24), .inr (5, [.int ((Q (bg % 24)).1 0), .int ((Q (bg % 24)).1 1), .int ((Q (bg % 24)).1 2), .int ((Q (bg % 24)).1 3), .int ((Q (bg % 24)).1 4), .int ((Q (bg % 24)).1 5), .int ((Q (bg % 24)).1 6), .ref (n + 272 + 2 * (bg % 24) + 1)])), (n + 272 + 2 * (bg % 24) + 1, .inl (0, 612, .inl ((Q (bg % 24)).2))), cSt s0 n E, cRk n nn gg C, cOr n nn gg f, cAs n E, cEr n 5 512 E, cEr n 6 100 E, cEr n 7 2 E, cAk n, cEr n 9 512 E, cNa n nn, cEr n 0 48 E, cEr n 1 961 E, cTs n gg E TK, cEr n 59 48 E, cEr n 60 48 E, cEr n 61 48 E, cEr n 62 2400 E, cEr n 63 512 E, cEr n 64 961 E, cEr n 65 961 E] := hF.asc (farK (n := n) (s0 := s0) rfl hsn) haj (hA (bg % 24) haj)
  replace hA : AKX h n Q (bg % 24) := hA.x
  refine ar_astore 17 [(0, .ref (n + 266)), (1, .int kd), (2, .int a), (3, .int b0), (4, .ref (n + 272 + 2 * (bg % 24)))] d_46_15 rfl (by decide) rfl ?_
  refine ar_aload 19 d_46_17 rfl rfl ?_
  refine ar_iload_n 20 d_46_19 rfl rfl ?_
  refine ar_putf 23 [.int kd, .int ((Q (bg % 24)).1 1), .int ((Q (bg % 24)).1 2), .int ((Q (bg % 24)).1 3), .int ((Q (bg % 24)).1 4), .int ((Q (bg % 24)).1 5), .int ((Q (bg % 24)).1 6), .ref (n + 272 + 2 * (bg % 24) + 1)] d_46_20 rfl (ci := 5) (k := 0) rfl rfl (hF.at 0 rfl) (Nat.le_of_ble_eq_true rfl) rfl rfl rfl ?_
  replace hF : ax_hs (ax_put h (n + 272 + 2 * (bg % 24)) (.inr (5, [.int kd, .int ((Q (bg % 24)).1 1), .int ((Q (bg % 24)).1 2), .int ((Q (bg % 24)).1 3), .int ((Q (bg % 24)).1 4), .int ((Q (bg % 24)).1 5), .int ((Q (bg % 24)).1 6), .ref (n + 272 + 2 * (bg % 24) + 1)]))) [(n + 272 + 2 * (bg % 24), .inr (5, [.int kd, .int ((Q (bg % 24)).1 1), .int ((Q (bg % 24)).1 2), .int ((Q (bg % 24)).1 3), .int ((Q (bg % 24)).1 4), .int ((Q (bg % 24)).1 5), .int ((Q (bg % 24)).1 6), .ref (n + 272 + 2 * (bg % 24) + 1)])), (n + 272 + 2 * (bg % 24) + 1, .inl (0, 612, .inl ((Q (bg % 24)).2))), cSt s0 n E, cRk n nn gg C, cOr n nn gg f, cAs n E, cEr n 5 512 E, cEr n 6 100 E, cEr n 7 2 E, cAk n, cEr n 9 512 E, cNa n nn, cEr n 0 48 E, cEr n 1 961 E, cTs n gg E TK, cEr n 59 48 E, cEr n 60 48 E, cEr n 61 48 E, cEr n 62 2400 E, cEr n 63 512 E, cEr n 64 961 E, cEr n 65 961 E] := hF.put 0 _ rfl rfl
  replace hf := hf.put (a := n + 272 + 2 * (bg % 24)) (c := .inr (5, [.int kd, .int ((Q (bg % 24)).1 1), .int ((Q (bg % 24)).1 2), .int ((Q (bg % 24)).1 3), .int ((Q (bg % 24)).1 4), .int ((Q (bg % 24)).1 5), .int ((Q (bg % 24)).1 6), .ref (n + 272 + 2 * (bg % 24) + 1)])) (Or.inr (by omega))
  replace hN := hN.put (a := n + 272 + 2 * (bg % 24)) (c := .inr (5, [.int kd, .int ((Q (bg % 24)).1 1), .int ((Q (bg % 24)).1 2), .int ((Q (bg % 24)).1 3), .int ((Q (bg % 24)).1 4), .int ((Q (bg % 24)).1 5), .int ((Q (bg % 24)).1 6), .ref (n + 272 + 2 * (bg % 24) + 1)])) (by omega)
  replace hA := hA.put (a := n + 272 + 2 * (bg % 24)) (c := .inr (5, [.int kd, .int ((Q (bg % 24)).1 1), .int ((Q (bg % 24)).1 2), .int ((Q (bg % 24)).1 3), .int ((Q (bg % 24)).1 4), .int ((Q (bg % 24)).1 5), .int ((Q (bg % 24)).1 6), .ref (n + 272 + 2 * (bg % 24) + 1)])) (by omega)
  replace hn : (ax_put h (n + 272 + 2 * (bg % 24)) (.inr (5, [.int kd, .int ((Q (bg % 24)).1 1), .int ((Q (bg % 24)).1 2), .int ((Q (bg % 24)).1 3), .int ((Q (bg % 24)).1 4), .int ((Q (bg % 24)).1 5), .int ((Q (bg % 24)).1 6), .ref (n + 272 + 2 * (bg % 24) + 1)]))).1 = h0.1 := hn
  replace hs : (ax_put h (n + 272 + 2 * (bg % 24)) (.inr (5, [.int kd, .int ((Q (bg % 24)).1 1), .int ((Q (bg % 24)).1 2), .int ((Q (bg % 24)).1 3), .int ((Q (bg % 24)).1 4), .int ((Q (bg % 24)).1 5), .int ((Q (bg % 24)).1 6), .ref (n + 272 + 2 * (bg % 24) + 1)]))).2.1 = h0.2.1 := hs
  generalize ax_put h (n + 272 + 2 * (bg % 24)) (.inr (5, [.int kd, .int ((Q (bg % 24)).1 1), .int ((Q (bg % 24)).1 2), .int ((Q (bg % 24)).1 3), .int ((Q (bg % 24)).1 4), .int ((Q (bg % 24)).1 5), .int ((Q (bg % 24)).1 6), .ref (n + 272 + 2 * (bg % 24) + 1)])) = hp_1 at hF hf hA hN hn hs ⊢
  refine ar_aload 25 d_46_23 rfl rfl ?_
  refine ar_iload_n 26 d_46_25 rfl rfl ?_
  refine ar_putf 29 [.int kd, .int a, .int ((Q (bg % 24)).1 2), .int ((Q (bg % 24)).1 3), .int ((Q (bg % 24)).1 4), .int ((Q (bg % 24)).1 5), .int ((Q (bg % 24)).1 6), .ref (n + 272 + 2 * (bg % 24) + 1)] d_46_26 rfl (ci := 5) (k := 1) rfl rfl (hF.at 0 rfl) (Nat.le_of_ble_eq_true rfl) rfl rfl rfl ?_
  replace hF : ax_hs (ax_put hp_1 (n + 272 + 2 * (bg % 24)) (.inr (5, [.int kd, .int a, .int ((Q (bg % 24)).1 2), .int ((Q (bg % 24)).1 3), .int ((Q (bg % 24)).1 4), .int ((Q (bg % 24)).1 5), .int ((Q (bg % 24)).1 6), .ref (n + 272 + 2 * (bg % 24) + 1)]))) [(n + 272 + 2 * (bg % 24), .inr (5, [.int kd, .int a, .int ((Q (bg % 24)).1 2), .int ((Q (bg % 24)).1 3), .int ((Q (bg % 24)).1 4), .int ((Q (bg % 24)).1 5), .int ((Q (bg % 24)).1 6), .ref (n + 272 + 2 * (bg % 24) + 1)])), (n + 272 + 2 * (bg % 24) + 1, .inl (0, 612, .inl ((Q (bg % 24)).2))), cSt s0 n E, cRk n nn gg C, cOr n nn gg f, cAs n E, cEr n 5 512 E, cEr n 6 100 E, cEr n 7 2 E, cAk n, cEr n 9 512 E, cNa n nn, cEr n 0 48 E, cEr n 1 961 E, cTs n gg E TK, cEr n 59 48 E, cEr n 60 48 E, cEr n 61 48 E, cEr n 62 2400 E, cEr n 63 512 E, cEr n 64 961 E, cEr n 65 961 E] := hF.put 0 _ rfl rfl
  replace hf := hf.put (a := n + 272 + 2 * (bg % 24)) (c := .inr (5, [.int kd, .int a, .int ((Q (bg % 24)).1 2), .int ((Q (bg % 24)).1 3), .int ((Q (bg % 24)).1 4), .int ((Q (bg % 24)).1 5), .int ((Q (bg % 24)).1 6), .ref (n + 272 + 2 * (bg % 24) + 1)])) (Or.inr (by omega))
  replace hN := hN.put (a := n + 272 + 2 * (bg % 24)) (c := .inr (5, [.int kd, .int a, .int ((Q (bg % 24)).1 2), .int ((Q (bg % 24)).1 3), .int ((Q (bg % 24)).1 4), .int ((Q (bg % 24)).1 5), .int ((Q (bg % 24)).1 6), .ref (n + 272 + 2 * (bg % 24) + 1)])) (by omega)
  replace hA := hA.put (a := n + 272 + 2 * (bg % 24)) (c := .inr (5, [.int kd, .int a, .int ((Q (bg % 24)).1 2), .int ((Q (bg % 24)).1 3), .int ((Q (bg % 24)).1 4), .int ((Q (bg % 24)).1 5), .int ((Q (bg % 24)).1 6), .ref (n + 272 + 2 * (bg % 24) + 1)])) (by omega)
  replace hn : (ax_put hp_1 (n + 272 + 2 * (bg % 24)) (.inr (5, [.int kd, .int a, .int ((Q (bg % 24)).1 2), .int ((Q (bg % 24)).1 3), .int ((Q (bg % 24)).1 4), .int ((Q (bg % 24)).1 5), .int ((Q (bg % 24)).1 6), .ref (n + 272 + 2 * (bg % 24) + 1)]))).1 = h0.1 := hn
  replace hs : (ax_put hp_1 (n + 272 + 2 * (bg % 24)) (.inr (5, [.int kd, .int a, .int ((Q (bg % 24)).1 2), .int ((Q (bg % 24)).1 3), .int ((Q (bg % 24)).1 4), .int ((Q (bg % 24)).1 5), .int ((Q (bg % 24)).1 6), .ref (n + 272 + 2 * (bg % 24) + 1)]))).2.1 = h0.2.1 := hs
  generalize ax_put hp_1 (n + 272 + 2 * (bg % 24)) (.inr (5, [.int kd, .int a, .int ((Q (bg % 24)).1 2), .int ((Q (bg % 24)).1 3), .int ((Q (bg % 24)).1 4), .int ((Q (bg % 24)).1 5), .int ((Q (bg % 24)).1 6), .ref (n + 272 + 2 * (bg % 24) + 1)])) = hp_2 at hF hf hA hN hn hs ⊢
  refine ar_aload 31 d_46_29 rfl rfl ?_
  refine ar_iload_n 32 d_46_31 rfl rfl ?_
  refine ar_putf 35 [.int kd, .int a, .int b0, .int ((Q (bg % 24)).1 3), .int ((Q (bg % 24)).1 4), .int ((Q (bg % 24)).1 5), .int ((Q (bg % 24)).1 6), .ref (n + 272 + 2 * (bg % 24) + 1)] d_46_32 rfl (ci := 5) (k := 2) rfl rfl (hF.at 0 rfl) (Nat.le_of_ble_eq_true rfl) rfl rfl rfl ?_
  replace hF : ax_hs (ax_put hp_2 (n + 272 + 2 * (bg % 24)) (.inr (5, [.int kd, .int a, .int b0, .int ((Q (bg % 24)).1 3), .int ((Q (bg % 24)).1 4), .int ((Q (bg % 24)).1 5), .int ((Q (bg % 24)).1 6), .ref (n + 272 + 2 * (bg % 24) + 1)]))) [(n + 272 + 2 * (bg % 24), .inr (5, [.int kd, .int a, .int b0, .int ((Q (bg % 24)).1 3), .int ((Q (bg % 24)).1 4), .int ((Q (bg % 24)).1 5), .int ((Q (bg % 24)).1 6), .ref (n + 272 + 2 * (bg % 24) + 1)])), (n + 272 + 2 * (bg % 24) + 1, .inl (0, 612, .inl ((Q (bg % 24)).2))), cSt s0 n E, cRk n nn gg C, cOr n nn gg f, cAs n E, cEr n 5 512 E, cEr n 6 100 E, cEr n 7 2 E, cAk n, cEr n 9 512 E, cNa n nn, cEr n 0 48 E, cEr n 1 961 E, cTs n gg E TK, cEr n 59 48 E, cEr n 60 48 E, cEr n 61 48 E, cEr n 62 2400 E, cEr n 63 512 E, cEr n 64 961 E, cEr n 65 961 E] := hF.put 0 _ rfl rfl
  replace hf := hf.put (a := n + 272 + 2 * (bg % 24)) (c := .inr (5, [.int kd, .int a, .int b0, .int ((Q (bg % 24)).1 3), .int ((Q (bg % 24)).1 4), .int ((Q (bg % 24)).1 5), .int ((Q (bg % 24)).1 6), .ref (n + 272 + 2 * (bg % 24) + 1)])) (Or.inr (by omega))
  replace hN := hN.put (a := n + 272 + 2 * (bg % 24)) (c := .inr (5, [.int kd, .int a, .int b0, .int ((Q (bg % 24)).1 3), .int ((Q (bg % 24)).1 4), .int ((Q (bg % 24)).1 5), .int ((Q (bg % 24)).1 6), .ref (n + 272 + 2 * (bg % 24) + 1)])) (by omega)
  replace hA := hA.put (a := n + 272 + 2 * (bg % 24)) (c := .inr (5, [.int kd, .int a, .int b0, .int ((Q (bg % 24)).1 3), .int ((Q (bg % 24)).1 4), .int ((Q (bg % 24)).1 5), .int ((Q (bg % 24)).1 6), .ref (n + 272 + 2 * (bg % 24) + 1)])) (by omega)
  replace hn : (ax_put hp_2 (n + 272 + 2 * (bg % 24)) (.inr (5, [.int kd, .int a, .int b0, .int ((Q (bg % 24)).1 3), .int ((Q (bg % 24)).1 4), .int ((Q (bg % 24)).1 5), .int ((Q (bg % 24)).1 6), .ref (n + 272 + 2 * (bg % 24) + 1)]))).1 = h0.1 := hn
  replace hs : (ax_put hp_2 (n + 272 + 2 * (bg % 24)) (.inr (5, [.int kd, .int a, .int b0, .int ((Q (bg % 24)).1 3), .int ((Q (bg % 24)).1 4), .int ((Q (bg % 24)).1 5), .int ((Q (bg % 24)).1 6), .ref (n + 272 + 2 * (bg % 24) + 1)]))).2.1 = h0.2.1 := hs
  generalize ax_put hp_2 (n + 272 + 2 * (bg % 24)) (.inr (5, [.int kd, .int a, .int b0, .int ((Q (bg % 24)).1 3), .int ((Q (bg % 24)).1 4), .int ((Q (bg % 24)).1 5), .int ((Q (bg % 24)).1 6), .ref (n + 272 + 2 * (bg % 24) + 1)])) = hp_3 at hF hf hA hN hn hs ⊢
  refine ar_aload 37 d_46_35 rfl rfl ?_
  refine ar_aload_n 38 d_46_37 rfl rfl ?_
  refine ar_getf 41 d_46_38 rfl (ci := 4) (k := 5) rfl (hF.at 5 rfl) rfl ?_
  refine ar_iconst 42 (v := 0) d_46_41 rfl (by decide) ?_
  refine ar_iald 43 d_46_42 rfl (hF.at 8 rfl) (vin (i := 0) (by omega) (by omega)) ?_
  refine ar_top (x' := E 7 0) (by rw [show (0 : Int32).toNatClampNeg = 0 by decide]) ?_
  refine ar_putf 46 [.int kd, .int a, .int b0, .int (E 7 0), .int ((Q (bg % 24)).1 4), .int ((Q (bg % 24)).1 5), .int ((Q (bg % 24)).1 6), .ref (n + 272 + 2 * (bg % 24) + 1)] d_46_43 rfl (ci := 5) (k := 3) rfl rfl (hF.at 0 rfl) (Nat.le_of_ble_eq_true rfl) rfl rfl rfl ?_
  replace hF : ax_hs (ax_put hp_3 (n + 272 + 2 * (bg % 24)) (.inr (5, [.int kd, .int a, .int b0, .int (E 7 0), .int ((Q (bg % 24)).1 4), .int ((Q (bg % 24)).1 5), .int ((Q (bg % 24)).1 6), .ref (n + 272 + 2 * (bg % 24) + 1)]))) [(n + 272 + 2 * (bg % 24), .inr (5, [.int kd, .int a, .int b0, .int (E 7 0), .int ((Q (bg % 24)).1 4), .int ((Q (bg % 24)).1 5), .int ((Q (bg % 24)).1 6), .ref (n + 272 + 2 * (bg % 24) + 1)])), (n + 272 + 2 * (bg % 24) + 1, .inl (0, 612, .inl ((Q (bg % 24)).2))), cSt s0 n E, cRk n nn gg C, cOr n nn gg f, cAs n E, cEr n 5 512 E, cEr n 6 100 E, cEr n 7 2 E, cAk n, cEr n 9 512 E, cNa n nn, cEr n 0 48 E, cEr n 1 961 E, cTs n gg E TK, cEr n 59 48 E, cEr n 60 48 E, cEr n 61 48 E, cEr n 62 2400 E, cEr n 63 512 E, cEr n 64 961 E, cEr n 65 961 E] := hF.put 0 _ rfl rfl
  replace hf := hf.put (a := n + 272 + 2 * (bg % 24)) (c := .inr (5, [.int kd, .int a, .int b0, .int (E 7 0), .int ((Q (bg % 24)).1 4), .int ((Q (bg % 24)).1 5), .int ((Q (bg % 24)).1 6), .ref (n + 272 + 2 * (bg % 24) + 1)])) (Or.inr (by omega))
  replace hN := hN.put (a := n + 272 + 2 * (bg % 24)) (c := .inr (5, [.int kd, .int a, .int b0, .int (E 7 0), .int ((Q (bg % 24)).1 4), .int ((Q (bg % 24)).1 5), .int ((Q (bg % 24)).1 6), .ref (n + 272 + 2 * (bg % 24) + 1)])) (by omega)
  replace hA := hA.put (a := n + 272 + 2 * (bg % 24)) (c := .inr (5, [.int kd, .int a, .int b0, .int (E 7 0), .int ((Q (bg % 24)).1 4), .int ((Q (bg % 24)).1 5), .int ((Q (bg % 24)).1 6), .ref (n + 272 + 2 * (bg % 24) + 1)])) (by omega)
  replace hn : (ax_put hp_3 (n + 272 + 2 * (bg % 24)) (.inr (5, [.int kd, .int a, .int b0, .int (E 7 0), .int ((Q (bg % 24)).1 4), .int ((Q (bg % 24)).1 5), .int ((Q (bg % 24)).1 6), .ref (n + 272 + 2 * (bg % 24) + 1)]))).1 = h0.1 := hn
  replace hs : (ax_put hp_3 (n + 272 + 2 * (bg % 24)) (.inr (5, [.int kd, .int a, .int b0, .int (E 7 0), .int ((Q (bg % 24)).1 4), .int ((Q (bg % 24)).1 5), .int ((Q (bg % 24)).1 6), .ref (n + 272 + 2 * (bg % 24) + 1)]))).2.1 = h0.2.1 := hs
  generalize ax_put hp_3 (n + 272 + 2 * (bg % 24)) (.inr (5, [.int kd, .int a, .int b0, .int (E 7 0), .int ((Q (bg % 24)).1 4), .int ((Q (bg % 24)).1 5), .int ((Q (bg % 24)).1 6), .ref (n + 272 + 2 * (bg % 24) + 1)])) = hp_4 at hF hf hA hN hn hs ⊢
  refine ar_aload 48 d_46_46 rfl rfl ?_
  refine ar_aload_n 49 d_46_48 rfl rfl ?_
  refine ar_getf 52 d_46_49 rfl (ci := 4) (k := 5) rfl (hF.at 5 rfl) rfl ?_
  refine ar_iconst 53 (v := 1) d_46_52 rfl (by decide) ?_
  refine ar_iald 54 d_46_53 rfl (hF.at 8 rfl) (vin (i := 1) (by omega) (by omega)) ?_
  refine ar_top (x' := E 7 1) (by rw [show (1 : Int32).toNatClampNeg = 1 by decide]) ?_
  refine ar_putf 57 [.int kd, .int a, .int b0, .int (E 7 0), .int (E 7 1), .int ((Q (bg % 24)).1 5), .int ((Q (bg % 24)).1 6), .ref (n + 272 + 2 * (bg % 24) + 1)] d_46_54 rfl (ci := 5) (k := 4) rfl rfl (hF.at 0 rfl) (Nat.le_of_ble_eq_true rfl) rfl rfl rfl ?_
  replace hF : ax_hs (ax_put hp_4 (n + 272 + 2 * (bg % 24)) (.inr (5, [.int kd, .int a, .int b0, .int (E 7 0), .int (E 7 1), .int ((Q (bg % 24)).1 5), .int ((Q (bg % 24)).1 6), .ref (n + 272 + 2 * (bg % 24) + 1)]))) [(n + 272 + 2 * (bg % 24), .inr (5, [.int kd, .int a, .int b0, .int (E 7 0), .int (E 7 1), .int ((Q (bg % 24)).1 5), .int ((Q (bg % 24)).1 6), .ref (n + 272 + 2 * (bg % 24) + 1)])), (n + 272 + 2 * (bg % 24) + 1, .inl (0, 612, .inl ((Q (bg % 24)).2))), cSt s0 n E, cRk n nn gg C, cOr n nn gg f, cAs n E, cEr n 5 512 E, cEr n 6 100 E, cEr n 7 2 E, cAk n, cEr n 9 512 E, cNa n nn, cEr n 0 48 E, cEr n 1 961 E, cTs n gg E TK, cEr n 59 48 E, cEr n 60 48 E, cEr n 61 48 E, cEr n 62 2400 E, cEr n 63 512 E, cEr n 64 961 E, cEr n 65 961 E] := hF.put 0 _ rfl rfl
  replace hf := hf.put (a := n + 272 + 2 * (bg % 24)) (c := .inr (5, [.int kd, .int a, .int b0, .int (E 7 0), .int (E 7 1), .int ((Q (bg % 24)).1 5), .int ((Q (bg % 24)).1 6), .ref (n + 272 + 2 * (bg % 24) + 1)])) (Or.inr (by omega))
  replace hN := hN.put (a := n + 272 + 2 * (bg % 24)) (c := .inr (5, [.int kd, .int a, .int b0, .int (E 7 0), .int (E 7 1), .int ((Q (bg % 24)).1 5), .int ((Q (bg % 24)).1 6), .ref (n + 272 + 2 * (bg % 24) + 1)])) (by omega)
  replace hA := hA.put (a := n + 272 + 2 * (bg % 24)) (c := .inr (5, [.int kd, .int a, .int b0, .int (E 7 0), .int (E 7 1), .int ((Q (bg % 24)).1 5), .int ((Q (bg % 24)).1 6), .ref (n + 272 + 2 * (bg % 24) + 1)])) (by omega)
  replace hn : (ax_put hp_4 (n + 272 + 2 * (bg % 24)) (.inr (5, [.int kd, .int a, .int b0, .int (E 7 0), .int (E 7 1), .int ((Q (bg % 24)).1 5), .int ((Q (bg % 24)).1 6), .ref (n + 272 + 2 * (bg % 24) + 1)]))).1 = h0.1 := hn
  replace hs : (ax_put hp_4 (n + 272 + 2 * (bg % 24)) (.inr (5, [.int kd, .int a, .int b0, .int (E 7 0), .int (E 7 1), .int ((Q (bg % 24)).1 5), .int ((Q (bg % 24)).1 6), .ref (n + 272 + 2 * (bg % 24) + 1)]))).2.1 = h0.2.1 := hs
  generalize ax_put hp_4 (n + 272 + 2 * (bg % 24)) (.inr (5, [.int kd, .int a, .int b0, .int (E 7 0), .int (E 7 1), .int ((Q (bg % 24)).1 5), .int ((Q (bg % 24)).1 6), .ref (n + 272 + 2 * (bg % 24) + 1)])) = hp_5 at hF hf hA hN hn hs ⊢
  refine ar_aload 59 d_46_57 rfl rfl ?_
  refine ar_iconst 60 (v := 0) d_46_59 rfl (by decide) ?_
  refine ar_putf 63 [.int kd, .int a, .int b0, .int (E 7 0), .int (E 7 1), .int 0, .int ((Q (bg % 24)).1 6), .ref (n + 272 + 2 * (bg % 24) + 1)] d_46_60 rfl (ci := 5) (k := 5) rfl rfl (hF.at 0 rfl) (Nat.le_of_ble_eq_true rfl) rfl rfl rfl ?_
  replace hF : ax_hs (ax_put hp_5 (n + 272 + 2 * (bg % 24)) (.inr (5, [.int kd, .int a, .int b0, .int (E 7 0), .int (E 7 1), .int 0, .int ((Q (bg % 24)).1 6), .ref (n + 272 + 2 * (bg % 24) + 1)]))) [(n + 272 + 2 * (bg % 24), .inr (5, [.int kd, .int a, .int b0, .int (E 7 0), .int (E 7 1), .int 0, .int ((Q (bg % 24)).1 6), .ref (n + 272 + 2 * (bg % 24) + 1)])), (n + 272 + 2 * (bg % 24) + 1, .inl (0, 612, .inl ((Q (bg % 24)).2))), cSt s0 n E, cRk n nn gg C, cOr n nn gg f, cAs n E, cEr n 5 512 E, cEr n 6 100 E, cEr n 7 2 E, cAk n, cEr n 9 512 E, cNa n nn, cEr n 0 48 E, cEr n 1 961 E, cTs n gg E TK, cEr n 59 48 E, cEr n 60 48 E, cEr n 61 48 E, cEr n 62 2400 E, cEr n 63 512 E, cEr n 64 961 E, cEr n 65 961 E] := hF.put 0 _ rfl rfl
  replace hf := hf.put (a := n + 272 + 2 * (bg % 24)) (c := .inr (5, [.int kd, .int a, .int b0, .int (E 7 0), .int (E 7 1), .int 0, .int ((Q (bg % 24)).1 6), .ref (n + 272 + 2 * (bg % 24) + 1)])) (Or.inr (by omega))
  replace hN := hN.put (a := n + 272 + 2 * (bg % 24)) (c := .inr (5, [.int kd, .int a, .int b0, .int (E 7 0), .int (E 7 1), .int 0, .int ((Q (bg % 24)).1 6), .ref (n + 272 + 2 * (bg % 24) + 1)])) (by omega)
  replace hA := hA.put (a := n + 272 + 2 * (bg % 24)) (c := .inr (5, [.int kd, .int a, .int b0, .int (E 7 0), .int (E 7 1), .int 0, .int ((Q (bg % 24)).1 6), .ref (n + 272 + 2 * (bg % 24) + 1)])) (by omega)
  replace hn : (ax_put hp_5 (n + 272 + 2 * (bg % 24)) (.inr (5, [.int kd, .int a, .int b0, .int (E 7 0), .int (E 7 1), .int 0, .int ((Q (bg % 24)).1 6), .ref (n + 272 + 2 * (bg % 24) + 1)]))).1 = h0.1 := hn
  replace hs : (ax_put hp_5 (n + 272 + 2 * (bg % 24)) (.inr (5, [.int kd, .int a, .int b0, .int (E 7 0), .int (E 7 1), .int 0, .int ((Q (bg % 24)).1 6), .ref (n + 272 + 2 * (bg % 24) + 1)]))).2.1 = h0.2.1 := hs
  generalize ax_put hp_5 (n + 272 + 2 * (bg % 24)) (.inr (5, [.int kd, .int a, .int b0, .int (E 7 0), .int (E 7 1), .int 0, .int ((Q (bg % 24)).1 6), .ref (n + 272 + 2 * (bg % 24) + 1)])) = hp_6 at hF hf hA hN hn hs ⊢
  refine ar_aload 65 d_46_63 rfl rfl ?_
  refine ar_iconst 66 (v := 0) d_46_65 rfl (by decide) ?_
  refine ar_putf 69 [.int kd, .int a, .int b0, .int (E 7 0), .int (E 7 1), .int 0, .int 0, .ref (n + 272 + 2 * (bg % 24) + 1)] d_46_66 rfl (ci := 5) (k := 6) rfl rfl (hF.at 0 rfl) (Nat.le_of_ble_eq_true rfl) rfl rfl rfl ?_
  replace hF : ax_hs (ax_put hp_6 (n + 272 + 2 * (bg % 24)) (.inr (5, [.int kd, .int a, .int b0, .int (E 7 0), .int (E 7 1), .int 0, .int 0, .ref (n + 272 + 2 * (bg % 24) + 1)]))) [(n + 272 + 2 * (bg % 24), .inr (5, [.int kd, .int a, .int b0, .int (E 7 0), .int (E 7 1), .int 0, .int 0, .ref (n + 272 + 2 * (bg % 24) + 1)])), (n + 272 + 2 * (bg % 24) + 1, .inl (0, 612, .inl ((Q (bg % 24)).2))), cSt s0 n E, cRk n nn gg C, cOr n nn gg f, cAs n E, cEr n 5 512 E, cEr n 6 100 E, cEr n 7 2 E, cAk n, cEr n 9 512 E, cNa n nn, cEr n 0 48 E, cEr n 1 961 E, cTs n gg E TK, cEr n 59 48 E, cEr n 60 48 E, cEr n 61 48 E, cEr n 62 2400 E, cEr n 63 512 E, cEr n 64 961 E, cEr n 65 961 E] := hF.put 0 _ rfl rfl
  replace hf := hf.put (a := n + 272 + 2 * (bg % 24)) (c := .inr (5, [.int kd, .int a, .int b0, .int (E 7 0), .int (E 7 1), .int 0, .int 0, .ref (n + 272 + 2 * (bg % 24) + 1)])) (Or.inr (by omega))
  replace hN := hN.put (a := n + 272 + 2 * (bg % 24)) (c := .inr (5, [.int kd, .int a, .int b0, .int (E 7 0), .int (E 7 1), .int 0, .int 0, .ref (n + 272 + 2 * (bg % 24) + 1)])) (by omega)
  replace hA := hA.put (a := n + 272 + 2 * (bg % 24)) (c := .inr (5, [.int kd, .int a, .int b0, .int (E 7 0), .int (E 7 1), .int 0, .int 0, .ref (n + 272 + 2 * (bg % 24) + 1)])) (by omega)
  replace hn : (ax_put hp_6 (n + 272 + 2 * (bg % 24)) (.inr (5, [.int kd, .int a, .int b0, .int (E 7 0), .int (E 7 1), .int 0, .int 0, .ref (n + 272 + 2 * (bg % 24) + 1)]))).1 = h0.1 := hn
  replace hs : (ax_put hp_6 (n + 272 + 2 * (bg % 24)) (.inr (5, [.int kd, .int a, .int b0, .int (E 7 0), .int (E 7 1), .int 0, .int 0, .ref (n + 272 + 2 * (bg % 24) + 1)]))).2.1 = h0.2.1 := hs
  generalize ax_put hp_6 (n + 272 + 2 * (bg % 24)) (.inr (5, [.int kd, .int a, .int b0, .int (E 7 0), .int (E 7 1), .int 0, .int 0, .ref (n + 272 + 2 * (bg % 24) + 1)])) = hp_7 at hF hf hA hN hn hs ⊢
  refine ar_aload_n 70 d_46_69 rfl rfl ?_
  refine ar_getf 73 d_46_70 rfl (ci := 4) (k := 4) rfl (hF.at 5 rfl) rfl ?_
  refine ar_iconst 74 (v := 0) d_46_73 rfl (by decide) ?_
  refine ar_aload 76 d_46_74 rfl rfl ?_
  refine ar_getf 79 d_46_76 rfl (ci := 5) (k := 7) rfl (hF.at 0 rfl) rfl ?_
  refine ar_iconst 80 (v := 0) d_46_79 rfl (by decide) ?_
  refine ar_bipush 82 (v := 100) d_46_80 rfl (by decide) ?_
  refine ar_copy 85 d_46_82 rfl rfl (by omega) (by show 0 + (nativeFrameWords "java/lang/System" "arraycopy" 5 + 11) ≤ lo; rw [nfw_copy]; omega) (hF.at 7 rfl) (hF.at 1 rfl) (by decide) (by decide) (by decide) (by decide) (by decide) ?_
  replace hF : ax_hs (ax_put hp_7 (n + 272 + 2 * (bg % 24) + 1) (.inl (0, 612, .inl (va_cpy (E 6) ((Q (bg % 24)).2) ((0 : Int32).toNatClampNeg) ((0 : Int32).toNatClampNeg) ((100 : Int32).toNatClampNeg))))) [(n + 272 + 2 * (bg % 24), .inr (5, [.int kd, .int a, .int b0, .int (E 7 0), .int (E 7 1), .int 0, .int 0, .ref (n + 272 + 2 * (bg % 24) + 1)])), (n + 272 + 2 * (bg % 24) + 1, .inl (0, 612, .inl (va_cpy (E 6) ((Q (bg % 24)).2) ((0 : Int32).toNatClampNeg) ((0 : Int32).toNatClampNeg) ((100 : Int32).toNatClampNeg)))), cSt s0 n E, cRk n nn gg C, cOr n nn gg f, cAs n E, cEr n 5 512 E, cEr n 6 100 E, cEr n 7 2 E, cAk n, cEr n 9 512 E, cNa n nn, cEr n 0 48 E, cEr n 1 961 E, cTs n gg E TK, cEr n 59 48 E, cEr n 60 48 E, cEr n 61 48 E, cEr n 62 2400 E, cEr n 63 512 E, cEr n 64 961 E, cEr n 65 961 E] := hF.put 1 _ rfl rfl
  replace hf := hf.put (a := n + 272 + 2 * (bg % 24) + 1) (c := .inl (0, 612, .inl (va_cpy (E 6) ((Q (bg % 24)).2) ((0 : Int32).toNatClampNeg) ((0 : Int32).toNatClampNeg) ((100 : Int32).toNatClampNeg)))) (Or.inr (by omega))
  replace hN := hN.put (a := n + 272 + 2 * (bg % 24) + 1) (c := .inl (0, 612, .inl (va_cpy (E 6) ((Q (bg % 24)).2) ((0 : Int32).toNatClampNeg) ((0 : Int32).toNatClampNeg) ((100 : Int32).toNatClampNeg)))) (by omega)
  replace hA := hA.put (a := n + 272 + 2 * (bg % 24) + 1) (c := .inl (0, 612, .inl (va_cpy (E 6) ((Q (bg % 24)).2) ((0 : Int32).toNatClampNeg) ((0 : Int32).toNatClampNeg) ((100 : Int32).toNatClampNeg)))) (by omega)
  replace hn : (ax_put hp_7 (n + 272 + 2 * (bg % 24) + 1) (.inl (0, 612, .inl (va_cpy (E 6) ((Q (bg % 24)).2) ((0 : Int32).toNatClampNeg) ((0 : Int32).toNatClampNeg) ((100 : Int32).toNatClampNeg))))).1 = h0.1 := hn
  replace hs : (ax_put hp_7 (n + 272 + 2 * (bg % 24) + 1) (.inl (0, 612, .inl (va_cpy (E 6) ((Q (bg % 24)).2) ((0 : Int32).toNatClampNeg) ((0 : Int32).toNatClampNeg) ((100 : Int32).toNatClampNeg))))).2.1 = h0.2.1 := hs
  generalize ax_put hp_7 (n + 272 + 2 * (bg % 24) + 1) (.inl (0, 612, .inl (va_cpy (E 6) ((Q (bg % 24)).2) ((0 : Int32).toNatClampNeg) ((0 : Int32).toNatClampNeg) ((100 : Int32).toNatClampNeg)))) = hp_8 at hF hf hA hN hn hs ⊢
  replace hF : ax_hs hp_8 [(n + 272 + 2 * (bg % 24), .inr (5, [.int kd, .int a, .int b0, .int (E 7 0), .int (E 7 1), .int 0, .int 0, .ref (n + 272 + 2 * (bg % 24) + 1)])), (n + 272 + 2 * (bg % 24) + 1, .inl (0, 612, .inl (va_cpy (E 6) (Q (bg % 24)).2 0 0 100))), cSt s0 n E, cRk n nn gg C, cOr n nn gg f, cAs n E, cEr n 5 512 E, cEr n 6 100 E, cEr n 7 2 E, cAk n, cEr n 9 512 E, cNa n nn, cEr n 0 48 E, cEr n 1 961 E, cTs n gg E TK, cEr n 59 48 E, cEr n 60 48 E, cEr n 61 48 E, cEr n 62 2400 E, cEr n 63 512 E, cEr n 64 961 E, cEr n 65 961 E] := by
    have e := hF
    rw [show ((0 : Int32)).toNatClampNeg = 0 by decide, show ((100 : Int32)).toNatClampNeg = 100 by decide] at e
    exact e
  refine ar_iload_n 86 d_46_85 rfl rfl ?_
  refine ar_iconst 87 (v := 1) d_46_86 rfl (by decide) ?_
  refine ar_icmp_eq 95 90 d_46_87 (by decide) rfl (fun c1 => ?_) (fun c1 => ?_)
  · refine ar_aload_n 96 d_46_95 rfl rfl ?_
    refine ar_getf 99 d_46_96 rfl (ci := 4) (k := 2) rfl (hF.at 5 rfl) rfl ?_
    refine ar_iconst 100 (v := 0) d_46_99 rfl (by decide) ?_
    refine ar_aload 102 d_46_100 rfl rfl ?_
    refine ar_getf 105 d_46_102 rfl (ci := 5) (k := 7) rfl (hF.at 0 rfl) rfl ?_
    refine ar_bipush 107 (v := 100) d_46_105 rfl (by decide) ?_
    refine ar_sipush 110 (v := 512) d_46_107 rfl (by decide) ?_
    refine ar_copy 113 d_46_110 rfl rfl (by omega) (by show 0 + (nativeFrameWords "java/lang/System" "arraycopy" 5 + 11) ≤ lo; rw [nfw_copy]; omega) (hF.at 6 rfl) (hF.at 1 rfl) (by decide) (by decide) (by decide) (by decide) (by decide) ?_
    replace hF : ax_hs (ax_put hp_8 (n + 272 + 2 * (bg % 24) + 1) (.inl (0, 612, .inl (va_cpy (E 5) (va_cpy (E 6) (Q (bg % 24)).2 0 0 100) ((0 : Int32).toNatClampNeg) ((100 : Int32).toNatClampNeg) ((512 : Int32).toNatClampNeg))))) [(n + 272 + 2 * (bg % 24), .inr (5, [.int kd, .int a, .int b0, .int (E 7 0), .int (E 7 1), .int 0, .int 0, .ref (n + 272 + 2 * (bg % 24) + 1)])), (n + 272 + 2 * (bg % 24) + 1, .inl (0, 612, .inl (va_cpy (E 5) (va_cpy (E 6) (Q (bg % 24)).2 0 0 100) ((0 : Int32).toNatClampNeg) ((100 : Int32).toNatClampNeg) ((512 : Int32).toNatClampNeg)))), cSt s0 n E, cRk n nn gg C, cOr n nn gg f, cAs n E, cEr n 5 512 E, cEr n 6 100 E, cEr n 7 2 E, cAk n, cEr n 9 512 E, cNa n nn, cEr n 0 48 E, cEr n 1 961 E, cTs n gg E TK, cEr n 59 48 E, cEr n 60 48 E, cEr n 61 48 E, cEr n 62 2400 E, cEr n 63 512 E, cEr n 64 961 E, cEr n 65 961 E] := hF.put 1 _ rfl rfl
    replace hf := hf.put (a := n + 272 + 2 * (bg % 24) + 1) (c := .inl (0, 612, .inl (va_cpy (E 5) (va_cpy (E 6) (Q (bg % 24)).2 0 0 100) ((0 : Int32).toNatClampNeg) ((100 : Int32).toNatClampNeg) ((512 : Int32).toNatClampNeg)))) (Or.inr (by omega))
    replace hN := hN.put (a := n + 272 + 2 * (bg % 24) + 1) (c := .inl (0, 612, .inl (va_cpy (E 5) (va_cpy (E 6) (Q (bg % 24)).2 0 0 100) ((0 : Int32).toNatClampNeg) ((100 : Int32).toNatClampNeg) ((512 : Int32).toNatClampNeg)))) (by omega)
    replace hA := hA.put (a := n + 272 + 2 * (bg % 24) + 1) (c := .inl (0, 612, .inl (va_cpy (E 5) (va_cpy (E 6) (Q (bg % 24)).2 0 0 100) ((0 : Int32).toNatClampNeg) ((100 : Int32).toNatClampNeg) ((512 : Int32).toNatClampNeg)))) (by omega)
    replace hn : (ax_put hp_8 (n + 272 + 2 * (bg % 24) + 1) (.inl (0, 612, .inl (va_cpy (E 5) (va_cpy (E 6) (Q (bg % 24)).2 0 0 100) ((0 : Int32).toNatClampNeg) ((100 : Int32).toNatClampNeg) ((512 : Int32).toNatClampNeg))))).1 = h0.1 := hn
    replace hs : (ax_put hp_8 (n + 272 + 2 * (bg % 24) + 1) (.inl (0, 612, .inl (va_cpy (E 5) (va_cpy (E 6) (Q (bg % 24)).2 0 0 100) ((0 : Int32).toNatClampNeg) ((100 : Int32).toNatClampNeg) ((512 : Int32).toNatClampNeg))))).2.1 = h0.2.1 := hs
    generalize ax_put hp_8 (n + 272 + 2 * (bg % 24) + 1) (.inl (0, 612, .inl (va_cpy (E 5) (va_cpy (E 6) (Q (bg % 24)).2 0 0 100) ((0 : Int32).toNatClampNeg) ((100 : Int32).toNatClampNeg) ((512 : Int32).toNatClampNeg)))) = hp_9 at hF hf hA hN hn hs ⊢
    replace hF : ax_hs hp_9 [(n + 272 + 2 * (bg % 24), .inr (5, [.int kd, .int a, .int b0, .int (E 7 0), .int (E 7 1), .int 0, .int 0, .ref (n + 272 + 2 * (bg % 24) + 1)])), (n + 272 + 2 * (bg % 24) + 1, .inl (0, 612, .inl (va_cpy (E 5) (va_cpy (E 6) (Q (bg % 24)).2 0 0 100) 0 100 512))), cSt s0 n E, cRk n nn gg C, cOr n nn gg f, cAs n E, cEr n 5 512 E, cEr n 6 100 E, cEr n 7 2 E, cAk n, cEr n 9 512 E, cNa n nn, cEr n 0 48 E, cEr n 1 961 E, cTs n gg E TK, cEr n 59 48 E, cEr n 60 48 E, cEr n 61 48 E, cEr n 62 2400 E, cEr n 63 512 E, cEr n 64 961 E, cEr n 65 961 E] := by
      have e := hF
      rw [show ((0 : Int32)).toNatClampNeg = 0 by decide, show ((100 : Int32)).toNatClampNeg = 100 by decide, show ((512 : Int32)).toNatClampNeg = 512 by decide] at e
      exact e
    refine ar_aload 115 d_46_113 rfl rfl ?_
    refine ar_aload_n 116 d_46_115 rfl rfl ?_
    refine ar_getf 119 d_46_116 rfl (ci := 4) (k := 3) rfl (hF.at 5 rfl) rfl ?_
    refine ar_putf 122 [.int kd, .int a, .int b0, .int (E 7 0), .int (E 7 1), .int (E 4 3), .int 0, .ref (n + 272 + 2 * (bg % 24) + 1)] d_46_119 rfl (ci := 5) (k := 5) rfl rfl (hF.at 0 rfl) (Nat.le_of_ble_eq_true rfl) rfl rfl rfl ?_
    replace hF : ax_hs (ax_put hp_9 (n + 272 + 2 * (bg % 24)) (.inr (5, [.int kd, .int a, .int b0, .int (E 7 0), .int (E 7 1), .int (E 4 3), .int 0, .ref (n + 272 + 2 * (bg % 24) + 1)]))) [(n + 272 + 2 * (bg % 24), .inr (5, [.int kd, .int a, .int b0, .int (E 7 0), .int (E 7 1), .int (E 4 3), .int 0, .ref (n + 272 + 2 * (bg % 24) + 1)])), (n + 272 + 2 * (bg % 24) + 1, .inl (0, 612, .inl (va_cpy (E 5) (va_cpy (E 6) (Q (bg % 24)).2 0 0 100) 0 100 512))), cSt s0 n E, cRk n nn gg C, cOr n nn gg f, cAs n E, cEr n 5 512 E, cEr n 6 100 E, cEr n 7 2 E, cAk n, cEr n 9 512 E, cNa n nn, cEr n 0 48 E, cEr n 1 961 E, cTs n gg E TK, cEr n 59 48 E, cEr n 60 48 E, cEr n 61 48 E, cEr n 62 2400 E, cEr n 63 512 E, cEr n 64 961 E, cEr n 65 961 E] := hF.put 0 _ rfl rfl
    replace hf := hf.put (a := n + 272 + 2 * (bg % 24)) (c := .inr (5, [.int kd, .int a, .int b0, .int (E 7 0), .int (E 7 1), .int (E 4 3), .int 0, .ref (n + 272 + 2 * (bg % 24) + 1)])) (Or.inr (by omega))
    replace hN := hN.put (a := n + 272 + 2 * (bg % 24)) (c := .inr (5, [.int kd, .int a, .int b0, .int (E 7 0), .int (E 7 1), .int (E 4 3), .int 0, .ref (n + 272 + 2 * (bg % 24) + 1)])) (by omega)
    replace hA := hA.put (a := n + 272 + 2 * (bg % 24)) (c := .inr (5, [.int kd, .int a, .int b0, .int (E 7 0), .int (E 7 1), .int (E 4 3), .int 0, .ref (n + 272 + 2 * (bg % 24) + 1)])) (by omega)
    replace hn : (ax_put hp_9 (n + 272 + 2 * (bg % 24)) (.inr (5, [.int kd, .int a, .int b0, .int (E 7 0), .int (E 7 1), .int (E 4 3), .int 0, .ref (n + 272 + 2 * (bg % 24) + 1)]))).1 = h0.1 := hn
    replace hs : (ax_put hp_9 (n + 272 + 2 * (bg % 24)) (.inr (5, [.int kd, .int a, .int b0, .int (E 7 0), .int (E 7 1), .int (E 4 3), .int 0, .ref (n + 272 + 2 * (bg % 24) + 1)]))).2.1 = h0.2.1 := hs
    generalize ax_put hp_9 (n + 272 + 2 * (bg % 24)) (.inr (5, [.int kd, .int a, .int b0, .int (E 7 0), .int (E 7 1), .int (E 4 3), .int 0, .ref (n + 272 + 2 * (bg % 24) + 1)])) = hp_10 at hF hf hA hN hn hs ⊢
    refine ar_aload_n 123 d_46_122 rfl rfl ?_
    refine ar_iconst 124 (v := 0) d_46_123 rfl (by decide) ?_
    refine ar_putf 127 [.ref (n + 264), .ref n, .ref (n + 267), .int 0, .ref (n + 268), .ref (n + 269), .ref (n + 270), .ref (n + 271), .int (E 4 8), .int (E 4 9), .int (E 4 10), .int (E 4 11), .int (E 4 12), .int (E 4 13), .int (E 4 14), .int (E 4 15)] d_46_124 rfl (ci := 4) (k := 3) rfl rfl (hF.at 5 rfl) (Nat.le_of_ble_eq_true rfl) rfl rfl rfl ?_
    replace hF : ax_hs (ax_put hp_10 (n + 266) (.inr (4, [.ref (n + 264), .ref n, .ref (n + 267), .int 0, .ref (n + 268), .ref (n + 269), .ref (n + 270), .ref (n + 271), .int (E 4 8), .int (E 4 9), .int (E 4 10), .int (E 4 11), .int (E 4 12), .int (E 4 13), .int (E 4 14), .int (E 4 15)]))) [(n + 272 + 2 * (bg % 24), .inr (5, [.int kd, .int a, .int b0, .int (E 7 0), .int (E 7 1), .int (E 4 3), .int 0, .ref (n + 272 + 2 * (bg % 24) + 1)])), (n + 272 + 2 * (bg % 24) + 1, .inl (0, 612, .inl (va_cpy (E 5) (va_cpy (E 6) (Q (bg % 24)).2 0 0 100) 0 100 512))), cSt s0 n E, cRk n nn gg C, cOr n nn gg f, (n + 266, .inr (4, [.ref (n + 264), .ref n, .ref (n + 267), .int 0, .ref (n + 268), .ref (n + 269), .ref (n + 270), .ref (n + 271), .int (E 4 8), .int (E 4 9), .int (E 4 10), .int (E 4 11), .int (E 4 12), .int (E 4 13), .int (E 4 14), .int (E 4 15)])), cEr n 5 512 E, cEr n 6 100 E, cEr n 7 2 E, cAk n, cEr n 9 512 E, cNa n nn, cEr n 0 48 E, cEr n 1 961 E, cTs n gg E TK, cEr n 59 48 E, cEr n 60 48 E, cEr n 61 48 E, cEr n 62 2400 E, cEr n 63 512 E, cEr n 64 961 E, cEr n 65 961 E] := hF.put 5 _ rfl rfl
    replace hf := hf.put (a := n + 266) (c := .inr (4, [.ref (n + 264), .ref n, .ref (n + 267), .int 0, .ref (n + 268), .ref (n + 269), .ref (n + 270), .ref (n + 271), .int (E 4 8), .int (E 4 9), .int (E 4 10), .int (E 4 11), .int (E 4 12), .int (E 4 13), .int (E 4 14), .int (E 4 15)])) (Or.inr (by omega))
    replace hN := hN.put (a := n + 266) (c := .inr (4, [.ref (n + 264), .ref n, .ref (n + 267), .int 0, .ref (n + 268), .ref (n + 269), .ref (n + 270), .ref (n + 271), .int (E 4 8), .int (E 4 9), .int (E 4 10), .int (E 4 11), .int (E 4 12), .int (E 4 13), .int (E 4 14), .int (E 4 15)])) (by omega)
    replace hA := hA.put (a := n + 266) (c := .inr (4, [.ref (n + 264), .ref n, .ref (n + 267), .int 0, .ref (n + 268), .ref (n + 269), .ref (n + 270), .ref (n + 271), .int (E 4 8), .int (E 4 9), .int (E 4 10), .int (E 4 11), .int (E 4 12), .int (E 4 13), .int (E 4 14), .int (E 4 15)])) (by omega)
    replace hn : (ax_put hp_10 (n + 266) (.inr (4, [.ref (n + 264), .ref n, .ref (n + 267), .int 0, .ref (n + 268), .ref (n + 269), .ref (n + 270), .ref (n + 271), .int (E 4 8), .int (E 4 9), .int (E 4 10), .int (E 4 11), .int (E 4 12), .int (E 4 13), .int (E 4 14), .int (E 4 15)]))).1 = h0.1 := hn
    replace hs : (ax_put hp_10 (n + 266) (.inr (4, [.ref (n + 264), .ref n, .ref (n + 267), .int 0, .ref (n + 268), .ref (n + 269), .ref (n + 270), .ref (n + 271), .int (E 4 8), .int (E 4 9), .int (E 4 10), .int (E 4 11), .int (E 4 12), .int (E 4 13), .int (E 4 14), .int (E 4 15)]))).2.1 = h0.2.1 := hs
    generalize ax_put hp_10 (n + 266) (.inr (4, [.ref (n + 264), .ref n, .ref (n + 267), .int 0, .ref (n + 268), .ref (n + 269), .ref (n + 270), .ref (n + 271), .int (E 4 8), .int (E 4 9), .int (E 4 10), .int (E 4 11), .int (E 4 12), .int (E 4 13), .int (E 4 14), .int (E 4 15)])) = hp_11 at hF hf hA hN hn hs ⊢
    refine ar_aload_n 128 d_46_127 rfl rfl ?_
    refine ar_dup 129 d_46_128 rfl rfl ?_
    refine ar_getf 132 d_46_129 rfl (ci := 4) (k := 8) rfl (hF.at 5 rfl) rfl ?_
    refine ar_top (x' := nI bg) (e8) ?_
    refine ar_iconst 133 (v := 1) d_46_132 rfl (by decide) ?_
    refine ar_iadd 134 d_46_133 rfl ?_
    refine ar_top (x' := nI (bg + 1)) (nI_1 bg) ?_
    refine ar_putf 137 [.ref (n + 264), .ref n, .ref (n + 267), .int 0, .ref (n + 268), .ref (n + 269), .ref (n + 270), .ref (n + 271), .int (nI (bg + 1)), .int (E 4 9), .int (E 4 10), .int (E 4 11), .int (E 4 12), .int (E 4 13), .int (E 4 14), .int (E 4 15)] d_46_134 rfl (ci := 4) (k := 8) rfl rfl (hF.at 5 rfl) (Nat.le_of_ble_eq_true rfl) rfl rfl rfl ?_
    replace hF : ax_hs (ax_put hp_11 (n + 266) (.inr (4, [.ref (n + 264), .ref n, .ref (n + 267), .int 0, .ref (n + 268), .ref (n + 269), .ref (n + 270), .ref (n + 271), .int (nI (bg + 1)), .int (E 4 9), .int (E 4 10), .int (E 4 11), .int (E 4 12), .int (E 4 13), .int (E 4 14), .int (E 4 15)]))) [(n + 272 + 2 * (bg % 24), .inr (5, [.int kd, .int a, .int b0, .int (E 7 0), .int (E 7 1), .int (E 4 3), .int 0, .ref (n + 272 + 2 * (bg % 24) + 1)])), (n + 272 + 2 * (bg % 24) + 1, .inl (0, 612, .inl (va_cpy (E 5) (va_cpy (E 6) (Q (bg % 24)).2 0 0 100) 0 100 512))), cSt s0 n E, cRk n nn gg C, cOr n nn gg f, (n + 266, .inr (4, [.ref (n + 264), .ref n, .ref (n + 267), .int 0, .ref (n + 268), .ref (n + 269), .ref (n + 270), .ref (n + 271), .int (nI (bg + 1)), .int (E 4 9), .int (E 4 10), .int (E 4 11), .int (E 4 12), .int (E 4 13), .int (E 4 14), .int (E 4 15)])), cEr n 5 512 E, cEr n 6 100 E, cEr n 7 2 E, cAk n, cEr n 9 512 E, cNa n nn, cEr n 0 48 E, cEr n 1 961 E, cTs n gg E TK, cEr n 59 48 E, cEr n 60 48 E, cEr n 61 48 E, cEr n 62 2400 E, cEr n 63 512 E, cEr n 64 961 E, cEr n 65 961 E] := hF.put 5 _ rfl rfl
    replace hf := hf.put (a := n + 266) (c := .inr (4, [.ref (n + 264), .ref n, .ref (n + 267), .int 0, .ref (n + 268), .ref (n + 269), .ref (n + 270), .ref (n + 271), .int (nI (bg + 1)), .int (E 4 9), .int (E 4 10), .int (E 4 11), .int (E 4 12), .int (E 4 13), .int (E 4 14), .int (E 4 15)])) (Or.inr (by omega))
    replace hN := hN.put (a := n + 266) (c := .inr (4, [.ref (n + 264), .ref n, .ref (n + 267), .int 0, .ref (n + 268), .ref (n + 269), .ref (n + 270), .ref (n + 271), .int (nI (bg + 1)), .int (E 4 9), .int (E 4 10), .int (E 4 11), .int (E 4 12), .int (E 4 13), .int (E 4 14), .int (E 4 15)])) (by omega)
    replace hA := hA.put (a := n + 266) (c := .inr (4, [.ref (n + 264), .ref n, .ref (n + 267), .int 0, .ref (n + 268), .ref (n + 269), .ref (n + 270), .ref (n + 271), .int (nI (bg + 1)), .int (E 4 9), .int (E 4 10), .int (E 4 11), .int (E 4 12), .int (E 4 13), .int (E 4 14), .int (E 4 15)])) (by omega)
    replace hn : (ax_put hp_11 (n + 266) (.inr (4, [.ref (n + 264), .ref n, .ref (n + 267), .int 0, .ref (n + 268), .ref (n + 269), .ref (n + 270), .ref (n + 271), .int (nI (bg + 1)), .int (E 4 9), .int (E 4 10), .int (E 4 11), .int (E 4 12), .int (E 4 13), .int (E 4 14), .int (E 4 15)]))).1 = h0.1 := hn
    replace hs : (ax_put hp_11 (n + 266) (.inr (4, [.ref (n + 264), .ref n, .ref (n + 267), .int 0, .ref (n + 268), .ref (n + 269), .ref (n + 270), .ref (n + 271), .int (nI (bg + 1)), .int (E 4 9), .int (E 4 10), .int (E 4 11), .int (E 4 12), .int (E 4 13), .int (E 4 14), .int (E 4 15)]))).2.1 = h0.2.1 := hs
    generalize ax_put hp_11 (n + 266) (.inr (4, [.ref (n + 264), .ref n, .ref (n + 267), .int 0, .ref (n + 268), .ref (n + 269), .ref (n + 270), .ref (n + 271), .int (nI (bg + 1)), .int (E 4 9), .int (E 4 10), .int (E 4 11), .int (E 4 12), .int (E 4 13), .int (E 4 14), .int (E 4 15)])) = hp_12 at hF hf hA hN hn hs ⊢
    refine ar_aload_n 138 d_46_137 rfl rfl ?_
    refine ar_getf 141 d_46_138 rfl (ci := 4) (k := 9) rfl (hF.at 5 rfl) rfl ?_
    refine ar_top (x' := nI he) (e9) ?_
    refine ar_aload_n 142 d_46_141 rfl rfl ?_
    refine ar_getf 145 d_46_142 rfl (ci := 4) (k := 8) rfl (hF.at 5 rfl) rfl ?_
    refine ar_top (x' := nI (bg + 1)) (rfl) ?_
    refine ar_iconst 146 (v := 1) d_46_145 rfl (by decide) ?_
    refine ar_isub 147 d_46_146 rfl ?_
    refine ar_top (x' := nI bg) (nI_s1 bg) ?_
    refine ar_icmp_ne 154 150 d_46_147 (by decide) rfl (fun c3 => ?_) (fun c3 => ?_)
    · replace hA : AKS hp_12 n (va_up Q (bg % 24) (upd (upd (upd (upd (upd (upd (upd ((Q (bg % 24)).1) 0 kd) 1 a) 2 b0) 3 (E 7 0)) 4 (E 7 1)) 5 (E 4 3)) 6 0, va_cpy (E 5) (va_cpy (E 6) (Q (bg % 24)).2 0 0 100) 0 100 512)) := hA.back haj ⟨hF.at 0 rfl, hF.at 1 rfl⟩
      replace hF := hF.sub (F' := [cSt s0 n E, cRk n nn gg C, cOr n nn gg f, (n + 266, .inr (4, [.ref (n + 264), .ref n, .ref (n + 267), .int 0, .ref (n + 268), .ref (n + 269), .ref (n + 270), .ref (n + 271), .int (nI (bg + 1)), .int (E 4 9), .int (E 4 10), .int (E 4 11), .int (E 4 12), .int (E 4 13), .int (E 4 14), .int (E 4 15)])), cEr n 5 512 E, cEr n 6 100 E, cEr n 7 2 E, cAk n, cEr n 9 512 E, cNa n nn, cEr n 0 48 E, cEr n 1 961 E, cTs n gg E TK, cEr n 59 48 E, cEr n 60 48 E, cEr n 61 48 E, cEr n 62 2400 E, cEr n 63 512 E, cEr n 64 961 E, cEr n 65 961 E]) [2, 3, 4, 5, 6, 7, 8, 9, 10, 11, 12, 13, 14, 15, 16, 17, 18, 19, 20, 21] rfl rfl
      have eE : va_up E 4 (upd (upd (E 4) 3 0) 8 (nI (bg + 1))) = opE E kd bg := by
        unfold opE
        rw [if_pos (Or.inl c1)]
      have eQ : va_up Q (bg % 24) (upd (upd (upd (upd (upd (upd (upd ((Q (bg % 24)).1) 0 kd) 1 a) 2 b0) 3 (E 7 0)) 4 (E 7 1)) 5 (E 4 3)) 6 0, va_cpy (E 5) (va_cpy (E 6) (Q (bg % 24)).2 0 0 100) 0 100 512) = va_up Q (bg % 24) (opQ E (Q (bg % 24)) kd a b0) := by
        unfold opQ opL
        rw [if_pos (Or.inl c1), if_pos (Or.inl c1)]
      have hS1 : AS s0 n nn gg C f q u b h0 hp_12 (va_up E 4 (upd (upd (E 4) 3 0) 8 (nI (bg + 1)))) TK (va_up Q (bg % 24) (upd (upd (upd (upd (upd (upd (upd ((Q (bg % 24)).1) 0 kd) 1 a) 2 b0) 3 (E 7 0)) 4 (E 7 1)) 5 (E 4 3)) 6 0, va_cpy (E 5) (va_cpy (E 6) (Q (bg % 24)).2 0 0 100) 0 100 512)) ms := ⟨hF, hA, hN, hf, hn, hs, hp0⟩
      rw [eE, eQ] at hS1
      clear hF hA hN hf hn hs hp0
      obtain ⟨hF, hA, hN, hf, hn, hs, hp0⟩ := hS1
      replace hF : ax_hs hp_12 [cSt s0 n (opE E kd bg), cRk n nn gg C, cOr n nn gg f, cAs n (opE E kd bg), cEr n 5 512 (opE E kd bg), cEr n 6 100 (opE E kd bg), cEr n 7 2 (opE E kd bg), cAk n, cEr n 9 512 (opE E kd bg), cNa n nn, cEr n 0 48 (opE E kd bg), cEr n 1 961 (opE E kd bg), cTs n gg (opE E kd bg) TK, cEr n 59 48 (opE E kd bg), cEr n 60 48 (opE E kd bg), cEr n 61 48 (opE E kd bg), cEr n 62 2400 (opE E kd bg), cEr n 63 512 (opE E kd bg), cEr n 64 961 (opE E kd bg), cEr n 65 961 (opE E kd bg)] := hF
      have f8 : opE E kd bg 4 8 = nI (bg + 1) := opE_8
      have f9 : opE E kd bg 4 9 = nI he := opE_9.trans e9
      refine ar_aload_n 155 d_46_154 rfl rfl ?_
      refine ar_getf 158 d_46_155 rfl (ci := 4) (k := 8) rfl (hF.at 3 rfl) rfl ?_
      refine ar_top (x' := nI (bg + 1)) (f8) ?_
      refine ar_iconst 159 (v := 1) d_46_158 rfl (by decide) ?_
      refine ar_isub 160 d_46_159 rfl ?_
      refine ar_top (x' := nI bg) (nI_s1 bg) ?_
      have hS9 : AS s0 n nn gg C f q u b h0 hp_12 (opE E kd bg) TK (va_up Q (bg % 24) (opQ E (Q (bg % 24)) kd a b0)) ms := ⟨hF, hA, hN, hf, hn, hs, hp0⟩
      exact ar_iret d_46_160 rfl rfl (⟨rfl, ms, hS9, Or.inr ⟨fun z => c3 (by rw [z]), rfl⟩⟩)
    · replace hA : AKS hp_12 n (va_up Q (bg % 24) (upd (upd (upd (upd (upd (upd (upd ((Q (bg % 24)).1) 0 kd) 1 a) 2 b0) 3 (E 7 0)) 4 (E 7 1)) 5 (E 4 3)) 6 0, va_cpy (E 5) (va_cpy (E 6) (Q (bg % 24)).2 0 0 100) 0 100 512)) := hA.back haj ⟨hF.at 0 rfl, hF.at 1 rfl⟩
      replace hF := hF.sub (F' := [cSt s0 n E, cRk n nn gg C, cOr n nn gg f, (n + 266, .inr (4, [.ref (n + 264), .ref n, .ref (n + 267), .int 0, .ref (n + 268), .ref (n + 269), .ref (n + 270), .ref (n + 271), .int (nI (bg + 1)), .int (E 4 9), .int (E 4 10), .int (E 4 11), .int (E 4 12), .int (E 4 13), .int (E 4 14), .int (E 4 15)])), cEr n 5 512 E, cEr n 6 100 E, cEr n 7 2 E, cAk n, cEr n 9 512 E, cNa n nn, cEr n 0 48 E, cEr n 1 961 E, cTs n gg E TK, cEr n 59 48 E, cEr n 60 48 E, cEr n 61 48 E, cEr n 62 2400 E, cEr n 63 512 E, cEr n 64 961 E, cEr n 65 961 E]) [2, 3, 4, 5, 6, 7, 8, 9, 10, 11, 12, 13, 14, 15, 16, 17, 18, 19, 20, 21] rfl rfl
      have eE : va_up E 4 (upd (upd (E 4) 3 0) 8 (nI (bg + 1))) = opE E kd bg := by
        unfold opE
        rw [if_pos (Or.inl c1)]
      have eQ : va_up Q (bg % 24) (upd (upd (upd (upd (upd (upd (upd ((Q (bg % 24)).1) 0 kd) 1 a) 2 b0) 3 (E 7 0)) 4 (E 7 1)) 5 (E 4 3)) 6 0, va_cpy (E 5) (va_cpy (E 6) (Q (bg % 24)).2 0 0 100) 0 100 512) = va_up Q (bg % 24) (opQ E (Q (bg % 24)) kd a b0) := by
        unfold opQ opL
        rw [if_pos (Or.inl c1), if_pos (Or.inl c1)]
      have hS1 : AS s0 n nn gg C f q u b h0 hp_12 (va_up E 4 (upd (upd (E 4) 3 0) 8 (nI (bg + 1)))) TK (va_up Q (bg % 24) (upd (upd (upd (upd (upd (upd (upd ((Q (bg % 24)).1) 0 kd) 1 a) 2 b0) 3 (E 7 0)) 4 (E 7 1)) 5 (E 4 3)) 6 0, va_cpy (E 5) (va_cpy (E 6) (Q (bg % 24)).2 0 0 100) 0 100 512)) ms := ⟨hF, hA, hN, hf, hn, hs, hp0⟩
      rw [eE, eQ] at hS1
      clear hF hA hN hf hn hs hp0
      obtain ⟨hF, hA, hN, hf, hn, hs, hp0⟩ := hS1
      replace hF : ax_hs hp_12 [cSt s0 n (opE E kd bg), cRk n nn gg C, cOr n nn gg f, cAs n (opE E kd bg), cEr n 5 512 (opE E kd bg), cEr n 6 100 (opE E kd bg), cEr n 7 2 (opE E kd bg), cAk n, cEr n 9 512 (opE E kd bg), cNa n nn, cEr n 0 48 (opE E kd bg), cEr n 1 961 (opE E kd bg), cTs n gg (opE E kd bg) TK, cEr n 59 48 (opE E kd bg), cEr n 60 48 (opE E kd bg), cEr n 61 48 (opE E kd bg), cEr n 62 2400 (opE E kd bg), cEr n 63 512 (opE E kd bg), cEr n 64 961 (opE E kd bg), cEr n 65 961 (opE E kd bg)] := hF
      have f8 : opE E kd bg 4 8 = nI (bg + 1) := opE_8
      have f9 : opE E kd bg 4 9 = nI he := opE_9.trans e9
      have hbe : he = bg := nI_inj (by omega) (by omega) (Decidable.not_not.mp c3)
      refine ar_aload_n 151 d_46_150 rfl rfl ?_
      have hS1 : AS s0 n nn gg C f q u b h0 hp_12 (opE E kd bg) TK (va_up Q (bg % 24) (opQ E (Q (bg % 24)) kd a b0)) ms := ⟨hF, hA, hN, hf, hn, hs, hp0⟩
      refine ar_call (r := []) (na := 0) (kd := 0) (cm := 47) (fr2 := fr - 1) (lo2 := lo - 23) 154 d_46_151 (ar_hoV (as := []) rfl rfl rfl (hF.at 3 rfl)) rfl (by omega) (show lo - 23 + (19 + 4) = lo by omega) (Nat.le_of_ble_eq_true rfl) (Nat.le_of_ble_eq_true rfl) (ek_47 (by omega) (by omega) hC0 hS1 f9 f8 (by omega) (by omega) (fun _ => by subst hbe; rw [va_up_s]; exact opQ_5 hk5)) ?_
      intro v hp_13 hq
      obtain ⟨rfl, ms13, hS2, hr13⟩ := hq
      clear hS1 hF hA hN hf hn hs hp0
      obtain ⟨hF, hA, hN, hf, hn, hs, hp0⟩ := hS2
      replace hF : ax_hs hp_13 [cSt s0 n (opE E kd bg), cRk n nn gg C, cOr n nn gg f, cAs n (opE E kd bg), cEr n 5 512 (opE E kd bg), cEr n 6 100 (opE E kd bg), cEr n 7 2 (opE E kd bg), cAk n, cEr n 9 512 (opE E kd bg), cNa n nn, cEr n 0 48 (opE E kd bg), cEr n 1 961 (opE E kd bg), cTs n gg (opE E kd bg) TK, cEr n 59 48 (opE E kd bg), cEr n 60 48 (opE E kd bg), cEr n 61 48 (opE E kd bg), cEr n 62 2400 (opE E kd bg), cEr n 63 512 (opE E kd bg), cEr n 64 961 (opE E kd bg), cEr n 65 961 (opE E kd bg)] := hF
      refine ar_aload_n 155 d_46_154 rfl rfl ?_
      refine ar_getf 158 d_46_155 rfl (ci := 4) (k := 8) rfl (hF.at 3 rfl) rfl ?_
      refine ar_top (x' := nI (bg + 1)) (f8) ?_
      refine ar_iconst 159 (v := 1) d_46_158 rfl (by decide) ?_
      refine ar_isub 160 d_46_159 rfl ?_
      refine ar_top (x' := nI bg) (nI_s1 bg) ?_
      have hS9 : AS s0 n nn gg C f q u b h0 hp_13 (opE E kd bg) TK (va_up Q (bg % 24) (opQ E (Q (bg % 24)) kd a b0)) ms13 := ⟨hF, hA, hN, hf, hn, hs, hp0⟩
      exact ar_iret d_46_160 rfl rfl (⟨rfl, _, hS9, Or.inl ⟨hbe, hr13⟩⟩)
  · refine ar_iload_n 91 d_46_90 rfl rfl ?_
    refine ar_iconst 92 (v := 2) d_46_91 rfl (by decide) ?_
    refine ar_icmp_ne 127 95 d_46_92 (by decide) rfl (fun c2 => ?_) (fun c2 => ?_)
    · refine ar_aload_n 128 d_46_127 rfl rfl ?_
      refine ar_dup 129 d_46_128 rfl rfl ?_
      refine ar_getf 132 d_46_129 rfl (ci := 4) (k := 8) rfl (hF.at 5 rfl) rfl ?_
      refine ar_top (x' := nI bg) (e8) ?_
      refine ar_iconst 133 (v := 1) d_46_132 rfl (by decide) ?_
      refine ar_iadd 134 d_46_133 rfl ?_
      refine ar_top (x' := nI (bg + 1)) (nI_1 bg) ?_
      refine ar_putf 137 [.ref (n + 264), .ref n, .ref (n + 267), .int (E 4 3), .ref (n + 268), .ref (n + 269), .ref (n + 270), .ref (n + 271), .int (nI (bg + 1)), .int (E 4 9), .int (E 4 10), .int (E 4 11), .int (E 4 12), .int (E 4 13), .int (E 4 14), .int (E 4 15)] d_46_134 rfl (ci := 4) (k := 8) rfl rfl (hF.at 5 rfl) (Nat.le_of_ble_eq_true rfl) rfl rfl rfl ?_
      replace hF : ax_hs (ax_put hp_8 (n + 266) (.inr (4, [.ref (n + 264), .ref n, .ref (n + 267), .int (E 4 3), .ref (n + 268), .ref (n + 269), .ref (n + 270), .ref (n + 271), .int (nI (bg + 1)), .int (E 4 9), .int (E 4 10), .int (E 4 11), .int (E 4 12), .int (E 4 13), .int (E 4 14), .int (E 4 15)]))) [(n + 272 + 2 * (bg % 24), .inr (5, [.int kd, .int a, .int b0, .int (E 7 0), .int (E 7 1), .int 0, .int 0, .ref (n + 272 + 2 * (bg % 24) + 1)])), (n + 272 + 2 * (bg % 24) + 1, .inl (0, 612, .inl (va_cpy (E 6) (Q (bg % 24)).2 0 0 100))), cSt s0 n E, cRk n nn gg C, cOr n nn gg f, (n + 266, .inr (4, [.ref (n + 264), .ref n, .ref (n + 267), .int (E 4 3), .ref (n + 268), .ref (n + 269), .ref (n + 270), .ref (n + 271), .int (nI (bg + 1)), .int (E 4 9), .int (E 4 10), .int (E 4 11), .int (E 4 12), .int (E 4 13), .int (E 4 14), .int (E 4 15)])), cEr n 5 512 E, cEr n 6 100 E, cEr n 7 2 E, cAk n, cEr n 9 512 E, cNa n nn, cEr n 0 48 E, cEr n 1 961 E, cTs n gg E TK, cEr n 59 48 E, cEr n 60 48 E, cEr n 61 48 E, cEr n 62 2400 E, cEr n 63 512 E, cEr n 64 961 E, cEr n 65 961 E] := hF.put 5 _ rfl rfl
      replace hf := hf.put (a := n + 266) (c := .inr (4, [.ref (n + 264), .ref n, .ref (n + 267), .int (E 4 3), .ref (n + 268), .ref (n + 269), .ref (n + 270), .ref (n + 271), .int (nI (bg + 1)), .int (E 4 9), .int (E 4 10), .int (E 4 11), .int (E 4 12), .int (E 4 13), .int (E 4 14), .int (E 4 15)])) (Or.inr (by omega))
      replace hN := hN.put (a := n + 266) (c := .inr (4, [.ref (n + 264), .ref n, .ref (n + 267), .int (E 4 3), .ref (n + 268), .ref (n + 269), .ref (n + 270), .ref (n + 271), .int (nI (bg + 1)), .int (E 4 9), .int (E 4 10), .int (E 4 11), .int (E 4 12), .int (E 4 13), .int (E 4 14), .int (E 4 15)])) (by omega)
      replace hA := hA.put (a := n + 266) (c := .inr (4, [.ref (n + 264), .ref n, .ref (n + 267), .int (E 4 3), .ref (n + 268), .ref (n + 269), .ref (n + 270), .ref (n + 271), .int (nI (bg + 1)), .int (E 4 9), .int (E 4 10), .int (E 4 11), .int (E 4 12), .int (E 4 13), .int (E 4 14), .int (E 4 15)])) (by omega)
      replace hn : (ax_put hp_8 (n + 266) (.inr (4, [.ref (n + 264), .ref n, .ref (n + 267), .int (E 4 3), .ref (n + 268), .ref (n + 269), .ref (n + 270), .ref (n + 271), .int (nI (bg + 1)), .int (E 4 9), .int (E 4 10), .int (E 4 11), .int (E 4 12), .int (E 4 13), .int (E 4 14), .int (E 4 15)]))).1 = h0.1 := hn
      replace hs : (ax_put hp_8 (n + 266) (.inr (4, [.ref (n + 264), .ref n, .ref (n + 267), .int (E 4 3), .ref (n + 268), .ref (n + 269), .ref (n + 270), .ref (n + 271), .int (nI (bg + 1)), .int (E 4 9), .int (E 4 10), .int (E 4 11), .int (E 4 12), .int (E 4 13), .int (E 4 14), .int (E 4 15)]))).2.1 = h0.2.1 := hs
      generalize ax_put hp_8 (n + 266) (.inr (4, [.ref (n + 264), .ref n, .ref (n + 267), .int (E 4 3), .ref (n + 268), .ref (n + 269), .ref (n + 270), .ref (n + 271), .int (nI (bg + 1)), .int (E 4 9), .int (E 4 10), .int (E 4 11), .int (E 4 12), .int (E 4 13), .int (E 4 14), .int (E 4 15)])) = hp_14 at hF hf hA hN hn hs ⊢
      refine ar_aload_n 138 d_46_137 rfl rfl ?_
      refine ar_getf 141 d_46_138 rfl (ci := 4) (k := 9) rfl (hF.at 5 rfl) rfl ?_
      refine ar_top (x' := nI he) (e9) ?_
      refine ar_aload_n 142 d_46_141 rfl rfl ?_
      refine ar_getf 145 d_46_142 rfl (ci := 4) (k := 8) rfl (hF.at 5 rfl) rfl ?_
      refine ar_top (x' := nI (bg + 1)) (rfl) ?_
      refine ar_iconst 146 (v := 1) d_46_145 rfl (by decide) ?_
      refine ar_isub 147 d_46_146 rfl ?_
      refine ar_top (x' := nI bg) (nI_s1 bg) ?_
      refine ar_icmp_ne 154 150 d_46_147 (by decide) rfl (fun c3 => ?_) (fun c3 => ?_)
      · replace hA : AKS hp_14 n (va_up Q (bg % 24) (upd (upd (upd (upd (upd (upd (upd ((Q (bg % 24)).1) 0 kd) 1 a) 2 b0) 3 (E 7 0)) 4 (E 7 1)) 5 0) 6 0, va_cpy (E 6) (Q (bg % 24)).2 0 0 100)) := hA.back haj ⟨hF.at 0 rfl, hF.at 1 rfl⟩
        replace hF := hF.sub (F' := [cSt s0 n E, cRk n nn gg C, cOr n nn gg f, (n + 266, .inr (4, [.ref (n + 264), .ref n, .ref (n + 267), .int (E 4 3), .ref (n + 268), .ref (n + 269), .ref (n + 270), .ref (n + 271), .int (nI (bg + 1)), .int (E 4 9), .int (E 4 10), .int (E 4 11), .int (E 4 12), .int (E 4 13), .int (E 4 14), .int (E 4 15)])), cEr n 5 512 E, cEr n 6 100 E, cEr n 7 2 E, cAk n, cEr n 9 512 E, cNa n nn, cEr n 0 48 E, cEr n 1 961 E, cTs n gg E TK, cEr n 59 48 E, cEr n 60 48 E, cEr n 61 48 E, cEr n 62 2400 E, cEr n 63 512 E, cEr n 64 961 E, cEr n 65 961 E]) [2, 3, 4, 5, 6, 7, 8, 9, 10, 11, 12, 13, 14, 15, 16, 17, 18, 19, 20, 21] rfl rfl
        have eE : va_up E 4 (upd (E 4) 8 (nI (bg + 1))) = opE E kd bg := by
          unfold opE
          rw [if_neg (fun z => z.elim c1 c2)]
        have eQ : va_up Q (bg % 24) (upd (upd (upd (upd (upd (upd (upd ((Q (bg % 24)).1) 0 kd) 1 a) 2 b0) 3 (E 7 0)) 4 (E 7 1)) 5 0) 6 0, va_cpy (E 6) (Q (bg % 24)).2 0 0 100) = va_up Q (bg % 24) (opQ E (Q (bg % 24)) kd a b0) := by
          unfold opQ opL
          rw [if_neg (fun z => z.elim c1 c2), if_neg (fun z => z.elim c1 c2)]
        have hS1 : AS s0 n nn gg C f q u b h0 hp_14 (va_up E 4 (upd (E 4) 8 (nI (bg + 1)))) TK (va_up Q (bg % 24) (upd (upd (upd (upd (upd (upd (upd ((Q (bg % 24)).1) 0 kd) 1 a) 2 b0) 3 (E 7 0)) 4 (E 7 1)) 5 0) 6 0, va_cpy (E 6) (Q (bg % 24)).2 0 0 100)) ms := ⟨hF, hA, hN, hf, hn, hs, hp0⟩
        rw [eE, eQ] at hS1
        clear hF hA hN hf hn hs hp0
        obtain ⟨hF, hA, hN, hf, hn, hs, hp0⟩ := hS1
        replace hF : ax_hs hp_14 [cSt s0 n (opE E kd bg), cRk n nn gg C, cOr n nn gg f, cAs n (opE E kd bg), cEr n 5 512 (opE E kd bg), cEr n 6 100 (opE E kd bg), cEr n 7 2 (opE E kd bg), cAk n, cEr n 9 512 (opE E kd bg), cNa n nn, cEr n 0 48 (opE E kd bg), cEr n 1 961 (opE E kd bg), cTs n gg (opE E kd bg) TK, cEr n 59 48 (opE E kd bg), cEr n 60 48 (opE E kd bg), cEr n 61 48 (opE E kd bg), cEr n 62 2400 (opE E kd bg), cEr n 63 512 (opE E kd bg), cEr n 64 961 (opE E kd bg), cEr n 65 961 (opE E kd bg)] := hF
        have f8 : opE E kd bg 4 8 = nI (bg + 1) := opE_8
        have f9 : opE E kd bg 4 9 = nI he := opE_9.trans e9
        refine ar_aload_n 155 d_46_154 rfl rfl ?_
        refine ar_getf 158 d_46_155 rfl (ci := 4) (k := 8) rfl (hF.at 3 rfl) rfl ?_
        refine ar_top (x' := nI (bg + 1)) (f8) ?_
        refine ar_iconst 159 (v := 1) d_46_158 rfl (by decide) ?_
        refine ar_isub 160 d_46_159 rfl ?_
        refine ar_top (x' := nI bg) (nI_s1 bg) ?_
        have hS9 : AS s0 n nn gg C f q u b h0 hp_14 (opE E kd bg) TK (va_up Q (bg % 24) (opQ E (Q (bg % 24)) kd a b0)) ms := ⟨hF, hA, hN, hf, hn, hs, hp0⟩
        exact ar_iret d_46_160 rfl rfl (⟨rfl, ms, hS9, Or.inr ⟨fun z => c3 (by rw [z]), rfl⟩⟩)
      · replace hA : AKS hp_14 n (va_up Q (bg % 24) (upd (upd (upd (upd (upd (upd (upd ((Q (bg % 24)).1) 0 kd) 1 a) 2 b0) 3 (E 7 0)) 4 (E 7 1)) 5 0) 6 0, va_cpy (E 6) (Q (bg % 24)).2 0 0 100)) := hA.back haj ⟨hF.at 0 rfl, hF.at 1 rfl⟩
        replace hF := hF.sub (F' := [cSt s0 n E, cRk n nn gg C, cOr n nn gg f, (n + 266, .inr (4, [.ref (n + 264), .ref n, .ref (n + 267), .int (E 4 3), .ref (n + 268), .ref (n + 269), .ref (n + 270), .ref (n + 271), .int (nI (bg + 1)), .int (E 4 9), .int (E 4 10), .int (E 4 11), .int (E 4 12), .int (E 4 13), .int (E 4 14), .int (E 4 15)])), cEr n 5 512 E, cEr n 6 100 E, cEr n 7 2 E, cAk n, cEr n 9 512 E, cNa n nn, cEr n 0 48 E, cEr n 1 961 E, cTs n gg E TK, cEr n 59 48 E, cEr n 60 48 E, cEr n 61 48 E, cEr n 62 2400 E, cEr n 63 512 E, cEr n 64 961 E, cEr n 65 961 E]) [2, 3, 4, 5, 6, 7, 8, 9, 10, 11, 12, 13, 14, 15, 16, 17, 18, 19, 20, 21] rfl rfl
        have eE : va_up E 4 (upd (E 4) 8 (nI (bg + 1))) = opE E kd bg := by
          unfold opE
          rw [if_neg (fun z => z.elim c1 c2)]
        have eQ : va_up Q (bg % 24) (upd (upd (upd (upd (upd (upd (upd ((Q (bg % 24)).1) 0 kd) 1 a) 2 b0) 3 (E 7 0)) 4 (E 7 1)) 5 0) 6 0, va_cpy (E 6) (Q (bg % 24)).2 0 0 100) = va_up Q (bg % 24) (opQ E (Q (bg % 24)) kd a b0) := by
          unfold opQ opL
          rw [if_neg (fun z => z.elim c1 c2), if_neg (fun z => z.elim c1 c2)]
        have hS1 : AS s0 n nn gg C f q u b h0 hp_14 (va_up E 4 (upd (E 4) 8 (nI (bg + 1)))) TK (va_up Q (bg % 24) (upd (upd (upd (upd (upd (upd (upd ((Q (bg % 24)).1) 0 kd) 1 a) 2 b0) 3 (E 7 0)) 4 (E 7 1)) 5 0) 6 0, va_cpy (E 6) (Q (bg % 24)).2 0 0 100)) ms := ⟨hF, hA, hN, hf, hn, hs, hp0⟩
        rw [eE, eQ] at hS1
        clear hF hA hN hf hn hs hp0
        obtain ⟨hF, hA, hN, hf, hn, hs, hp0⟩ := hS1
        replace hF : ax_hs hp_14 [cSt s0 n (opE E kd bg), cRk n nn gg C, cOr n nn gg f, cAs n (opE E kd bg), cEr n 5 512 (opE E kd bg), cEr n 6 100 (opE E kd bg), cEr n 7 2 (opE E kd bg), cAk n, cEr n 9 512 (opE E kd bg), cNa n nn, cEr n 0 48 (opE E kd bg), cEr n 1 961 (opE E kd bg), cTs n gg (opE E kd bg) TK, cEr n 59 48 (opE E kd bg), cEr n 60 48 (opE E kd bg), cEr n 61 48 (opE E kd bg), cEr n 62 2400 (opE E kd bg), cEr n 63 512 (opE E kd bg), cEr n 64 961 (opE E kd bg), cEr n 65 961 (opE E kd bg)] := hF
        have f8 : opE E kd bg 4 8 = nI (bg + 1) := opE_8
        have f9 : opE E kd bg 4 9 = nI he := opE_9.trans e9
        have hbe : he = bg := nI_inj (by omega) (by omega) (Decidable.not_not.mp c3)
        refine ar_aload_n 151 d_46_150 rfl rfl ?_
        have hS1 : AS s0 n nn gg C f q u b h0 hp_14 (opE E kd bg) TK (va_up Q (bg % 24) (opQ E (Q (bg % 24)) kd a b0)) ms := ⟨hF, hA, hN, hf, hn, hs, hp0⟩
        refine ar_call (r := []) (na := 0) (kd := 0) (cm := 47) (fr2 := fr - 1) (lo2 := lo - 23) 154 d_46_151 (ar_hoV (as := []) rfl rfl rfl (hF.at 3 rfl)) rfl (by omega) (show lo - 23 + (19 + 4) = lo by omega) (Nat.le_of_ble_eq_true rfl) (Nat.le_of_ble_eq_true rfl) (ek_47 (by omega) (by omega) hC0 hS1 f9 f8 (by omega) (by omega) (fun _ => by subst hbe; rw [va_up_s]; exact opQ_5 hk5)) ?_
        intro v hp_15 hq
        obtain ⟨rfl, ms15, hS2, hr15⟩ := hq
        clear hS1 hF hA hN hf hn hs hp0
        obtain ⟨hF, hA, hN, hf, hn, hs, hp0⟩ := hS2
        replace hF : ax_hs hp_15 [cSt s0 n (opE E kd bg), cRk n nn gg C, cOr n nn gg f, cAs n (opE E kd bg), cEr n 5 512 (opE E kd bg), cEr n 6 100 (opE E kd bg), cEr n 7 2 (opE E kd bg), cAk n, cEr n 9 512 (opE E kd bg), cNa n nn, cEr n 0 48 (opE E kd bg), cEr n 1 961 (opE E kd bg), cTs n gg (opE E kd bg) TK, cEr n 59 48 (opE E kd bg), cEr n 60 48 (opE E kd bg), cEr n 61 48 (opE E kd bg), cEr n 62 2400 (opE E kd bg), cEr n 63 512 (opE E kd bg), cEr n 64 961 (opE E kd bg), cEr n 65 961 (opE E kd bg)] := hF
        refine ar_aload_n 155 d_46_154 rfl rfl ?_
        refine ar_getf 158 d_46_155 rfl (ci := 4) (k := 8) rfl (hF.at 3 rfl) rfl ?_
        refine ar_top (x' := nI (bg + 1)) (f8) ?_
        refine ar_iconst 159 (v := 1) d_46_158 rfl (by decide) ?_
        refine ar_isub 160 d_46_159 rfl ?_
        refine ar_top (x' := nI bg) (nI_s1 bg) ?_
        have hS9 : AS s0 n nn gg C f q u b h0 hp_15 (opE E kd bg) TK (va_up Q (bg % 24) (opQ E (Q (bg % 24)) kd a b0)) ms15 := ⟨hF, hA, hN, hf, hn, hs, hp0⟩
        exact ar_iret d_46_160 rfl rfl (⟨rfl, _, hS9, Or.inl ⟨hbe, hr15⟩⟩)
    · refine ar_aload_n 96 d_46_95 rfl rfl ?_
      refine ar_getf 99 d_46_96 rfl (ci := 4) (k := 2) rfl (hF.at 5 rfl) rfl ?_
      refine ar_iconst 100 (v := 0) d_46_99 rfl (by decide) ?_
      refine ar_aload 102 d_46_100 rfl rfl ?_
      refine ar_getf 105 d_46_102 rfl (ci := 5) (k := 7) rfl (hF.at 0 rfl) rfl ?_
      refine ar_bipush 107 (v := 100) d_46_105 rfl (by decide) ?_
      refine ar_sipush 110 (v := 512) d_46_107 rfl (by decide) ?_
      refine ar_copy 113 d_46_110 rfl rfl (by omega) (by show 0 + (nativeFrameWords "java/lang/System" "arraycopy" 5 + 11) ≤ lo; rw [nfw_copy]; omega) (hF.at 6 rfl) (hF.at 1 rfl) (by decide) (by decide) (by decide) (by decide) (by decide) ?_
      replace hF : ax_hs (ax_put hp_8 (n + 272 + 2 * (bg % 24) + 1) (.inl (0, 612, .inl (va_cpy (E 5) (va_cpy (E 6) (Q (bg % 24)).2 0 0 100) ((0 : Int32).toNatClampNeg) ((100 : Int32).toNatClampNeg) ((512 : Int32).toNatClampNeg))))) [(n + 272 + 2 * (bg % 24), .inr (5, [.int kd, .int a, .int b0, .int (E 7 0), .int (E 7 1), .int 0, .int 0, .ref (n + 272 + 2 * (bg % 24) + 1)])), (n + 272 + 2 * (bg % 24) + 1, .inl (0, 612, .inl (va_cpy (E 5) (va_cpy (E 6) (Q (bg % 24)).2 0 0 100) ((0 : Int32).toNatClampNeg) ((100 : Int32).toNatClampNeg) ((512 : Int32).toNatClampNeg)))), cSt s0 n E, cRk n nn gg C, cOr n nn gg f, cAs n E, cEr n 5 512 E, cEr n 6 100 E, cEr n 7 2 E, cAk n, cEr n 9 512 E, cNa n nn, cEr n 0 48 E, cEr n 1 961 E, cTs n gg E TK, cEr n 59 48 E, cEr n 60 48 E, cEr n 61 48 E, cEr n 62 2400 E, cEr n 63 512 E, cEr n 64 961 E, cEr n 65 961 E] := hF.put 1 _ rfl rfl
      replace hf := hf.put (a := n + 272 + 2 * (bg % 24) + 1) (c := .inl (0, 612, .inl (va_cpy (E 5) (va_cpy (E 6) (Q (bg % 24)).2 0 0 100) ((0 : Int32).toNatClampNeg) ((100 : Int32).toNatClampNeg) ((512 : Int32).toNatClampNeg)))) (Or.inr (by omega))
      replace hN := hN.put (a := n + 272 + 2 * (bg % 24) + 1) (c := .inl (0, 612, .inl (va_cpy (E 5) (va_cpy (E 6) (Q (bg % 24)).2 0 0 100) ((0 : Int32).toNatClampNeg) ((100 : Int32).toNatClampNeg) ((512 : Int32).toNatClampNeg)))) (by omega)
      replace hA := hA.put (a := n + 272 + 2 * (bg % 24) + 1) (c := .inl (0, 612, .inl (va_cpy (E 5) (va_cpy (E 6) (Q (bg % 24)).2 0 0 100) ((0 : Int32).toNatClampNeg) ((100 : Int32).toNatClampNeg) ((512 : Int32).toNatClampNeg)))) (by omega)
      replace hn : (ax_put hp_8 (n + 272 + 2 * (bg % 24) + 1) (.inl (0, 612, .inl (va_cpy (E 5) (va_cpy (E 6) (Q (bg % 24)).2 0 0 100) ((0 : Int32).toNatClampNeg) ((100 : Int32).toNatClampNeg) ((512 : Int32).toNatClampNeg))))).1 = h0.1 := hn
      replace hs : (ax_put hp_8 (n + 272 + 2 * (bg % 24) + 1) (.inl (0, 612, .inl (va_cpy (E 5) (va_cpy (E 6) (Q (bg % 24)).2 0 0 100) ((0 : Int32).toNatClampNeg) ((100 : Int32).toNatClampNeg) ((512 : Int32).toNatClampNeg))))).2.1 = h0.2.1 := hs
      generalize ax_put hp_8 (n + 272 + 2 * (bg % 24) + 1) (.inl (0, 612, .inl (va_cpy (E 5) (va_cpy (E 6) (Q (bg % 24)).2 0 0 100) ((0 : Int32).toNatClampNeg) ((100 : Int32).toNatClampNeg) ((512 : Int32).toNatClampNeg)))) = hp_16 at hF hf hA hN hn hs ⊢
      replace hF : ax_hs hp_16 [(n + 272 + 2 * (bg % 24), .inr (5, [.int kd, .int a, .int b0, .int (E 7 0), .int (E 7 1), .int 0, .int 0, .ref (n + 272 + 2 * (bg % 24) + 1)])), (n + 272 + 2 * (bg % 24) + 1, .inl (0, 612, .inl (va_cpy (E 5) (va_cpy (E 6) (Q (bg % 24)).2 0 0 100) 0 100 512))), cSt s0 n E, cRk n nn gg C, cOr n nn gg f, cAs n E, cEr n 5 512 E, cEr n 6 100 E, cEr n 7 2 E, cAk n, cEr n 9 512 E, cNa n nn, cEr n 0 48 E, cEr n 1 961 E, cTs n gg E TK, cEr n 59 48 E, cEr n 60 48 E, cEr n 61 48 E, cEr n 62 2400 E, cEr n 63 512 E, cEr n 64 961 E, cEr n 65 961 E] := by
        have e := hF
        rw [show ((0 : Int32)).toNatClampNeg = 0 by decide, show ((100 : Int32)).toNatClampNeg = 100 by decide, show ((512 : Int32)).toNatClampNeg = 512 by decide] at e
        exact e
      refine ar_aload 115 d_46_113 rfl rfl ?_
      refine ar_aload_n 116 d_46_115 rfl rfl ?_
      refine ar_getf 119 d_46_116 rfl (ci := 4) (k := 3) rfl (hF.at 5 rfl) rfl ?_
      refine ar_putf 122 [.int kd, .int a, .int b0, .int (E 7 0), .int (E 7 1), .int (E 4 3), .int 0, .ref (n + 272 + 2 * (bg % 24) + 1)] d_46_119 rfl (ci := 5) (k := 5) rfl rfl (hF.at 0 rfl) (Nat.le_of_ble_eq_true rfl) rfl rfl rfl ?_
      replace hF : ax_hs (ax_put hp_16 (n + 272 + 2 * (bg % 24)) (.inr (5, [.int kd, .int a, .int b0, .int (E 7 0), .int (E 7 1), .int (E 4 3), .int 0, .ref (n + 272 + 2 * (bg % 24) + 1)]))) [(n + 272 + 2 * (bg % 24), .inr (5, [.int kd, .int a, .int b0, .int (E 7 0), .int (E 7 1), .int (E 4 3), .int 0, .ref (n + 272 + 2 * (bg % 24) + 1)])), (n + 272 + 2 * (bg % 24) + 1, .inl (0, 612, .inl (va_cpy (E 5) (va_cpy (E 6) (Q (bg % 24)).2 0 0 100) 0 100 512))), cSt s0 n E, cRk n nn gg C, cOr n nn gg f, cAs n E, cEr n 5 512 E, cEr n 6 100 E, cEr n 7 2 E, cAk n, cEr n 9 512 E, cNa n nn, cEr n 0 48 E, cEr n 1 961 E, cTs n gg E TK, cEr n 59 48 E, cEr n 60 48 E, cEr n 61 48 E, cEr n 62 2400 E, cEr n 63 512 E, cEr n 64 961 E, cEr n 65 961 E] := hF.put 0 _ rfl rfl
      replace hf := hf.put (a := n + 272 + 2 * (bg % 24)) (c := .inr (5, [.int kd, .int a, .int b0, .int (E 7 0), .int (E 7 1), .int (E 4 3), .int 0, .ref (n + 272 + 2 * (bg % 24) + 1)])) (Or.inr (by omega))
      replace hN := hN.put (a := n + 272 + 2 * (bg % 24)) (c := .inr (5, [.int kd, .int a, .int b0, .int (E 7 0), .int (E 7 1), .int (E 4 3), .int 0, .ref (n + 272 + 2 * (bg % 24) + 1)])) (by omega)
      replace hA := hA.put (a := n + 272 + 2 * (bg % 24)) (c := .inr (5, [.int kd, .int a, .int b0, .int (E 7 0), .int (E 7 1), .int (E 4 3), .int 0, .ref (n + 272 + 2 * (bg % 24) + 1)])) (by omega)
      replace hn : (ax_put hp_16 (n + 272 + 2 * (bg % 24)) (.inr (5, [.int kd, .int a, .int b0, .int (E 7 0), .int (E 7 1), .int (E 4 3), .int 0, .ref (n + 272 + 2 * (bg % 24) + 1)]))).1 = h0.1 := hn
      replace hs : (ax_put hp_16 (n + 272 + 2 * (bg % 24)) (.inr (5, [.int kd, .int a, .int b0, .int (E 7 0), .int (E 7 1), .int (E 4 3), .int 0, .ref (n + 272 + 2 * (bg % 24) + 1)]))).2.1 = h0.2.1 := hs
      generalize ax_put hp_16 (n + 272 + 2 * (bg % 24)) (.inr (5, [.int kd, .int a, .int b0, .int (E 7 0), .int (E 7 1), .int (E 4 3), .int 0, .ref (n + 272 + 2 * (bg % 24) + 1)])) = hp_17 at hF hf hA hN hn hs ⊢
      refine ar_aload_n 123 d_46_122 rfl rfl ?_
      refine ar_iconst 124 (v := 0) d_46_123 rfl (by decide) ?_
      refine ar_putf 127 [.ref (n + 264), .ref n, .ref (n + 267), .int 0, .ref (n + 268), .ref (n + 269), .ref (n + 270), .ref (n + 271), .int (E 4 8), .int (E 4 9), .int (E 4 10), .int (E 4 11), .int (E 4 12), .int (E 4 13), .int (E 4 14), .int (E 4 15)] d_46_124 rfl (ci := 4) (k := 3) rfl rfl (hF.at 5 rfl) (Nat.le_of_ble_eq_true rfl) rfl rfl rfl ?_
      replace hF : ax_hs (ax_put hp_17 (n + 266) (.inr (4, [.ref (n + 264), .ref n, .ref (n + 267), .int 0, .ref (n + 268), .ref (n + 269), .ref (n + 270), .ref (n + 271), .int (E 4 8), .int (E 4 9), .int (E 4 10), .int (E 4 11), .int (E 4 12), .int (E 4 13), .int (E 4 14), .int (E 4 15)]))) [(n + 272 + 2 * (bg % 24), .inr (5, [.int kd, .int a, .int b0, .int (E 7 0), .int (E 7 1), .int (E 4 3), .int 0, .ref (n + 272 + 2 * (bg % 24) + 1)])), (n + 272 + 2 * (bg % 24) + 1, .inl (0, 612, .inl (va_cpy (E 5) (va_cpy (E 6) (Q (bg % 24)).2 0 0 100) 0 100 512))), cSt s0 n E, cRk n nn gg C, cOr n nn gg f, (n + 266, .inr (4, [.ref (n + 264), .ref n, .ref (n + 267), .int 0, .ref (n + 268), .ref (n + 269), .ref (n + 270), .ref (n + 271), .int (E 4 8), .int (E 4 9), .int (E 4 10), .int (E 4 11), .int (E 4 12), .int (E 4 13), .int (E 4 14), .int (E 4 15)])), cEr n 5 512 E, cEr n 6 100 E, cEr n 7 2 E, cAk n, cEr n 9 512 E, cNa n nn, cEr n 0 48 E, cEr n 1 961 E, cTs n gg E TK, cEr n 59 48 E, cEr n 60 48 E, cEr n 61 48 E, cEr n 62 2400 E, cEr n 63 512 E, cEr n 64 961 E, cEr n 65 961 E] := hF.put 5 _ rfl rfl
      replace hf := hf.put (a := n + 266) (c := .inr (4, [.ref (n + 264), .ref n, .ref (n + 267), .int 0, .ref (n + 268), .ref (n + 269), .ref (n + 270), .ref (n + 271), .int (E 4 8), .int (E 4 9), .int (E 4 10), .int (E 4 11), .int (E 4 12), .int (E 4 13), .int (E 4 14), .int (E 4 15)])) (Or.inr (by omega))
      replace hN := hN.put (a := n + 266) (c := .inr (4, [.ref (n + 264), .ref n, .ref (n + 267), .int 0, .ref (n + 268), .ref (n + 269), .ref (n + 270), .ref (n + 271), .int (E 4 8), .int (E 4 9), .int (E 4 10), .int (E 4 11), .int (E 4 12), .int (E 4 13), .int (E 4 14), .int (E 4 15)])) (by omega)
      replace hA := hA.put (a := n + 266) (c := .inr (4, [.ref (n + 264), .ref n, .ref (n + 267), .int 0, .ref (n + 268), .ref (n + 269), .ref (n + 270), .ref (n + 271), .int (E 4 8), .int (E 4 9), .int (E 4 10), .int (E 4 11), .int (E 4 12), .int (E 4 13), .int (E 4 14), .int (E 4 15)])) (by omega)
      replace hn : (ax_put hp_17 (n + 266) (.inr (4, [.ref (n + 264), .ref n, .ref (n + 267), .int 0, .ref (n + 268), .ref (n + 269), .ref (n + 270), .ref (n + 271), .int (E 4 8), .int (E 4 9), .int (E 4 10), .int (E 4 11), .int (E 4 12), .int (E 4 13), .int (E 4 14), .int (E 4 15)]))).1 = h0.1 := hn
      replace hs : (ax_put hp_17 (n + 266) (.inr (4, [.ref (n + 264), .ref n, .ref (n + 267), .int 0, .ref (n + 268), .ref (n + 269), .ref (n + 270), .ref (n + 271), .int (E 4 8), .int (E 4 9), .int (E 4 10), .int (E 4 11), .int (E 4 12), .int (E 4 13), .int (E 4 14), .int (E 4 15)]))).2.1 = h0.2.1 := hs
      generalize ax_put hp_17 (n + 266) (.inr (4, [.ref (n + 264), .ref n, .ref (n + 267), .int 0, .ref (n + 268), .ref (n + 269), .ref (n + 270), .ref (n + 271), .int (E 4 8), .int (E 4 9), .int (E 4 10), .int (E 4 11), .int (E 4 12), .int (E 4 13), .int (E 4 14), .int (E 4 15)])) = hp_18 at hF hf hA hN hn hs ⊢
      refine ar_aload_n 128 d_46_127 rfl rfl ?_
      refine ar_dup 129 d_46_128 rfl rfl ?_
      refine ar_getf 132 d_46_129 rfl (ci := 4) (k := 8) rfl (hF.at 5 rfl) rfl ?_
      refine ar_top (x' := nI bg) (e8) ?_
      refine ar_iconst 133 (v := 1) d_46_132 rfl (by decide) ?_
      refine ar_iadd 134 d_46_133 rfl ?_
      refine ar_top (x' := nI (bg + 1)) (nI_1 bg) ?_
      refine ar_putf 137 [.ref (n + 264), .ref n, .ref (n + 267), .int 0, .ref (n + 268), .ref (n + 269), .ref (n + 270), .ref (n + 271), .int (nI (bg + 1)), .int (E 4 9), .int (E 4 10), .int (E 4 11), .int (E 4 12), .int (E 4 13), .int (E 4 14), .int (E 4 15)] d_46_134 rfl (ci := 4) (k := 8) rfl rfl (hF.at 5 rfl) (Nat.le_of_ble_eq_true rfl) rfl rfl rfl ?_
      replace hF : ax_hs (ax_put hp_18 (n + 266) (.inr (4, [.ref (n + 264), .ref n, .ref (n + 267), .int 0, .ref (n + 268), .ref (n + 269), .ref (n + 270), .ref (n + 271), .int (nI (bg + 1)), .int (E 4 9), .int (E 4 10), .int (E 4 11), .int (E 4 12), .int (E 4 13), .int (E 4 14), .int (E 4 15)]))) [(n + 272 + 2 * (bg % 24), .inr (5, [.int kd, .int a, .int b0, .int (E 7 0), .int (E 7 1), .int (E 4 3), .int 0, .ref (n + 272 + 2 * (bg % 24) + 1)])), (n + 272 + 2 * (bg % 24) + 1, .inl (0, 612, .inl (va_cpy (E 5) (va_cpy (E 6) (Q (bg % 24)).2 0 0 100) 0 100 512))), cSt s0 n E, cRk n nn gg C, cOr n nn gg f, (n + 266, .inr (4, [.ref (n + 264), .ref n, .ref (n + 267), .int 0, .ref (n + 268), .ref (n + 269), .ref (n + 270), .ref (n + 271), .int (nI (bg + 1)), .int (E 4 9), .int (E 4 10), .int (E 4 11), .int (E 4 12), .int (E 4 13), .int (E 4 14), .int (E 4 15)])), cEr n 5 512 E, cEr n 6 100 E, cEr n 7 2 E, cAk n, cEr n 9 512 E, cNa n nn, cEr n 0 48 E, cEr n 1 961 E, cTs n gg E TK, cEr n 59 48 E, cEr n 60 48 E, cEr n 61 48 E, cEr n 62 2400 E, cEr n 63 512 E, cEr n 64 961 E, cEr n 65 961 E] := hF.put 5 _ rfl rfl
      replace hf := hf.put (a := n + 266) (c := .inr (4, [.ref (n + 264), .ref n, .ref (n + 267), .int 0, .ref (n + 268), .ref (n + 269), .ref (n + 270), .ref (n + 271), .int (nI (bg + 1)), .int (E 4 9), .int (E 4 10), .int (E 4 11), .int (E 4 12), .int (E 4 13), .int (E 4 14), .int (E 4 15)])) (Or.inr (by omega))
      replace hN := hN.put (a := n + 266) (c := .inr (4, [.ref (n + 264), .ref n, .ref (n + 267), .int 0, .ref (n + 268), .ref (n + 269), .ref (n + 270), .ref (n + 271), .int (nI (bg + 1)), .int (E 4 9), .int (E 4 10), .int (E 4 11), .int (E 4 12), .int (E 4 13), .int (E 4 14), .int (E 4 15)])) (by omega)
      replace hA := hA.put (a := n + 266) (c := .inr (4, [.ref (n + 264), .ref n, .ref (n + 267), .int 0, .ref (n + 268), .ref (n + 269), .ref (n + 270), .ref (n + 271), .int (nI (bg + 1)), .int (E 4 9), .int (E 4 10), .int (E 4 11), .int (E 4 12), .int (E 4 13), .int (E 4 14), .int (E 4 15)])) (by omega)
      replace hn : (ax_put hp_18 (n + 266) (.inr (4, [.ref (n + 264), .ref n, .ref (n + 267), .int 0, .ref (n + 268), .ref (n + 269), .ref (n + 270), .ref (n + 271), .int (nI (bg + 1)), .int (E 4 9), .int (E 4 10), .int (E 4 11), .int (E 4 12), .int (E 4 13), .int (E 4 14), .int (E 4 15)]))).1 = h0.1 := hn
      replace hs : (ax_put hp_18 (n + 266) (.inr (4, [.ref (n + 264), .ref n, .ref (n + 267), .int 0, .ref (n + 268), .ref (n + 269), .ref (n + 270), .ref (n + 271), .int (nI (bg + 1)), .int (E 4 9), .int (E 4 10), .int (E 4 11), .int (E 4 12), .int (E 4 13), .int (E 4 14), .int (E 4 15)]))).2.1 = h0.2.1 := hs
      generalize ax_put hp_18 (n + 266) (.inr (4, [.ref (n + 264), .ref n, .ref (n + 267), .int 0, .ref (n + 268), .ref (n + 269), .ref (n + 270), .ref (n + 271), .int (nI (bg + 1)), .int (E 4 9), .int (E 4 10), .int (E 4 11), .int (E 4 12), .int (E 4 13), .int (E 4 14), .int (E 4 15)])) = hp_19 at hF hf hA hN hn hs ⊢
      refine ar_aload_n 138 d_46_137 rfl rfl ?_
      refine ar_getf 141 d_46_138 rfl (ci := 4) (k := 9) rfl (hF.at 5 rfl) rfl ?_
      refine ar_top (x' := nI he) (e9) ?_
      refine ar_aload_n 142 d_46_141 rfl rfl ?_
      refine ar_getf 145 d_46_142 rfl (ci := 4) (k := 8) rfl (hF.at 5 rfl) rfl ?_
      refine ar_top (x' := nI (bg + 1)) (rfl) ?_
      refine ar_iconst 146 (v := 1) d_46_145 rfl (by decide) ?_
      refine ar_isub 147 d_46_146 rfl ?_
      refine ar_top (x' := nI bg) (nI_s1 bg) ?_
      refine ar_icmp_ne 154 150 d_46_147 (by decide) rfl (fun c3 => ?_) (fun c3 => ?_)
      · replace hA : AKS hp_19 n (va_up Q (bg % 24) (upd (upd (upd (upd (upd (upd (upd ((Q (bg % 24)).1) 0 kd) 1 a) 2 b0) 3 (E 7 0)) 4 (E 7 1)) 5 (E 4 3)) 6 0, va_cpy (E 5) (va_cpy (E 6) (Q (bg % 24)).2 0 0 100) 0 100 512)) := hA.back haj ⟨hF.at 0 rfl, hF.at 1 rfl⟩
        replace hF := hF.sub (F' := [cSt s0 n E, cRk n nn gg C, cOr n nn gg f, (n + 266, .inr (4, [.ref (n + 264), .ref n, .ref (n + 267), .int 0, .ref (n + 268), .ref (n + 269), .ref (n + 270), .ref (n + 271), .int (nI (bg + 1)), .int (E 4 9), .int (E 4 10), .int (E 4 11), .int (E 4 12), .int (E 4 13), .int (E 4 14), .int (E 4 15)])), cEr n 5 512 E, cEr n 6 100 E, cEr n 7 2 E, cAk n, cEr n 9 512 E, cNa n nn, cEr n 0 48 E, cEr n 1 961 E, cTs n gg E TK, cEr n 59 48 E, cEr n 60 48 E, cEr n 61 48 E, cEr n 62 2400 E, cEr n 63 512 E, cEr n 64 961 E, cEr n 65 961 E]) [2, 3, 4, 5, 6, 7, 8, 9, 10, 11, 12, 13, 14, 15, 16, 17, 18, 19, 20, 21] rfl rfl
        have eE : va_up E 4 (upd (upd (E 4) 3 0) 8 (nI (bg + 1))) = opE E kd bg := by
          unfold opE
          rw [if_pos (Or.inr (Decidable.not_not.mp c2))]
        have eQ : va_up Q (bg % 24) (upd (upd (upd (upd (upd (upd (upd ((Q (bg % 24)).1) 0 kd) 1 a) 2 b0) 3 (E 7 0)) 4 (E 7 1)) 5 (E 4 3)) 6 0, va_cpy (E 5) (va_cpy (E 6) (Q (bg % 24)).2 0 0 100) 0 100 512) = va_up Q (bg % 24) (opQ E (Q (bg % 24)) kd a b0) := by
          unfold opQ opL
          rw [if_pos (Or.inr (Decidable.not_not.mp c2)), if_pos (Or.inr (Decidable.not_not.mp c2))]
        have hS1 : AS s0 n nn gg C f q u b h0 hp_19 (va_up E 4 (upd (upd (E 4) 3 0) 8 (nI (bg + 1)))) TK (va_up Q (bg % 24) (upd (upd (upd (upd (upd (upd (upd ((Q (bg % 24)).1) 0 kd) 1 a) 2 b0) 3 (E 7 0)) 4 (E 7 1)) 5 (E 4 3)) 6 0, va_cpy (E 5) (va_cpy (E 6) (Q (bg % 24)).2 0 0 100) 0 100 512)) ms := ⟨hF, hA, hN, hf, hn, hs, hp0⟩
        rw [eE, eQ] at hS1
        clear hF hA hN hf hn hs hp0
        obtain ⟨hF, hA, hN, hf, hn, hs, hp0⟩ := hS1
        replace hF : ax_hs hp_19 [cSt s0 n (opE E kd bg), cRk n nn gg C, cOr n nn gg f, cAs n (opE E kd bg), cEr n 5 512 (opE E kd bg), cEr n 6 100 (opE E kd bg), cEr n 7 2 (opE E kd bg), cAk n, cEr n 9 512 (opE E kd bg), cNa n nn, cEr n 0 48 (opE E kd bg), cEr n 1 961 (opE E kd bg), cTs n gg (opE E kd bg) TK, cEr n 59 48 (opE E kd bg), cEr n 60 48 (opE E kd bg), cEr n 61 48 (opE E kd bg), cEr n 62 2400 (opE E kd bg), cEr n 63 512 (opE E kd bg), cEr n 64 961 (opE E kd bg), cEr n 65 961 (opE E kd bg)] := hF
        have f8 : opE E kd bg 4 8 = nI (bg + 1) := opE_8
        have f9 : opE E kd bg 4 9 = nI he := opE_9.trans e9
        refine ar_aload_n 155 d_46_154 rfl rfl ?_
        refine ar_getf 158 d_46_155 rfl (ci := 4) (k := 8) rfl (hF.at 3 rfl) rfl ?_
        refine ar_top (x' := nI (bg + 1)) (f8) ?_
        refine ar_iconst 159 (v := 1) d_46_158 rfl (by decide) ?_
        refine ar_isub 160 d_46_159 rfl ?_
        refine ar_top (x' := nI bg) (nI_s1 bg) ?_
        have hS9 : AS s0 n nn gg C f q u b h0 hp_19 (opE E kd bg) TK (va_up Q (bg % 24) (opQ E (Q (bg % 24)) kd a b0)) ms := ⟨hF, hA, hN, hf, hn, hs, hp0⟩
        exact ar_iret d_46_160 rfl rfl (⟨rfl, ms, hS9, Or.inr ⟨fun z => c3 (by rw [z]), rfl⟩⟩)
      · replace hA : AKS hp_19 n (va_up Q (bg % 24) (upd (upd (upd (upd (upd (upd (upd ((Q (bg % 24)).1) 0 kd) 1 a) 2 b0) 3 (E 7 0)) 4 (E 7 1)) 5 (E 4 3)) 6 0, va_cpy (E 5) (va_cpy (E 6) (Q (bg % 24)).2 0 0 100) 0 100 512)) := hA.back haj ⟨hF.at 0 rfl, hF.at 1 rfl⟩
        replace hF := hF.sub (F' := [cSt s0 n E, cRk n nn gg C, cOr n nn gg f, (n + 266, .inr (4, [.ref (n + 264), .ref n, .ref (n + 267), .int 0, .ref (n + 268), .ref (n + 269), .ref (n + 270), .ref (n + 271), .int (nI (bg + 1)), .int (E 4 9), .int (E 4 10), .int (E 4 11), .int (E 4 12), .int (E 4 13), .int (E 4 14), .int (E 4 15)])), cEr n 5 512 E, cEr n 6 100 E, cEr n 7 2 E, cAk n, cEr n 9 512 E, cNa n nn, cEr n 0 48 E, cEr n 1 961 E, cTs n gg E TK, cEr n 59 48 E, cEr n 60 48 E, cEr n 61 48 E, cEr n 62 2400 E, cEr n 63 512 E, cEr n 64 961 E, cEr n 65 961 E]) [2, 3, 4, 5, 6, 7, 8, 9, 10, 11, 12, 13, 14, 15, 16, 17, 18, 19, 20, 21] rfl rfl
        have eE : va_up E 4 (upd (upd (E 4) 3 0) 8 (nI (bg + 1))) = opE E kd bg := by
          unfold opE
          rw [if_pos (Or.inr (Decidable.not_not.mp c2))]
        have eQ : va_up Q (bg % 24) (upd (upd (upd (upd (upd (upd (upd ((Q (bg % 24)).1) 0 kd) 1 a) 2 b0) 3 (E 7 0)) 4 (E 7 1)) 5 (E 4 3)) 6 0, va_cpy (E 5) (va_cpy (E 6) (Q (bg % 24)).2 0 0 100) 0 100 512) = va_up Q (bg % 24) (opQ E (Q (bg % 24)) kd a b0) := by
          unfold opQ opL
          rw [if_pos (Or.inr (Decidable.not_not.mp c2)), if_pos (Or.inr (Decidable.not_not.mp c2))]
        have hS1 : AS s0 n nn gg C f q u b h0 hp_19 (va_up E 4 (upd (upd (E 4) 3 0) 8 (nI (bg + 1)))) TK (va_up Q (bg % 24) (upd (upd (upd (upd (upd (upd (upd ((Q (bg % 24)).1) 0 kd) 1 a) 2 b0) 3 (E 7 0)) 4 (E 7 1)) 5 (E 4 3)) 6 0, va_cpy (E 5) (va_cpy (E 6) (Q (bg % 24)).2 0 0 100) 0 100 512)) ms := ⟨hF, hA, hN, hf, hn, hs, hp0⟩
        rw [eE, eQ] at hS1
        clear hF hA hN hf hn hs hp0
        obtain ⟨hF, hA, hN, hf, hn, hs, hp0⟩ := hS1
        replace hF : ax_hs hp_19 [cSt s0 n (opE E kd bg), cRk n nn gg C, cOr n nn gg f, cAs n (opE E kd bg), cEr n 5 512 (opE E kd bg), cEr n 6 100 (opE E kd bg), cEr n 7 2 (opE E kd bg), cAk n, cEr n 9 512 (opE E kd bg), cNa n nn, cEr n 0 48 (opE E kd bg), cEr n 1 961 (opE E kd bg), cTs n gg (opE E kd bg) TK, cEr n 59 48 (opE E kd bg), cEr n 60 48 (opE E kd bg), cEr n 61 48 (opE E kd bg), cEr n 62 2400 (opE E kd bg), cEr n 63 512 (opE E kd bg), cEr n 64 961 (opE E kd bg), cEr n 65 961 (opE E kd bg)] := hF
        have f8 : opE E kd bg 4 8 = nI (bg + 1) := opE_8
        have f9 : opE E kd bg 4 9 = nI he := opE_9.trans e9
        have hbe : he = bg := nI_inj (by omega) (by omega) (Decidable.not_not.mp c3)
        refine ar_aload_n 151 d_46_150 rfl rfl ?_
        have hS1 : AS s0 n nn gg C f q u b h0 hp_19 (opE E kd bg) TK (va_up Q (bg % 24) (opQ E (Q (bg % 24)) kd a b0)) ms := ⟨hF, hA, hN, hf, hn, hs, hp0⟩
        refine ar_call (r := []) (na := 0) (kd := 0) (cm := 47) (fr2 := fr - 1) (lo2 := lo - 23) 154 d_46_151 (ar_hoV (as := []) rfl rfl rfl (hF.at 3 rfl)) rfl (by omega) (show lo - 23 + (19 + 4) = lo by omega) (Nat.le_of_ble_eq_true rfl) (Nat.le_of_ble_eq_true rfl) (ek_47 (by omega) (by omega) hC0 hS1 f9 f8 (by omega) (by omega) (fun _ => by subst hbe; rw [va_up_s]; exact opQ_5 hk5)) ?_
        intro v hp_20 hq
        obtain ⟨rfl, ms20, hS2, hr20⟩ := hq
        clear hS1 hF hA hN hf hn hs hp0
        obtain ⟨hF, hA, hN, hf, hn, hs, hp0⟩ := hS2
        replace hF : ax_hs hp_20 [cSt s0 n (opE E kd bg), cRk n nn gg C, cOr n nn gg f, cAs n (opE E kd bg), cEr n 5 512 (opE E kd bg), cEr n 6 100 (opE E kd bg), cEr n 7 2 (opE E kd bg), cAk n, cEr n 9 512 (opE E kd bg), cNa n nn, cEr n 0 48 (opE E kd bg), cEr n 1 961 (opE E kd bg), cTs n gg (opE E kd bg) TK, cEr n 59 48 (opE E kd bg), cEr n 60 48 (opE E kd bg), cEr n 61 48 (opE E kd bg), cEr n 62 2400 (opE E kd bg), cEr n 63 512 (opE E kd bg), cEr n 64 961 (opE E kd bg), cEr n 65 961 (opE E kd bg)] := hF
        refine ar_aload_n 155 d_46_154 rfl rfl ?_
        refine ar_getf 158 d_46_155 rfl (ci := 4) (k := 8) rfl (hF.at 3 rfl) rfl ?_
        refine ar_top (x' := nI (bg + 1)) (f8) ?_
        refine ar_iconst 159 (v := 1) d_46_158 rfl (by decide) ?_
        refine ar_isub 160 d_46_159 rfl ?_
        refine ar_top (x' := nI bg) (nI_s1 bg) ?_
        have hS9 : AS s0 n nn gg C f q u b h0 hp_20 (opE E kd bg) TK (va_up Q (bg % 24) (opQ E (Q (bg % 24)) kd a b0)) ms20 := ⟨hF, hA, hN, hf, hn, hs, hp0⟩
        exact ar_iret d_46_160 rfl rfl (⟨rfl, _, hS9, Or.inl ⟨hbe, hr20⟩⟩)
set_option maxRecDepth 100000 in
theorem ek_44 {L : Nat} {xs : Nat → Int32} {fr lo : Nat} {s0 n nn gg : Nat} {C : Int32} {f : Nat → Int32} {q : Nat} {u b : Nat → Int32} {h0 h : ax_H} {E : Nat → Nat → Int32} {TK : Int64} {Q : Nat → Mg} {ms : List Mg} {kd a b0 : Int32} (hfr : 4 ≤ fr) (hlo : 130 ≤ lo) (hC : CG s0 n nn gg f) (hS : AS s0 n nn gg C f q u b h0 h E TK Q ms) {he bg se : Nat} (e9 : E 4 9 = nI he) (e8 : E 4 8 = nI bg) (e10 : E 4 10 = nI se) (hsb : se ≤ bg) (hhb : he ≤ bg) (hb : bg ≤ 512) (hk5 : inR 2049 (E 4 3)) : ax_M L xs 44 fr lo [.ref s0, .int kd, .int a, .int b0] h (fun r h' => (¬ mayA (E 7 0) (E 7 1) kd a b0 ∧ r = some (.int (-1)) ∧ AS s0 n nn gg C f q u b h0 h' E TK Q ms) ∨ (mayA (E 7 0) (E 7 1) kd a b0 ∧ (12 ≤ bg - se ∨ 512 ≤ bg) ∧ r = some (.int (-4)) ∧ AS s0 n nn gg C f q u b h0 h' E TK Q ms) ∨ (mayA (E 7 0) (E 7 1) kd a b0 ∧ ¬ 12 ≤ bg - se ∧ bg < 512 ∧ r = some (.int (nI bg)) ∧ ∃ ms' : List Mg, AS s0 n nn gg C f q u b h0 h' (opE (va_up E 100 (upd (E 100) 10 0)) kd bg) TK (va_up Q (bg % 24) (opQ (va_up E 100 (upd (E 100) 10 0)) (Q (bg % 24)) kd a b0)) ms' ∧ ((he = bg ∧ askR nn f (opE (va_up E 100 (upd (E 100) 10 0)) kd bg) (va_up Q (bg % 24) (opQ (va_up E 100 (upd (E 100) 10 0)) (Q (bg % 24)) kd a b0)) ms ms') ∨ (¬ he = bg ∧ ms' = ms)))) := by
  have hC0 := hC
  show ax_A (ax_step L xs) ((44, 0, fr, lo), [(0, .ref s0), (1, .int kd), (2, .int a), (3, .int b0)], [], h) _
  obtain ⟨hs0, hsn, hnn3, hnn, hgg1, hgg, hRg⟩ := hC
  obtain ⟨hF, hA, hN, hf, hn, hs, hp0⟩ := hS
  replace hF : ax_hs h [cSt s0 n E, cRk n nn gg C, cOr n nn gg f, cAs n E, cEr n 5 512 E, cEr n 6 100 E, cEr n 7 2 E, cAk n, cEr n 9 512 E, cNa n nn, cEr n 0 48 E, cEr n 1 961 E, cTs n gg E TK, cEr n 59 48 E, cEr n 60 48 E, cEr n 61 48 E, cEr n 62 2400 E, cEr n 63 512 E, cEr n 64 961 E, cEr n 65 961 E] := hF
  refine ar_aload_n 1 d_44_0 rfl rfl ?_
  refine ar_getf 4 d_44_1 rfl (ci := 0) (k := 2) rfl (hF.at 0 rfl) rfl ?_
  refine ar_iload_n 5 d_44_4 rfl rfl ?_
  refine ar_iload_n 6 d_44_5 rfl rfl ?_
  refine ar_iload_n 7 d_44_6 rfl rfl ?_
  have hS1 : AS s0 n nn gg C f q u b h0 h E TK Q ms := ⟨hF, hA, hN, hf, hn, hs, hp0⟩
  refine ar_call (r := []) (na := 0) (kd := 0) (cm := 45) (fr2 := fr - 1) (lo2 := lo - 23) 10 d_44_7 (ar_hoV (as := [.int kd, .int a, .int b0]) rfl rfl rfl (hF.at 3 rfl)) rfl (by omega) (show lo - 23 + (19 + 4) = lo by omega) (Nat.le_of_ble_eq_true rfl) (Nat.le_of_ble_eq_true rfl) (ek_45 (by omega) (by omega) hC0 hS1) ?_
  intro v hp_1 hq
  obtain ⟨v1, rfl, hv1, hS2⟩ := hq
  clear hS1 hF hA hN hf hn hs hp0
  obtain ⟨hF, hA, hN, hf, hn, hs, hp0⟩ := hS2
  replace hF : ax_hs hp_1 [cSt s0 n E, cRk n nn gg C, cOr n nn gg f, cAs n E, cEr n 5 512 E, cEr n 6 100 E, cEr n 7 2 E, cAk n, cEr n 9 512 E, cNa n nn, cEr n 0 48 E, cEr n 1 961 E, cTs n gg E TK, cEr n 59 48 E, cEr n 60 48 E, cEr n 61 48 E, cEr n 62 2400 E, cEr n 63 512 E, cEr n 64 961 E, cEr n 65 961 E] := hF
  rcases hv1 with ⟨rfl, hma⟩ | ⟨rfl, hma⟩
  · refine ar_if_ne 15 13 d_44_10 (by decide) rfl (fun _ => ?_) (fun c => absurd (by decide) c)
    refine ar_aload_n 16 d_44_15 rfl rfl ?_
    refine ar_getf 19 d_44_16 rfl (ci := 0) (k := 2) rfl (hF.at 0 rfl) rfl ?_
    refine ar_getf 22 d_44_19 rfl (ci := 4) (k := 8) rfl (hF.at 3 rfl) rfl ?_
    refine ar_top (x' := nI bg) (e8) ?_
    refine ar_aload_n 23 d_44_22 rfl rfl ?_
    refine ar_getf 26 d_44_23 rfl (ci := 0) (k := 2) rfl (hF.at 0 rfl) rfl ?_
    refine ar_getf 29 d_44_26 rfl (ci := 4) (k := 10) rfl (hF.at 3 rfl) rfl ?_
    refine ar_top (x' := nI se) (e10) ?_
    refine ar_isub 30 d_44_29 rfl ?_
    refine ar_top (x' := nI (bg - se)) (nI_sub hsb) ?_
    refine ar_bipush 32 (v := 12) d_44_30 rfl (by decide) ?_
    refine ar_icmp_ge 48 35 d_44_32 (by decide) rfl (fun c1 => ?_) (fun c1 => ?_)
    · refine ar_bipush 50 (v := -4) d_44_48 rfl (by decide) ?_
      have hS9 : AS s0 n nn gg C f q u b h0 hp_1 E TK Q ms := ⟨hF, hA, hN, hf, hn, hs, hp0⟩
      exact ar_iret d_44_50 rfl rfl (Or.inr (Or.inl ⟨hma, Or.inl ((nI_leI (a := 12) (by decide) (by omega)).mp c1), rfl, hS9⟩))
    · refine ar_aload_n 36 d_44_35 rfl rfl ?_
      refine ar_getf 39 d_44_36 rfl (ci := 0) (k := 2) rfl (hF.at 0 rfl) rfl ?_
      refine ar_getf 42 d_44_39 rfl (ci := 4) (k := 8) rfl (hF.at 3 rfl) rfl ?_
      refine ar_top (x' := nI bg) (e8) ?_
      refine ar_sipush 45 (v := 512) d_44_42 rfl (by decide) ?_
      refine ar_icmp_lt 51 48 d_44_45 (by decide) rfl (fun c2 => ?_) (fun c2 => ?_)
      · have hb5 : bg < 512 := (nI_ltI (b := 512) (by omega) (by decide)).mp c2
        refine ar_aload_n 52 d_44_51 rfl rfl ?_
        refine ar_iconst 53 (v := 0) d_44_52 rfl (by decide) ?_
        refine ar_putf 56 [.ref (n + 264), .ref n, .ref (n + 266), .ref (n + 328), .ref (n + 320), .ref (n + 262), .ref (n + 263), .int (E 100 7), .int (E 100 8), .int (E 100 9), .int 0] d_44_53 rfl (ci := 0) (k := 10) rfl rfl (hF.at 0 rfl) (Nat.le_of_ble_eq_true rfl) rfl rfl rfl ?_
        replace hF : ax_hs (ax_put hp_1 s0 (.inr (0, [.ref (n + 264), .ref n, .ref (n + 266), .ref (n + 328), .ref (n + 320), .ref (n + 262), .ref (n + 263), .int (E 100 7), .int (E 100 8), .int (E 100 9), .int 0]))) [(s0, .inr (0, [.ref (n + 264), .ref n, .ref (n + 266), .ref (n + 328), .ref (n + 320), .ref (n + 262), .ref (n + 263), .int (E 100 7), .int (E 100 8), .int (E 100 9), .int 0])), cRk n nn gg C, cOr n nn gg f, cAs n E, cEr n 5 512 E, cEr n 6 100 E, cEr n 7 2 E, cAk n, cEr n 9 512 E, cNa n nn, cEr n 0 48 E, cEr n 1 961 E, cTs n gg E TK, cEr n 59 48 E, cEr n 60 48 E, cEr n 61 48 E, cEr n 62 2400 E, cEr n 63 512 E, cEr n 64 961 E, cEr n 65 961 E] := hF.put 0 _ rfl rfl
        replace hf := hf.put (a := s0) (c := .inr (0, [.ref (n + 264), .ref n, .ref (n + 266), .ref (n + 328), .ref (n + 320), .ref (n + 262), .ref (n + 263), .int (E 100 7), .int (E 100 8), .int (E 100 9), .int 0])) (Or.inr (by omega))
        replace hN := hN.put (a := s0) (c := .inr (0, [.ref (n + 264), .ref n, .ref (n + 266), .ref (n + 328), .ref (n + 320), .ref (n + 262), .ref (n + 263), .int (E 100 7), .int (E 100 8), .int (E 100 9), .int 0])) (by omega)
        replace hA := hA.put (a := s0) (c := .inr (0, [.ref (n + 264), .ref n, .ref (n + 266), .ref (n + 328), .ref (n + 320), .ref (n + 262), .ref (n + 263), .int (E 100 7), .int (E 100 8), .int (E 100 9), .int 0])) (by omega)
        replace hn : (ax_put hp_1 s0 (.inr (0, [.ref (n + 264), .ref n, .ref (n + 266), .ref (n + 328), .ref (n + 320), .ref (n + 262), .ref (n + 263), .int (E 100 7), .int (E 100 8), .int (E 100 9), .int 0]))).1 = h0.1 := hn
        replace hs : (ax_put hp_1 s0 (.inr (0, [.ref (n + 264), .ref n, .ref (n + 266), .ref (n + 328), .ref (n + 320), .ref (n + 262), .ref (n + 263), .int (E 100 7), .int (E 100 8), .int (E 100 9), .int 0]))).2.1 = h0.2.1 := hs
        generalize ax_put hp_1 s0 (.inr (0, [.ref (n + 264), .ref n, .ref (n + 266), .ref (n + 328), .ref (n + 320), .ref (n + 262), .ref (n + 263), .int (E 100 7), .int (E 100 8), .int (E 100 9), .int 0])) = hp_2 at hF hf hA hN hn hs ⊢
        refine ar_aload_n 57 d_44_56 rfl rfl ?_
        refine ar_getf 60 d_44_57 rfl (ci := 0) (k := 2) rfl (hF.at 0 rfl) rfl ?_
        refine ar_iload_n 61 d_44_60 rfl rfl ?_
        refine ar_iload_n 62 d_44_61 rfl rfl ?_
        refine ar_iload_n 63 d_44_62 rfl rfl ?_
        have hS1 : AS s0 n nn gg C f q u b h0 hp_2 (va_up E 100 (upd (E 100) 10 0)) TK Q ms := ⟨hF, hA, hN, hf, hn, hs, hp0⟩
        refine ar_call (r := []) (na := 0) (kd := 0) (cm := 46) (fr2 := fr - 1) (lo2 := lo - 24) 66 d_44_63 (ar_hoV (as := [.int kd, .int a, .int b0]) rfl rfl rfl (hF.at 3 rfl)) rfl (by omega) (show lo - 24 + (19 + 5) = lo by omega) (Nat.le_of_ble_eq_true rfl) (Nat.le_of_ble_eq_true rfl) (ek_46 (by omega) (by omega) hC0 hS1 e9 e8 hhb hb5 hk5) ?_
        intro v hp_3 hq
        obtain ⟨rfl, ms2, hS2, hr2⟩ := hq
        clear hS1 hF hA hN hf hn hs hp0
        obtain ⟨hF, hA, hN, hf, hn, hs, hp0⟩ := hS2
        replace hF : ax_hs hp_3 [cSt s0 n (opE (va_up E 100 (upd (E 100) 10 0)) kd bg), cRk n nn gg C, cOr n nn gg f, cAs n (opE (va_up E 100 (upd (E 100) 10 0)) kd bg), cEr n 5 512 (opE (va_up E 100 (upd (E 100) 10 0)) kd bg), cEr n 6 100 (opE (va_up E 100 (upd (E 100) 10 0)) kd bg), cEr n 7 2 (opE (va_up E 100 (upd (E 100) 10 0)) kd bg), cAk n, cEr n 9 512 (opE (va_up E 100 (upd (E 100) 10 0)) kd bg), cNa n nn, cEr n 0 48 (opE (va_up E 100 (upd (E 100) 10 0)) kd bg), cEr n 1 961 (opE (va_up E 100 (upd (E 100) 10 0)) kd bg), cTs n gg (opE (va_up E 100 (upd (E 100) 10 0)) kd bg) TK, cEr n 59 48 (opE (va_up E 100 (upd (E 100) 10 0)) kd bg), cEr n 60 48 (opE (va_up E 100 (upd (E 100) 10 0)) kd bg), cEr n 61 48 (opE (va_up E 100 (upd (E 100) 10 0)) kd bg), cEr n 62 2400 (opE (va_up E 100 (upd (E 100) 10 0)) kd bg), cEr n 63 512 (opE (va_up E 100 (upd (E 100) 10 0)) kd bg), cEr n 64 961 (opE (va_up E 100 (upd (E 100) 10 0)) kd bg), cEr n 65 961 (opE (va_up E 100 (upd (E 100) 10 0)) kd bg)] := hF
        have hS9 : AS s0 n nn gg C f q u b h0 hp_3 (opE (va_up E 100 (upd (E 100) 10 0)) kd bg) TK (va_up Q (bg % 24) (opQ (va_up E 100 (upd (E 100) 10 0)) (Q (bg % 24)) kd a b0)) ms2 := ⟨hF, hA, hN, hf, hn, hs, hp0⟩
        exact ar_iret d_44_66 rfl rfl (Or.inr (Or.inr ⟨hma, fun z => c1 ((nI_leI (a := 12) (by decide) (by omega)).mpr z), hb5, rfl, _, hS9, hr2⟩))
      · refine ar_bipush 50 (v := -4) d_44_48 rfl (by decide) ?_
        have hS9 : AS s0 n nn gg C f q u b h0 hp_1 E TK Q ms := ⟨hF, hA, hN, hf, hn, hs, hp0⟩
        exact ar_iret d_44_50 rfl rfl (Or.inr (Or.inl ⟨hma, Or.inr ((nI_leI (a := 512) (by decide) (by omega)).mp (Int32.not_lt.mp c2)), rfl, hS9⟩))
  · refine ar_if_ne 15 13 d_44_10 (by decide) rfl (fun c => absurd c (by decide)) (fun _ => ?_)
    refine ar_iconst 14 (v := -1) d_44_13 rfl (by decide) ?_
    have hS9 : AS s0 n nn gg C f q u b h0 hp_1 E TK Q ms := ⟨hF, hA, hN, hf, hn, hs, hp0⟩
    exact ar_iret d_44_14 rfl rfl (Or.inl ⟨hma, rfl, hS9⟩)
def heE (E : Nat → Nat → Int32) (k0 : Int32) (he : Nat) (v : Int32) : Nat → Nat → Int32 := va_up (va_up E 4 (if (k0 = 4 ∨ k0 = 8 ∨ k0 = 9) ∨ v < 0 then upd (E 4) 9 (nI (he + 1)) else upd (upd (E 4) 9 (nI (he + 1))) 12 (nI he))) 9 (upd (E 9) he v)
def heQ (A : Mg) (u b : Nat → Int32) : Mg := (upd A.1 6 (u 7), va_cpy b A.2 0 100 (((u 7).toNatClampNeg + 3) / 4))
theorem heE_8 {E : Nat → Nat → Int32} {k0 v : Int32} {he : Nat} : heE E k0 he v 4 8 = E 4 8 := by
  unfold heE
  rw [va_up_n _ _ (by decide), va_up_s]
  split <;> rfl
theorem heE_9 {E : Nat → Nat → Int32} {k0 v : Int32} {he : Nat} : heE E k0 he v 4 9 = nI (he + 1) := by
  unfold heE
  rw [va_up_n _ _ (by decide), va_up_s]
  split <;> rfl
set_option maxRecDepth 100000 in
theorem ek_53 {L : Nat} {xs : Nat → Int32} {fr lo : Nat} {s0 n nn gg : Nat} {C : Int32} {f : Nat → Int32} {q : Nat} {u b : Nat → Int32} {h0 h : ax_H} {E : Nat → Nat → Int32} {TK : Int64} {Q : Nat → Mg} {ms : List Mg}  (hfr : 3 ≤ fr) (hlo : 100 ≤ lo) (hC : CG s0 n nn gg f) (hS : AS s0 n nn gg C f q u b h0 h E TK Q ms) {he bg : Nat} (e9 : E 4 9 = nI he) (e8 : E 4 8 = nI bg) (hhb : he ≤ bg) (hb : bg ≤ 512) (hL2 : he + 1 < bg → inR 2049 ((Q ((he + 1) % 24)).1 5)) (hm3 : u 0 = 3 → inR 2049 (u 7)) : ax_M L xs 53 fr lo [.ref (n + 266), .ref (n + 1 + 1 + 2 * q)] h (fun r h' => r = none ∧ (((u 0 = 1 ∧ u 3 = E 4 13) ∧ AS s0 n nn gg C f q u b h0 h' (va_up E 4 (upd (E 4) 15 ((E 4 15) ||| ((1 : Int32) <<< (u 1 &&& 31))))) TK Q ms) ∨ (¬ (u 0 = 1 ∧ u 3 = E 4 13) ∧ ¬ (u 0 = 3 ∧ u 5 = E 4 9 ∧ he < bg) ∧ AS s0 n nn gg C f q u b h0 h' E TK Q ms) ∨ (¬ (u 0 = 1 ∧ u 3 = E 4 13) ∧ u 0 = 3 ∧ u 5 = E 4 9 ∧ he < bg ∧ ∃ ms' : List Mg, AS s0 n nn gg C f q u b h0 h' (heE E ((Q (he % 24)).1 0) he (u 6)) TK (va_up Q (he % 24) (heQ (Q (he % 24)) u b)) ms' ∧ askR nn f (heE E ((Q (he % 24)).1 0) he (u 6)) (va_up Q (he % 24) (heQ (Q (he % 24)) u b)) ms ms'))) := by
  have hC0 := hC
  show ax_A (ax_step L xs) ((53, 0, fr, lo), [(0, .ref (n + 266)), (1, .ref (n + 1 + 1 + 2 * q))], [], h) _
  obtain ⟨hs0, hsn, hnn3, hnn, hgg1, hgg, hRg⟩ := hC
  obtain ⟨hF, hA, hN, hf, hn, hs, hp0⟩ := hS
  replace hF : ax_hs h [cSt s0 n E, cRk n nn gg C, cOr n nn gg f, cAs n E, cEr n 5 512 E, cEr n 6 100 E, cEr n 7 2 E, cAk n, cEr n 9 512 E, cNa n nn, cEr n 0 48 E, cEr n 1 961 E, cTs n gg E TK, cEr n 59 48 E, cEr n 60 48 E, cEr n 61 48 E, cEr n 62 2400 E, cEr n 63 512 E, cEr n 64 961 E, cEr n 65 961 E] := hF
  refine ar_aload_n 1 d_53_0 rfl rfl ?_
  refine ar_getf 4 d_53_1 rfl (ci := 2) (k := 0) rfl hN.mgc rfl ?_
  refine ar_iconst 5 (v := 1) d_53_4 rfl (by decide) ?_
  refine ar_icmp_ne 37 8 d_53_5 (by decide) rfl (fun c1 => ?_) (fun c1 => ?_)
  · refine ar_aload_n 38 d_53_37 rfl rfl ?_
    refine ar_getf 41 d_53_38 rfl (ci := 2) (k := 0) rfl hN.mgc rfl ?_
    refine ar_iconst 42 (v := 3) d_53_41 rfl (by decide) ?_
    refine ar_icmp_ne 162 45 d_53_42 (by decide) rfl (fun c4 => ?_) (fun c4 => ?_)
    · have hS9 : AS s0 n nn gg C f q u b h0 h E TK Q ms := ⟨hF, hA, hN, hf, hn, hs, hp0⟩
      exact ar_ret d_53_162 rfl (⟨rfl, Or.inr (Or.inl ⟨fun z => c1 z.1, fun z => c4 z.1, hS9⟩)⟩)
    · refine ar_aload_n 46 d_53_45 rfl rfl ?_
      refine ar_getf 49 d_53_46 rfl (ci := 2) (k := 5) rfl hN.mgc rfl ?_
      refine ar_aload_n 50 d_53_49 rfl rfl ?_
      refine ar_getf 53 d_53_50 rfl (ci := 4) (k := 9) rfl (hF.at 3 rfl) rfl ?_
      refine ar_icmp_ne 162 56 d_53_53 (by decide) rfl (fun c5 => ?_) (fun c5 => ?_)
      · have hS9 : AS s0 n nn gg C f q u b h0 h E TK Q ms := ⟨hF, hA, hN, hf, hn, hs, hp0⟩
        exact ar_ret d_53_162 rfl (⟨rfl, Or.inr (Or.inl ⟨fun z => c1 z.1, fun z => c5 z.2.1, hS9⟩)⟩)
      · refine ar_aload_n 57 d_53_56 rfl rfl ?_
        refine ar_getf 60 d_53_57 rfl (ci := 4) (k := 9) rfl (hF.at 3 rfl) rfl ?_
        refine ar_top (x' := nI he) (e9) ?_
        refine ar_aload_n 61 d_53_60 rfl rfl ?_
        refine ar_getf 64 d_53_61 rfl (ci := 4) (k := 8) rfl (hF.at 3 rfl) rfl ?_
        refine ar_top (x' := nI bg) (e8) ?_
        refine ar_icmp_ge 162 67 d_53_64 (by decide) rfl (fun c6 => ?_) (fun c6 => ?_)
        · have hS9 : AS s0 n nn gg C f q u b h0 h E TK Q ms := ⟨hF, hA, hN, hf, hn, hs, hp0⟩
          exact ar_ret d_53_162 rfl (⟨rfl, Or.inr (Or.inl ⟨fun z => c1 z.1, fun z => absurd z.2.2 (Nat.not_lt.mpr ((nI_leI (by omega) (by omega)).mp c6)), hS9⟩)⟩)
        · have hlt : he < bg := Nat.lt_of_not_le (fun z => c6 (nI_le z (by omega)))
          have h3 := Decidable.not_not.mp c4
          obtain ⟨c, hc, ec⟩ := hm3 h3
          have haj : he % 24 < 24 := Nat.mod_lt _ (by omega)
          refine ar_aload_n 68 d_53_67 rfl rfl ?_
          refine ar_getf 71 d_53_68 rfl (ci := 4) (k := 6) rfl (hF.at 3 rfl) rfl ?_
          refine ar_aload_n 72 d_53_71 rfl rfl ?_
          refine ar_getf 75 d_53_72 rfl (ci := 4) (k := 9) rfl (hF.at 3 rfl) rfl ?_
          refine ar_top (x' := nI he) (e9) ?_
          refine ar_aload_n 76 d_53_75 rfl rfl ?_
          refine ar_getf 79 d_53_76 rfl (ci := 4) (k := 6) rfl (hF.at 3 rfl) rfl ?_
          refine ar_alen 80 d_53_79 rfl (hF.at 7 rfl) (by decide) ?_
          refine ar_top (x' := 24) (rfl) ?_
          refine ar_irem 81 d_53_80 rfl (by decide) ?_
          refine ar_top (x' := nI (he % 24)) (pk_rem (d := 24) (by omega) (by omega) (by omega)) ?_
          refine ar_aald 82 d_53_81 rfl (hF.at 7 rfl) rfl (vin (by omega) (by omega)) ?_
          refine ar_tv (v' := .ref (n + 272 + 2 * (he % 24))) (akr haj) ?_
          replace hF : ax_hs h [(n + 272 + 2 * (he % 24), .inr (5, [.int ((Q (he % 24)).1 0), .int ((Q (he % 24)).1 1), .int ((Q (he % 24)).1 2), .int ((Q (he % 24)).1 3), .int ((Q (he % 24)).1 4), .int ((Q (he % 24)).1 5), .int ((Q (he % 24)).1 6), .ref (n + 272 + 2 * (he % 24) + 1)])), (n + 272 + 2 * (he % 24) + 1, .inl (0, 612, .inl ((Q (he % 24)).2))), cSt s0 n E, cRk n nn gg C, cOr n nn gg f, cAs n E, cEr n 5 512 E, cEr n 6 100 E, cEr n 7 2 E, cAk n, cEr n 9 512 E, cNa n nn, cEr n 0 48 E, cEr n 1 961 E, cTs n gg E TK, cEr n 59 48 E, cEr n 60 48 E, cEr n 61 48 E, cEr n 62 2400 E, cEr n 63 512 E, cEr n 64 961 E, cEr n 65 961 E] := hF.asc (farK (n := n) (s0 := s0) rfl hsn) haj (hA (he % 24) haj)
          replace hA : AKX h n Q (he % 24) := hA.x
          refine ar_astore_n 83 [(0, .ref (n + 266)), (1, .ref (n + 1 + 1 + 2 * q)), (2, .ref (n + 272 + 2 * (he % 24)))] d_53_82 rfl (by decide) rfl ?_
          refine ar_aload_n 84 d_53_83 rfl rfl ?_
          refine ar_aload_n 85 d_53_84 rfl rfl ?_
          refine ar_getf 88 d_53_85 rfl (ci := 2) (k := 7) rfl hN.mgc rfl ?_
          refine ar_putf 91 [.int ((Q (he % 24)).1 0), .int ((Q (he % 24)).1 1), .int ((Q (he % 24)).1 2), .int ((Q (he % 24)).1 3), .int ((Q (he % 24)).1 4), .int ((Q (he % 24)).1 5), .int (u 7), .ref (n + 272 + 2 * (he % 24) + 1)] d_53_88 rfl (ci := 5) (k := 6) rfl rfl (hF.at 0 rfl) (Nat.le_of_ble_eq_true rfl) rfl rfl rfl ?_
          replace hF : ax_hs (ax_put h (n + 272 + 2 * (he % 24)) (.inr (5, [.int ((Q (he % 24)).1 0), .int ((Q (he % 24)).1 1), .int ((Q (he % 24)).1 2), .int ((Q (he % 24)).1 3), .int ((Q (he % 24)).1 4), .int ((Q (he % 24)).1 5), .int (u 7), .ref (n + 272 + 2 * (he % 24) + 1)]))) [(n + 272 + 2 * (he % 24), .inr (5, [.int ((Q (he % 24)).1 0), .int ((Q (he % 24)).1 1), .int ((Q (he % 24)).1 2), .int ((Q (he % 24)).1 3), .int ((Q (he % 24)).1 4), .int ((Q (he % 24)).1 5), .int (u 7), .ref (n + 272 + 2 * (he % 24) + 1)])), (n + 272 + 2 * (he % 24) + 1, .inl (0, 612, .inl ((Q (he % 24)).2))), cSt s0 n E, cRk n nn gg C, cOr n nn gg f, cAs n E, cEr n 5 512 E, cEr n 6 100 E, cEr n 7 2 E, cAk n, cEr n 9 512 E, cNa n nn, cEr n 0 48 E, cEr n 1 961 E, cTs n gg E TK, cEr n 59 48 E, cEr n 60 48 E, cEr n 61 48 E, cEr n 62 2400 E, cEr n 63 512 E, cEr n 64 961 E, cEr n 65 961 E] := hF.put 0 _ rfl rfl
          replace hf := hf.put (a := n + 272 + 2 * (he % 24)) (c := .inr (5, [.int ((Q (he % 24)).1 0), .int ((Q (he % 24)).1 1), .int ((Q (he % 24)).1 2), .int ((Q (he % 24)).1 3), .int ((Q (he % 24)).1 4), .int ((Q (he % 24)).1 5), .int (u 7), .ref (n + 272 + 2 * (he % 24) + 1)])) (Or.inr (by omega))
          replace hN := hN.put (a := n + 272 + 2 * (he % 24)) (c := .inr (5, [.int ((Q (he % 24)).1 0), .int ((Q (he % 24)).1 1), .int ((Q (he % 24)).1 2), .int ((Q (he % 24)).1 3), .int ((Q (he % 24)).1 4), .int ((Q (he % 24)).1 5), .int (u 7), .ref (n + 272 + 2 * (he % 24) + 1)])) (by omega)
          replace hA := hA.put (a := n + 272 + 2 * (he % 24)) (c := .inr (5, [.int ((Q (he % 24)).1 0), .int ((Q (he % 24)).1 1), .int ((Q (he % 24)).1 2), .int ((Q (he % 24)).1 3), .int ((Q (he % 24)).1 4), .int ((Q (he % 24)).1 5), .int (u 7), .ref (n + 272 + 2 * (he % 24) + 1)])) (by omega)
          replace hn : (ax_put h (n + 272 + 2 * (he % 24)) (.inr (5, [.int ((Q (he % 24)).1 0), .int ((Q (he % 24)).1 1), .int ((Q (he % 24)).1 2), .int ((Q (he % 24)).1 3), .int ((Q (he % 24)).1 4), .int ((Q (he % 24)).1 5), .int (u 7), .ref (n + 272 + 2 * (he % 24) + 1)]))).1 = h0.1 := hn
          replace hs : (ax_put h (n + 272 + 2 * (he % 24)) (.inr (5, [.int ((Q (he % 24)).1 0), .int ((Q (he % 24)).1 1), .int ((Q (he % 24)).1 2), .int ((Q (he % 24)).1 3), .int ((Q (he % 24)).1 4), .int ((Q (he % 24)).1 5), .int (u 7), .ref (n + 272 + 2 * (he % 24) + 1)]))).2.1 = h0.2.1 := hs
          generalize ax_put h (n + 272 + 2 * (he % 24)) (.inr (5, [.int ((Q (he % 24)).1 0), .int ((Q (he % 24)).1 1), .int ((Q (he % 24)).1 2), .int ((Q (he % 24)).1 3), .int ((Q (he % 24)).1 4), .int ((Q (he % 24)).1 5), .int (u 7), .ref (n + 272 + 2 * (he % 24) + 1)])) = hp_1 at hF hf hA hN hn hs ⊢
          refine ar_aload_n 92 d_53_91 rfl rfl ?_
          refine ar_getf 95 d_53_92 rfl (ci := 2) (k := 8) rfl hN.mgc rfl ?_
          refine ar_iconst 96 (v := 0) d_53_95 rfl (by decide) ?_
          refine ar_aload_n 97 d_53_96 rfl rfl ?_
          refine ar_getf 100 d_53_97 rfl (ci := 5) (k := 7) rfl (hF.at 0 rfl) rfl ?_
          refine ar_bipush 102 (v := 100) d_53_100 rfl (by decide) ?_
          refine ar_aload_n 103 d_53_102 rfl rfl ?_
          refine ar_getf 106 d_53_103 rfl (ci := 2) (k := 7) rfl hN.mgc rfl ?_
          refine ar_top (x' := nI c) (ec) ?_
          refine ar_iconst 107 (v := 3) d_53_106 rfl (by decide) ?_
          refine ar_iadd 108 d_53_107 rfl ?_
          refine ar_top (x' := nI (c + 3)) (nI_add c 3) ?_
          refine ar_iconst 109 (v := 4) d_53_108 rfl (by decide) ?_
          refine ar_idiv 110 d_53_109 rfl (by decide) ?_
          refine ar_top (x' := nI ((c + 3) / 4)) (pk_div (d := 4) (by omega) (by omega) (by omega)) ?_
          refine ar_copy 113 d_53_110 rfl rfl (by omega) (by show 0 + (nativeFrameWords "java/lang/System" "arraycopy" 5 + 11) ≤ lo; rw [nfw_copy]; omega) hN.mbc (hF.at 1 rfl) (by decide) (by decide) (nI_pos (by omega)) (by rw [nI_clamp (by omega)]; show 0 + (c + 3) / 4 ≤ 617; omega) (by rw [nI_clamp (by omega)]; show 100 + (c + 3) / 4 ≤ 612; omega) ?_
          replace hF : ax_hs (ax_put hp_1 (n + 272 + 2 * (he % 24) + 1) (.inl (0, 612, .inl (va_cpy b ((Q (he % 24)).2) ((0 : Int32).toNatClampNeg) ((100 : Int32).toNatClampNeg) ((nI ((c + 3) / 4)).toNatClampNeg))))) [(n + 272 + 2 * (he % 24), .inr (5, [.int ((Q (he % 24)).1 0), .int ((Q (he % 24)).1 1), .int ((Q (he % 24)).1 2), .int ((Q (he % 24)).1 3), .int ((Q (he % 24)).1 4), .int ((Q (he % 24)).1 5), .int (u 7), .ref (n + 272 + 2 * (he % 24) + 1)])), (n + 272 + 2 * (he % 24) + 1, .inl (0, 612, .inl (va_cpy b ((Q (he % 24)).2) ((0 : Int32).toNatClampNeg) ((100 : Int32).toNatClampNeg) ((nI ((c + 3) / 4)).toNatClampNeg)))), cSt s0 n E, cRk n nn gg C, cOr n nn gg f, cAs n E, cEr n 5 512 E, cEr n 6 100 E, cEr n 7 2 E, cAk n, cEr n 9 512 E, cNa n nn, cEr n 0 48 E, cEr n 1 961 E, cTs n gg E TK, cEr n 59 48 E, cEr n 60 48 E, cEr n 61 48 E, cEr n 62 2400 E, cEr n 63 512 E, cEr n 64 961 E, cEr n 65 961 E] := hF.put 1 _ rfl rfl
          replace hf := hf.put (a := n + 272 + 2 * (he % 24) + 1) (c := .inl (0, 612, .inl (va_cpy b ((Q (he % 24)).2) ((0 : Int32).toNatClampNeg) ((100 : Int32).toNatClampNeg) ((nI ((c + 3) / 4)).toNatClampNeg)))) (Or.inr (by omega))
          replace hN := hN.put (a := n + 272 + 2 * (he % 24) + 1) (c := .inl (0, 612, .inl (va_cpy b ((Q (he % 24)).2) ((0 : Int32).toNatClampNeg) ((100 : Int32).toNatClampNeg) ((nI ((c + 3) / 4)).toNatClampNeg)))) (by omega)
          replace hA := hA.put (a := n + 272 + 2 * (he % 24) + 1) (c := .inl (0, 612, .inl (va_cpy b ((Q (he % 24)).2) ((0 : Int32).toNatClampNeg) ((100 : Int32).toNatClampNeg) ((nI ((c + 3) / 4)).toNatClampNeg)))) (by omega)
          replace hn : (ax_put hp_1 (n + 272 + 2 * (he % 24) + 1) (.inl (0, 612, .inl (va_cpy b ((Q (he % 24)).2) ((0 : Int32).toNatClampNeg) ((100 : Int32).toNatClampNeg) ((nI ((c + 3) / 4)).toNatClampNeg))))).1 = h0.1 := hn
          replace hs : (ax_put hp_1 (n + 272 + 2 * (he % 24) + 1) (.inl (0, 612, .inl (va_cpy b ((Q (he % 24)).2) ((0 : Int32).toNatClampNeg) ((100 : Int32).toNatClampNeg) ((nI ((c + 3) / 4)).toNatClampNeg))))).2.1 = h0.2.1 := hs
          generalize ax_put hp_1 (n + 272 + 2 * (he % 24) + 1) (.inl (0, 612, .inl (va_cpy b ((Q (he % 24)).2) ((0 : Int32).toNatClampNeg) ((100 : Int32).toNatClampNeg) ((nI ((c + 3) / 4)).toNatClampNeg)))) = hp_2 at hF hf hA hN hn hs ⊢
          replace hF : ax_hs hp_2 [(n + 272 + 2 * (he % 24), .inr (5, [.int ((Q (he % 24)).1 0), .int ((Q (he % 24)).1 1), .int ((Q (he % 24)).1 2), .int ((Q (he % 24)).1 3), .int ((Q (he % 24)).1 4), .int ((Q (he % 24)).1 5), .int (u 7), .ref (n + 272 + 2 * (he % 24) + 1)])), (n + 272 + 2 * (he % 24) + 1, .inl (0, 612, .inl (va_cpy b (Q (he % 24)).2 0 100 (((u 7).toNatClampNeg + 3) / 4)))), cSt s0 n E, cRk n nn gg C, cOr n nn gg f, cAs n E, cEr n 5 512 E, cEr n 6 100 E, cEr n 7 2 E, cAk n, cEr n 9 512 E, cNa n nn, cEr n 0 48 E, cEr n 1 961 E, cTs n gg E TK, cEr n 59 48 E, cEr n 60 48 E, cEr n 61 48 E, cEr n 62 2400 E, cEr n 63 512 E, cEr n 64 961 E, cEr n 65 961 E] := by
            have e := hF
            rw [show (0 : Int32).toNatClampNeg = 0 by decide, show (100 : Int32).toNatClampNeg = 100 by decide, nI_clamp (show (c + 3) / 4 < 2 ^ 31 by omega), show (c + 3) / 4 = ((u 7).toNatClampNeg + 3) / 4 by rw [ec, nI_clamp (show c < 2 ^ 31 by omega)]] at e
            exact e
          refine ar_aload_n 114 d_53_113 rfl rfl ?_
          refine ar_getf 117 d_53_114 rfl (ci := 4) (k := 7) rfl (hF.at 5 rfl) rfl ?_
          refine ar_aload_n 118 d_53_117 rfl rfl ?_
          refine ar_getf 121 d_53_118 rfl (ci := 4) (k := 9) rfl (hF.at 5 rfl) rfl ?_
          refine ar_top (x' := nI he) (e9) ?_
          refine ar_aload_n 122 d_53_121 rfl rfl ?_
          refine ar_getf 125 d_53_122 rfl (ci := 2) (k := 6) rfl hN.mgc rfl ?_
          refine ar_iast 126 d_53_125 rfl (hF.at 10 rfl) (vin (by omega) (by omega)) ?_
          replace hF : ax_hs (ax_put hp_2 (n + 271) (.inl (0, 512, .inl (upd (E 9) (nI he).toNatClampNeg (u 6))))) [(n + 272 + 2 * (he % 24), .inr (5, [.int ((Q (he % 24)).1 0), .int ((Q (he % 24)).1 1), .int ((Q (he % 24)).1 2), .int ((Q (he % 24)).1 3), .int ((Q (he % 24)).1 4), .int ((Q (he % 24)).1 5), .int (u 7), .ref (n + 272 + 2 * (he % 24) + 1)])), (n + 272 + 2 * (he % 24) + 1, .inl (0, 612, .inl (va_cpy b (Q (he % 24)).2 0 100 (((u 7).toNatClampNeg + 3) / 4)))), cSt s0 n E, cRk n nn gg C, cOr n nn gg f, cAs n E, cEr n 5 512 E, cEr n 6 100 E, cEr n 7 2 E, cAk n, (n + 271, .inl (0, 512, .inl (upd (E 9) (nI he).toNatClampNeg (u 6)))), cNa n nn, cEr n 0 48 E, cEr n 1 961 E, cTs n gg E TK, cEr n 59 48 E, cEr n 60 48 E, cEr n 61 48 E, cEr n 62 2400 E, cEr n 63 512 E, cEr n 64 961 E, cEr n 65 961 E] := hF.put 10 _ rfl rfl
          replace hf := hf.put (a := n + 271) (c := .inl (0, 512, .inl (upd (E 9) (nI he).toNatClampNeg (u 6)))) (Or.inr (by omega))
          replace hN := hN.put (a := n + 271) (c := .inl (0, 512, .inl (upd (E 9) (nI he).toNatClampNeg (u 6)))) (by omega)
          replace hA := hA.put (a := n + 271) (c := .inl (0, 512, .inl (upd (E 9) (nI he).toNatClampNeg (u 6)))) (by omega)
          replace hn : (ax_put hp_2 (n + 271) (.inl (0, 512, .inl (upd (E 9) (nI he).toNatClampNeg (u 6))))).1 = h0.1 := hn
          replace hs : (ax_put hp_2 (n + 271) (.inl (0, 512, .inl (upd (E 9) (nI he).toNatClampNeg (u 6))))).2.1 = h0.2.1 := hs
          generalize ax_put hp_2 (n + 271) (.inl (0, 512, .inl (upd (E 9) (nI he).toNatClampNeg (u 6)))) = hp_3 at hF hf hA hN hn hs ⊢
          refine ar_aload_n 127 d_53_126 rfl rfl ?_
          replace hF : ax_hs hp_3 [(n + 272 + 2 * (he % 24), .inr (5, [.int ((Q (he % 24)).1 0), .int ((Q (he % 24)).1 1), .int ((Q (he % 24)).1 2), .int ((Q (he % 24)).1 3), .int ((Q (he % 24)).1 4), .int ((Q (he % 24)).1 5), .int (u 7), .ref (n + 272 + 2 * (he % 24) + 1)])), (n + 272 + 2 * (he % 24) + 1, .inl (0, 612, .inl (va_cpy b (Q (he % 24)).2 0 100 (((u 7).toNatClampNeg + 3) / 4)))), cSt s0 n E, cRk n nn gg C, cOr n nn gg f, cAs n E, cEr n 5 512 E, cEr n 6 100 E, cEr n 7 2 E, cAk n, (n + 271, .inl (0, 512, .inl (upd (E 9) he (u 6)))), cNa n nn, cEr n 0 48 E, cEr n 1 961 E, cTs n gg E TK, cEr n 59 48 E, cEr n 60 48 E, cEr n 61 48 E, cEr n 62 2400 E, cEr n 63 512 E, cEr n 64 961 E, cEr n 65 961 E] := by
            have e := hF
            rw [nI_clamp (show he < 2 ^ 31 by omega)] at e
            exact e
          refine ar_call (r := []) (na := 0) (kd := 0) (cm := 54) (fr2 := fr - 1) (lo2 := lo - 20) 130 d_53_127 (ar_hoV (as := []) rfl rfl rfl (hF.at 0 rfl)) rfl (by omega) (show lo - 20 + (19 + 1) = lo by omega) (Nat.le_of_ble_eq_true rfl) (Nat.le_of_ble_eq_true rfl) (c_54 (hF.at 0 rfl)) ?_
          intro v hh hq
          obtain ⟨rfl, ehh⟩ := hq
          rw [ehh]
          clear ehh
          by_cases hch : (Q (he % 24)).1 0 = 4 ∨ (Q (he % 24)).1 0 = 8 ∨ (Q (he % 24)).1 0 = 9
          · refine ar_top (x' := 0) (if_pos hch) ?_
            refine ar_if_eq 148 133 d_53_130 (by decide) rfl (fun _ => ?_) (fun c => absurd (by decide) c)
            refine ar_aload_n 149 d_53_148 rfl rfl ?_
            refine ar_dup 150 d_53_149 rfl rfl ?_
            refine ar_getf 153 d_53_150 rfl (ci := 4) (k := 9) rfl (hF.at 5 rfl) rfl ?_
            refine ar_top (x' := nI he) (e9) ?_
            refine ar_iconst 154 (v := 1) d_53_153 rfl (by decide) ?_
            refine ar_iadd 155 d_53_154 rfl ?_
            refine ar_top (x' := nI (he + 1)) (nI_1 he) ?_
            refine ar_putf 158 [.ref (n + 264), .ref n, .ref (n + 267), .int (E 4 3), .ref (n + 268), .ref (n + 269), .ref (n + 270), .ref (n + 271), .int (E 4 8), .int (nI (he + 1)), .int (E 4 10), .int (E 4 11), .int (E 4 12), .int (E 4 13), .int (E 4 14), .int (E 4 15)] d_53_155 rfl (ci := 4) (k := 9) rfl rfl (hF.at 5 rfl) (Nat.le_of_ble_eq_true rfl) rfl rfl rfl ?_
            replace hF : ax_hs (ax_put hp_3 (n + 266) (.inr (4, [.ref (n + 264), .ref n, .ref (n + 267), .int (E 4 3), .ref (n + 268), .ref (n + 269), .ref (n + 270), .ref (n + 271), .int (E 4 8), .int (nI (he + 1)), .int (E 4 10), .int (E 4 11), .int (E 4 12), .int (E 4 13), .int (E 4 14), .int (E 4 15)]))) [(n + 272 + 2 * (he % 24), .inr (5, [.int ((Q (he % 24)).1 0), .int ((Q (he % 24)).1 1), .int ((Q (he % 24)).1 2), .int ((Q (he % 24)).1 3), .int ((Q (he % 24)).1 4), .int ((Q (he % 24)).1 5), .int (u 7), .ref (n + 272 + 2 * (he % 24) + 1)])), (n + 272 + 2 * (he % 24) + 1, .inl (0, 612, .inl (va_cpy b (Q (he % 24)).2 0 100 (((u 7).toNatClampNeg + 3) / 4)))), cSt s0 n E, cRk n nn gg C, cOr n nn gg f, (n + 266, .inr (4, [.ref (n + 264), .ref n, .ref (n + 267), .int (E 4 3), .ref (n + 268), .ref (n + 269), .ref (n + 270), .ref (n + 271), .int (E 4 8), .int (nI (he + 1)), .int (E 4 10), .int (E 4 11), .int (E 4 12), .int (E 4 13), .int (E 4 14), .int (E 4 15)])), cEr n 5 512 E, cEr n 6 100 E, cEr n 7 2 E, cAk n, (n + 271, .inl (0, 512, .inl (upd (E 9) he (u 6)))), cNa n nn, cEr n 0 48 E, cEr n 1 961 E, cTs n gg E TK, cEr n 59 48 E, cEr n 60 48 E, cEr n 61 48 E, cEr n 62 2400 E, cEr n 63 512 E, cEr n 64 961 E, cEr n 65 961 E] := hF.put 5 _ rfl rfl
            replace hf := hf.put (a := n + 266) (c := .inr (4, [.ref (n + 264), .ref n, .ref (n + 267), .int (E 4 3), .ref (n + 268), .ref (n + 269), .ref (n + 270), .ref (n + 271), .int (E 4 8), .int (nI (he + 1)), .int (E 4 10), .int (E 4 11), .int (E 4 12), .int (E 4 13), .int (E 4 14), .int (E 4 15)])) (Or.inr (by omega))
            replace hN := hN.put (a := n + 266) (c := .inr (4, [.ref (n + 264), .ref n, .ref (n + 267), .int (E 4 3), .ref (n + 268), .ref (n + 269), .ref (n + 270), .ref (n + 271), .int (E 4 8), .int (nI (he + 1)), .int (E 4 10), .int (E 4 11), .int (E 4 12), .int (E 4 13), .int (E 4 14), .int (E 4 15)])) (by omega)
            replace hA := hA.put (a := n + 266) (c := .inr (4, [.ref (n + 264), .ref n, .ref (n + 267), .int (E 4 3), .ref (n + 268), .ref (n + 269), .ref (n + 270), .ref (n + 271), .int (E 4 8), .int (nI (he + 1)), .int (E 4 10), .int (E 4 11), .int (E 4 12), .int (E 4 13), .int (E 4 14), .int (E 4 15)])) (by omega)
            replace hn : (ax_put hp_3 (n + 266) (.inr (4, [.ref (n + 264), .ref n, .ref (n + 267), .int (E 4 3), .ref (n + 268), .ref (n + 269), .ref (n + 270), .ref (n + 271), .int (E 4 8), .int (nI (he + 1)), .int (E 4 10), .int (E 4 11), .int (E 4 12), .int (E 4 13), .int (E 4 14), .int (E 4 15)]))).1 = h0.1 := hn
            replace hs : (ax_put hp_3 (n + 266) (.inr (4, [.ref (n + 264), .ref n, .ref (n + 267), .int (E 4 3), .ref (n + 268), .ref (n + 269), .ref (n + 270), .ref (n + 271), .int (E 4 8), .int (nI (he + 1)), .int (E 4 10), .int (E 4 11), .int (E 4 12), .int (E 4 13), .int (E 4 14), .int (E 4 15)]))).2.1 = h0.2.1 := hs
            generalize ax_put hp_3 (n + 266) (.inr (4, [.ref (n + 264), .ref n, .ref (n + 267), .int (E 4 3), .ref (n + 268), .ref (n + 269), .ref (n + 270), .ref (n + 271), .int (E 4 8), .int (nI (he + 1)), .int (E 4 10), .int (E 4 11), .int (E 4 12), .int (E 4 13), .int (E 4 14), .int (E 4 15)])) = hp_4 at hF hf hA hN hn hs ⊢
            refine ar_aload_n 159 d_53_158 rfl rfl ?_
            replace hA : AKS hp_4 n (va_up Q (he % 24) (upd ((Q (he % 24)).1) 6 (u 7), va_cpy b (Q (he % 24)).2 0 100 (((u 7).toNatClampNeg + 3) / 4))) := hA.back haj ⟨hF.at 0 rfl, hF.at 1 rfl⟩
            replace hF := hF.sub (F' := [cSt s0 n E, cRk n nn gg C, cOr n nn gg f, (n + 266, .inr (4, [.ref (n + 264), .ref n, .ref (n + 267), .int (E 4 3), .ref (n + 268), .ref (n + 269), .ref (n + 270), .ref (n + 271), .int (E 4 8), .int (nI (he + 1)), .int (E 4 10), .int (E 4 11), .int (E 4 12), .int (E 4 13), .int (E 4 14), .int (E 4 15)])), cEr n 5 512 E, cEr n 6 100 E, cEr n 7 2 E, cAk n, (n + 271, .inl (0, 512, .inl (upd (E 9) he (u 6)))), cNa n nn, cEr n 0 48 E, cEr n 1 961 E, cTs n gg E TK, cEr n 59 48 E, cEr n 60 48 E, cEr n 61 48 E, cEr n 62 2400 E, cEr n 63 512 E, cEr n 64 961 E, cEr n 65 961 E]) [2, 3, 4, 5, 6, 7, 8, 9, 10, 11, 12, 13, 14, 15, 16, 17, 18, 19, 20, 21] rfl rfl
            have eE : va_up (va_up E 4 (upd (E 4) 9 (nI (he + 1)))) 9 (upd (E 9) he (u 6)) = heE E ((Q (he % 24)).1 0) he (u 6) := by
              unfold heE
              rw [if_pos (Or.inl hch)]
            have hS1 : AS s0 n nn gg C f q u b h0 hp_4 (va_up (va_up E 4 (upd (E 4) 9 (nI (he + 1)))) 9 (upd (E 9) he (u 6))) TK (va_up Q (he % 24) (upd ((Q (he % 24)).1) 6 (u 7), va_cpy b (Q (he % 24)).2 0 100 (((u 7).toNatClampNeg + 3) / 4))) ms := ⟨hF, hA, hN, hf, hn, hs, hp0⟩
            rw [eE] at hS1
            clear hF hA hN hf hn hs hp0
            obtain ⟨hF, hA, hN, hf, hn, hs, hp0⟩ := hS1
            replace hF : ax_hs hp_4 [cSt s0 n (heE E ((Q (he % 24)).1 0) he (u 6)), cRk n nn gg C, cOr n nn gg f, cAs n (heE E ((Q (he % 24)).1 0) he (u 6)), cEr n 5 512 (heE E ((Q (he % 24)).1 0) he (u 6)), cEr n 6 100 (heE E ((Q (he % 24)).1 0) he (u 6)), cEr n 7 2 (heE E ((Q (he % 24)).1 0) he (u 6)), cAk n, cEr n 9 512 (heE E ((Q (he % 24)).1 0) he (u 6)), cNa n nn, cEr n 0 48 (heE E ((Q (he % 24)).1 0) he (u 6)), cEr n 1 961 (heE E ((Q (he % 24)).1 0) he (u 6)), cTs n gg (heE E ((Q (he % 24)).1 0) he (u 6)) TK, cEr n 59 48 (heE E ((Q (he % 24)).1 0) he (u 6)), cEr n 60 48 (heE E ((Q (he % 24)).1 0) he (u 6)), cEr n 61 48 (heE E ((Q (he % 24)).1 0) he (u 6)), cEr n 62 2400 (heE E ((Q (he % 24)).1 0) he (u 6)), cEr n 63 512 (heE E ((Q (he % 24)).1 0) he (u 6)), cEr n 64 961 (heE E ((Q (he % 24)).1 0) he (u 6)), cEr n 65 961 (heE E ((Q (he % 24)).1 0) he (u 6))] := hF
            replace hA : AKS hp_4 n (va_up Q (he % 24) (heQ (Q (he % 24)) u b)) := hA
            have hS1 : AS s0 n nn gg C f q u b h0 hp_4 (heE E ((Q (he % 24)).1 0) he (u 6)) TK (va_up Q (he % 24) (heQ (Q (he % 24)) u b)) ms := ⟨hF, hA, hN, hf, hn, hs, hp0⟩
            refine ar_call (r := []) (na := 0) (kd := 0) (cm := 47) (fr2 := fr - 1) (lo2 := lo - 23) 162 d_53_159 (ar_hoV (as := []) rfl rfl rfl (hF.at 3 rfl)) rfl (by omega) (show lo - 23 + (19 + 4) = lo by omega) (Nat.le_of_ble_eq_true rfl) (Nat.le_of_ble_eq_true rfl) (ek_47 (by omega) (by omega) hC0 hS1 heE_9 (heE_8.trans e8) (by omega) hb (fun z => by rw [va_up_n _ _ (show ¬ (he + 1) % 24 = he % 24 by omega)]; exact hL2 z)) ?_
            intro v hp_5 hq
            obtain ⟨rfl, ms5, hS2, hr5⟩ := hq
            clear hS1 hF hA hN hf hn hs hp0
            obtain ⟨hF, hA, hN, hf, hn, hs, hp0⟩ := hS2
            replace hF : ax_hs hp_5 [cSt s0 n (heE E ((Q (he % 24)).1 0) he (u 6)), cRk n nn gg C, cOr n nn gg f, cAs n (heE E ((Q (he % 24)).1 0) he (u 6)), cEr n 5 512 (heE E ((Q (he % 24)).1 0) he (u 6)), cEr n 6 100 (heE E ((Q (he % 24)).1 0) he (u 6)), cEr n 7 2 (heE E ((Q (he % 24)).1 0) he (u 6)), cAk n, cEr n 9 512 (heE E ((Q (he % 24)).1 0) he (u 6)), cNa n nn, cEr n 0 48 (heE E ((Q (he % 24)).1 0) he (u 6)), cEr n 1 961 (heE E ((Q (he % 24)).1 0) he (u 6)), cTs n gg (heE E ((Q (he % 24)).1 0) he (u 6)) TK, cEr n 59 48 (heE E ((Q (he % 24)).1 0) he (u 6)), cEr n 60 48 (heE E ((Q (he % 24)).1 0) he (u 6)), cEr n 61 48 (heE E ((Q (he % 24)).1 0) he (u 6)), cEr n 62 2400 (heE E ((Q (he % 24)).1 0) he (u 6)), cEr n 63 512 (heE E ((Q (he % 24)).1 0) he (u 6)), cEr n 64 961 (heE E ((Q (he % 24)).1 0) he (u 6)), cEr n 65 961 (heE E ((Q (he % 24)).1 0) he (u 6))] := hF
            have hS9 : AS s0 n nn gg C f q u b h0 hp_5 (heE E ((Q (he % 24)).1 0) he (u 6)) TK (va_up Q (he % 24) (heQ (Q (he % 24)) u b)) ms5 := ⟨hF, hA, hN, hf, hn, hs, hp0⟩
            exact ar_ret d_53_162 rfl (⟨rfl, Or.inr (Or.inr ⟨fun z => c1 z.1, h3, Decidable.not_not.mp c5, hlt, _, hS9, hr5⟩)⟩)
          · refine ar_top (x' := 1) (if_neg hch) ?_
            refine ar_if_eq 148 133 d_53_130 (by decide) rfl (fun c => absurd c (by decide)) (fun _ => ?_)
            refine ar_aload_n 134 d_53_133 rfl rfl ?_
            refine ar_getf 137 d_53_134 rfl (ci := 2) (k := 6) rfl hN.mgc rfl ?_
            refine ar_if_lt 148 140 d_53_137 (by decide) rfl (fun c7 => ?_) (fun c7 => ?_)
            · refine ar_aload_n 149 d_53_148 rfl rfl ?_
              refine ar_dup 150 d_53_149 rfl rfl ?_
              refine ar_getf 153 d_53_150 rfl (ci := 4) (k := 9) rfl (hF.at 5 rfl) rfl ?_
              refine ar_top (x' := nI he) (e9) ?_
              refine ar_iconst 154 (v := 1) d_53_153 rfl (by decide) ?_
              refine ar_iadd 155 d_53_154 rfl ?_
              refine ar_top (x' := nI (he + 1)) (nI_1 he) ?_
              refine ar_putf 158 [.ref (n + 264), .ref n, .ref (n + 267), .int (E 4 3), .ref (n + 268), .ref (n + 269), .ref (n + 270), .ref (n + 271), .int (E 4 8), .int (nI (he + 1)), .int (E 4 10), .int (E 4 11), .int (E 4 12), .int (E 4 13), .int (E 4 14), .int (E 4 15)] d_53_155 rfl (ci := 4) (k := 9) rfl rfl (hF.at 5 rfl) (Nat.le_of_ble_eq_true rfl) rfl rfl rfl ?_
              replace hF : ax_hs (ax_put hp_3 (n + 266) (.inr (4, [.ref (n + 264), .ref n, .ref (n + 267), .int (E 4 3), .ref (n + 268), .ref (n + 269), .ref (n + 270), .ref (n + 271), .int (E 4 8), .int (nI (he + 1)), .int (E 4 10), .int (E 4 11), .int (E 4 12), .int (E 4 13), .int (E 4 14), .int (E 4 15)]))) [(n + 272 + 2 * (he % 24), .inr (5, [.int ((Q (he % 24)).1 0), .int ((Q (he % 24)).1 1), .int ((Q (he % 24)).1 2), .int ((Q (he % 24)).1 3), .int ((Q (he % 24)).1 4), .int ((Q (he % 24)).1 5), .int (u 7), .ref (n + 272 + 2 * (he % 24) + 1)])), (n + 272 + 2 * (he % 24) + 1, .inl (0, 612, .inl (va_cpy b (Q (he % 24)).2 0 100 (((u 7).toNatClampNeg + 3) / 4)))), cSt s0 n E, cRk n nn gg C, cOr n nn gg f, (n + 266, .inr (4, [.ref (n + 264), .ref n, .ref (n + 267), .int (E 4 3), .ref (n + 268), .ref (n + 269), .ref (n + 270), .ref (n + 271), .int (E 4 8), .int (nI (he + 1)), .int (E 4 10), .int (E 4 11), .int (E 4 12), .int (E 4 13), .int (E 4 14), .int (E 4 15)])), cEr n 5 512 E, cEr n 6 100 E, cEr n 7 2 E, cAk n, (n + 271, .inl (0, 512, .inl (upd (E 9) he (u 6)))), cNa n nn, cEr n 0 48 E, cEr n 1 961 E, cTs n gg E TK, cEr n 59 48 E, cEr n 60 48 E, cEr n 61 48 E, cEr n 62 2400 E, cEr n 63 512 E, cEr n 64 961 E, cEr n 65 961 E] := hF.put 5 _ rfl rfl
              replace hf := hf.put (a := n + 266) (c := .inr (4, [.ref (n + 264), .ref n, .ref (n + 267), .int (E 4 3), .ref (n + 268), .ref (n + 269), .ref (n + 270), .ref (n + 271), .int (E 4 8), .int (nI (he + 1)), .int (E 4 10), .int (E 4 11), .int (E 4 12), .int (E 4 13), .int (E 4 14), .int (E 4 15)])) (Or.inr (by omega))
              replace hN := hN.put (a := n + 266) (c := .inr (4, [.ref (n + 264), .ref n, .ref (n + 267), .int (E 4 3), .ref (n + 268), .ref (n + 269), .ref (n + 270), .ref (n + 271), .int (E 4 8), .int (nI (he + 1)), .int (E 4 10), .int (E 4 11), .int (E 4 12), .int (E 4 13), .int (E 4 14), .int (E 4 15)])) (by omega)
              replace hA := hA.put (a := n + 266) (c := .inr (4, [.ref (n + 264), .ref n, .ref (n + 267), .int (E 4 3), .ref (n + 268), .ref (n + 269), .ref (n + 270), .ref (n + 271), .int (E 4 8), .int (nI (he + 1)), .int (E 4 10), .int (E 4 11), .int (E 4 12), .int (E 4 13), .int (E 4 14), .int (E 4 15)])) (by omega)
              replace hn : (ax_put hp_3 (n + 266) (.inr (4, [.ref (n + 264), .ref n, .ref (n + 267), .int (E 4 3), .ref (n + 268), .ref (n + 269), .ref (n + 270), .ref (n + 271), .int (E 4 8), .int (nI (he + 1)), .int (E 4 10), .int (E 4 11), .int (E 4 12), .int (E 4 13), .int (E 4 14), .int (E 4 15)]))).1 = h0.1 := hn
              replace hs : (ax_put hp_3 (n + 266) (.inr (4, [.ref (n + 264), .ref n, .ref (n + 267), .int (E 4 3), .ref (n + 268), .ref (n + 269), .ref (n + 270), .ref (n + 271), .int (E 4 8), .int (nI (he + 1)), .int (E 4 10), .int (E 4 11), .int (E 4 12), .int (E 4 13), .int (E 4 14), .int (E 4 15)]))).2.1 = h0.2.1 := hs
              generalize ax_put hp_3 (n + 266) (.inr (4, [.ref (n + 264), .ref n, .ref (n + 267), .int (E 4 3), .ref (n + 268), .ref (n + 269), .ref (n + 270), .ref (n + 271), .int (E 4 8), .int (nI (he + 1)), .int (E 4 10), .int (E 4 11), .int (E 4 12), .int (E 4 13), .int (E 4 14), .int (E 4 15)])) = hp_6 at hF hf hA hN hn hs ⊢
              refine ar_aload_n 159 d_53_158 rfl rfl ?_
              replace hA : AKS hp_6 n (va_up Q (he % 24) (upd ((Q (he % 24)).1) 6 (u 7), va_cpy b (Q (he % 24)).2 0 100 (((u 7).toNatClampNeg + 3) / 4))) := hA.back haj ⟨hF.at 0 rfl, hF.at 1 rfl⟩
              replace hF := hF.sub (F' := [cSt s0 n E, cRk n nn gg C, cOr n nn gg f, (n + 266, .inr (4, [.ref (n + 264), .ref n, .ref (n + 267), .int (E 4 3), .ref (n + 268), .ref (n + 269), .ref (n + 270), .ref (n + 271), .int (E 4 8), .int (nI (he + 1)), .int (E 4 10), .int (E 4 11), .int (E 4 12), .int (E 4 13), .int (E 4 14), .int (E 4 15)])), cEr n 5 512 E, cEr n 6 100 E, cEr n 7 2 E, cAk n, (n + 271, .inl (0, 512, .inl (upd (E 9) he (u 6)))), cNa n nn, cEr n 0 48 E, cEr n 1 961 E, cTs n gg E TK, cEr n 59 48 E, cEr n 60 48 E, cEr n 61 48 E, cEr n 62 2400 E, cEr n 63 512 E, cEr n 64 961 E, cEr n 65 961 E]) [2, 3, 4, 5, 6, 7, 8, 9, 10, 11, 12, 13, 14, 15, 16, 17, 18, 19, 20, 21] rfl rfl
              have eE : va_up (va_up E 4 (upd (E 4) 9 (nI (he + 1)))) 9 (upd (E 9) he (u 6)) = heE E ((Q (he % 24)).1 0) he (u 6) := by
                unfold heE
                rw [if_pos (Or.inr c7)]
              have hS1 : AS s0 n nn gg C f q u b h0 hp_6 (va_up (va_up E 4 (upd (E 4) 9 (nI (he + 1)))) 9 (upd (E 9) he (u 6))) TK (va_up Q (he % 24) (upd ((Q (he % 24)).1) 6 (u 7), va_cpy b (Q (he % 24)).2 0 100 (((u 7).toNatClampNeg + 3) / 4))) ms := ⟨hF, hA, hN, hf, hn, hs, hp0⟩
              rw [eE] at hS1
              clear hF hA hN hf hn hs hp0
              obtain ⟨hF, hA, hN, hf, hn, hs, hp0⟩ := hS1
              replace hF : ax_hs hp_6 [cSt s0 n (heE E ((Q (he % 24)).1 0) he (u 6)), cRk n nn gg C, cOr n nn gg f, cAs n (heE E ((Q (he % 24)).1 0) he (u 6)), cEr n 5 512 (heE E ((Q (he % 24)).1 0) he (u 6)), cEr n 6 100 (heE E ((Q (he % 24)).1 0) he (u 6)), cEr n 7 2 (heE E ((Q (he % 24)).1 0) he (u 6)), cAk n, cEr n 9 512 (heE E ((Q (he % 24)).1 0) he (u 6)), cNa n nn, cEr n 0 48 (heE E ((Q (he % 24)).1 0) he (u 6)), cEr n 1 961 (heE E ((Q (he % 24)).1 0) he (u 6)), cTs n gg (heE E ((Q (he % 24)).1 0) he (u 6)) TK, cEr n 59 48 (heE E ((Q (he % 24)).1 0) he (u 6)), cEr n 60 48 (heE E ((Q (he % 24)).1 0) he (u 6)), cEr n 61 48 (heE E ((Q (he % 24)).1 0) he (u 6)), cEr n 62 2400 (heE E ((Q (he % 24)).1 0) he (u 6)), cEr n 63 512 (heE E ((Q (he % 24)).1 0) he (u 6)), cEr n 64 961 (heE E ((Q (he % 24)).1 0) he (u 6)), cEr n 65 961 (heE E ((Q (he % 24)).1 0) he (u 6))] := hF
              replace hA : AKS hp_6 n (va_up Q (he % 24) (heQ (Q (he % 24)) u b)) := hA
              have hS1 : AS s0 n nn gg C f q u b h0 hp_6 (heE E ((Q (he % 24)).1 0) he (u 6)) TK (va_up Q (he % 24) (heQ (Q (he % 24)) u b)) ms := ⟨hF, hA, hN, hf, hn, hs, hp0⟩
              refine ar_call (r := []) (na := 0) (kd := 0) (cm := 47) (fr2 := fr - 1) (lo2 := lo - 23) 162 d_53_159 (ar_hoV (as := []) rfl rfl rfl (hF.at 3 rfl)) rfl (by omega) (show lo - 23 + (19 + 4) = lo by omega) (Nat.le_of_ble_eq_true rfl) (Nat.le_of_ble_eq_true rfl) (ek_47 (by omega) (by omega) hC0 hS1 heE_9 (heE_8.trans e8) (by omega) hb (fun z => by rw [va_up_n _ _ (show ¬ (he + 1) % 24 = he % 24 by omega)]; exact hL2 z)) ?_
              intro v hp_7 hq
              obtain ⟨rfl, ms7, hS2, hr7⟩ := hq
              clear hS1 hF hA hN hf hn hs hp0
              obtain ⟨hF, hA, hN, hf, hn, hs, hp0⟩ := hS2
              replace hF : ax_hs hp_7 [cSt s0 n (heE E ((Q (he % 24)).1 0) he (u 6)), cRk n nn gg C, cOr n nn gg f, cAs n (heE E ((Q (he % 24)).1 0) he (u 6)), cEr n 5 512 (heE E ((Q (he % 24)).1 0) he (u 6)), cEr n 6 100 (heE E ((Q (he % 24)).1 0) he (u 6)), cEr n 7 2 (heE E ((Q (he % 24)).1 0) he (u 6)), cAk n, cEr n 9 512 (heE E ((Q (he % 24)).1 0) he (u 6)), cNa n nn, cEr n 0 48 (heE E ((Q (he % 24)).1 0) he (u 6)), cEr n 1 961 (heE E ((Q (he % 24)).1 0) he (u 6)), cTs n gg (heE E ((Q (he % 24)).1 0) he (u 6)) TK, cEr n 59 48 (heE E ((Q (he % 24)).1 0) he (u 6)), cEr n 60 48 (heE E ((Q (he % 24)).1 0) he (u 6)), cEr n 61 48 (heE E ((Q (he % 24)).1 0) he (u 6)), cEr n 62 2400 (heE E ((Q (he % 24)).1 0) he (u 6)), cEr n 63 512 (heE E ((Q (he % 24)).1 0) he (u 6)), cEr n 64 961 (heE E ((Q (he % 24)).1 0) he (u 6)), cEr n 65 961 (heE E ((Q (he % 24)).1 0) he (u 6))] := hF
              have hS9 : AS s0 n nn gg C f q u b h0 hp_7 (heE E ((Q (he % 24)).1 0) he (u 6)) TK (va_up Q (he % 24) (heQ (Q (he % 24)) u b)) ms7 := ⟨hF, hA, hN, hf, hn, hs, hp0⟩
              exact ar_ret d_53_162 rfl (⟨rfl, Or.inr (Or.inr ⟨fun z => c1 z.1, h3, Decidable.not_not.mp c5, hlt, _, hS9, hr7⟩)⟩)
            · refine ar_aload_n 141 d_53_140 rfl rfl ?_
              refine ar_aload_n 142 d_53_141 rfl rfl ?_
              refine ar_getf 145 d_53_142 rfl (ci := 4) (k := 9) rfl (hF.at 5 rfl) rfl ?_
              refine ar_top (x' := nI he) (e9) ?_
              refine ar_putf 148 [.ref (n + 264), .ref n, .ref (n + 267), .int (E 4 3), .ref (n + 268), .ref (n + 269), .ref (n + 270), .ref (n + 271), .int (E 4 8), .int (E 4 9), .int (E 4 10), .int (E 4 11), .int (nI he), .int (E 4 13), .int (E 4 14), .int (E 4 15)] d_53_145 rfl (ci := 4) (k := 12) rfl rfl (hF.at 5 rfl) (Nat.le_of_ble_eq_true rfl) rfl rfl rfl ?_
              replace hF : ax_hs (ax_put hp_3 (n + 266) (.inr (4, [.ref (n + 264), .ref n, .ref (n + 267), .int (E 4 3), .ref (n + 268), .ref (n + 269), .ref (n + 270), .ref (n + 271), .int (E 4 8), .int (E 4 9), .int (E 4 10), .int (E 4 11), .int (nI he), .int (E 4 13), .int (E 4 14), .int (E 4 15)]))) [(n + 272 + 2 * (he % 24), .inr (5, [.int ((Q (he % 24)).1 0), .int ((Q (he % 24)).1 1), .int ((Q (he % 24)).1 2), .int ((Q (he % 24)).1 3), .int ((Q (he % 24)).1 4), .int ((Q (he % 24)).1 5), .int (u 7), .ref (n + 272 + 2 * (he % 24) + 1)])), (n + 272 + 2 * (he % 24) + 1, .inl (0, 612, .inl (va_cpy b (Q (he % 24)).2 0 100 (((u 7).toNatClampNeg + 3) / 4)))), cSt s0 n E, cRk n nn gg C, cOr n nn gg f, (n + 266, .inr (4, [.ref (n + 264), .ref n, .ref (n + 267), .int (E 4 3), .ref (n + 268), .ref (n + 269), .ref (n + 270), .ref (n + 271), .int (E 4 8), .int (E 4 9), .int (E 4 10), .int (E 4 11), .int (nI he), .int (E 4 13), .int (E 4 14), .int (E 4 15)])), cEr n 5 512 E, cEr n 6 100 E, cEr n 7 2 E, cAk n, (n + 271, .inl (0, 512, .inl (upd (E 9) he (u 6)))), cNa n nn, cEr n 0 48 E, cEr n 1 961 E, cTs n gg E TK, cEr n 59 48 E, cEr n 60 48 E, cEr n 61 48 E, cEr n 62 2400 E, cEr n 63 512 E, cEr n 64 961 E, cEr n 65 961 E] := hF.put 5 _ rfl rfl
              replace hf := hf.put (a := n + 266) (c := .inr (4, [.ref (n + 264), .ref n, .ref (n + 267), .int (E 4 3), .ref (n + 268), .ref (n + 269), .ref (n + 270), .ref (n + 271), .int (E 4 8), .int (E 4 9), .int (E 4 10), .int (E 4 11), .int (nI he), .int (E 4 13), .int (E 4 14), .int (E 4 15)])) (Or.inr (by omega))
              replace hN := hN.put (a := n + 266) (c := .inr (4, [.ref (n + 264), .ref n, .ref (n + 267), .int (E 4 3), .ref (n + 268), .ref (n + 269), .ref (n + 270), .ref (n + 271), .int (E 4 8), .int (E 4 9), .int (E 4 10), .int (E 4 11), .int (nI he), .int (E 4 13), .int (E 4 14), .int (E 4 15)])) (by omega)
              replace hA := hA.put (a := n + 266) (c := .inr (4, [.ref (n + 264), .ref n, .ref (n + 267), .int (E 4 3), .ref (n + 268), .ref (n + 269), .ref (n + 270), .ref (n + 271), .int (E 4 8), .int (E 4 9), .int (E 4 10), .int (E 4 11), .int (nI he), .int (E 4 13), .int (E 4 14), .int (E 4 15)])) (by omega)
              replace hn : (ax_put hp_3 (n + 266) (.inr (4, [.ref (n + 264), .ref n, .ref (n + 267), .int (E 4 3), .ref (n + 268), .ref (n + 269), .ref (n + 270), .ref (n + 271), .int (E 4 8), .int (E 4 9), .int (E 4 10), .int (E 4 11), .int (nI he), .int (E 4 13), .int (E 4 14), .int (E 4 15)]))).1 = h0.1 := hn
              replace hs : (ax_put hp_3 (n + 266) (.inr (4, [.ref (n + 264), .ref n, .ref (n + 267), .int (E 4 3), .ref (n + 268), .ref (n + 269), .ref (n + 270), .ref (n + 271), .int (E 4 8), .int (E 4 9), .int (E 4 10), .int (E 4 11), .int (nI he), .int (E 4 13), .int (E 4 14), .int (E 4 15)]))).2.1 = h0.2.1 := hs
              generalize ax_put hp_3 (n + 266) (.inr (4, [.ref (n + 264), .ref n, .ref (n + 267), .int (E 4 3), .ref (n + 268), .ref (n + 269), .ref (n + 270), .ref (n + 271), .int (E 4 8), .int (E 4 9), .int (E 4 10), .int (E 4 11), .int (nI he), .int (E 4 13), .int (E 4 14), .int (E 4 15)])) = hp_8 at hF hf hA hN hn hs ⊢
              refine ar_aload_n 149 d_53_148 rfl rfl ?_
              refine ar_dup 150 d_53_149 rfl rfl ?_
              refine ar_getf 153 d_53_150 rfl (ci := 4) (k := 9) rfl (hF.at 5 rfl) rfl ?_
              refine ar_top (x' := nI he) (e9) ?_
              refine ar_iconst 154 (v := 1) d_53_153 rfl (by decide) ?_
              refine ar_iadd 155 d_53_154 rfl ?_
              refine ar_top (x' := nI (he + 1)) (nI_1 he) ?_
              refine ar_putf 158 [.ref (n + 264), .ref n, .ref (n + 267), .int (E 4 3), .ref (n + 268), .ref (n + 269), .ref (n + 270), .ref (n + 271), .int (E 4 8), .int (nI (he + 1)), .int (E 4 10), .int (E 4 11), .int (nI he), .int (E 4 13), .int (E 4 14), .int (E 4 15)] d_53_155 rfl (ci := 4) (k := 9) rfl rfl (hF.at 5 rfl) (Nat.le_of_ble_eq_true rfl) rfl rfl rfl ?_
              replace hF : ax_hs (ax_put hp_8 (n + 266) (.inr (4, [.ref (n + 264), .ref n, .ref (n + 267), .int (E 4 3), .ref (n + 268), .ref (n + 269), .ref (n + 270), .ref (n + 271), .int (E 4 8), .int (nI (he + 1)), .int (E 4 10), .int (E 4 11), .int (nI he), .int (E 4 13), .int (E 4 14), .int (E 4 15)]))) [(n + 272 + 2 * (he % 24), .inr (5, [.int ((Q (he % 24)).1 0), .int ((Q (he % 24)).1 1), .int ((Q (he % 24)).1 2), .int ((Q (he % 24)).1 3), .int ((Q (he % 24)).1 4), .int ((Q (he % 24)).1 5), .int (u 7), .ref (n + 272 + 2 * (he % 24) + 1)])), (n + 272 + 2 * (he % 24) + 1, .inl (0, 612, .inl (va_cpy b (Q (he % 24)).2 0 100 (((u 7).toNatClampNeg + 3) / 4)))), cSt s0 n E, cRk n nn gg C, cOr n nn gg f, (n + 266, .inr (4, [.ref (n + 264), .ref n, .ref (n + 267), .int (E 4 3), .ref (n + 268), .ref (n + 269), .ref (n + 270), .ref (n + 271), .int (E 4 8), .int (nI (he + 1)), .int (E 4 10), .int (E 4 11), .int (nI he), .int (E 4 13), .int (E 4 14), .int (E 4 15)])), cEr n 5 512 E, cEr n 6 100 E, cEr n 7 2 E, cAk n, (n + 271, .inl (0, 512, .inl (upd (E 9) he (u 6)))), cNa n nn, cEr n 0 48 E, cEr n 1 961 E, cTs n gg E TK, cEr n 59 48 E, cEr n 60 48 E, cEr n 61 48 E, cEr n 62 2400 E, cEr n 63 512 E, cEr n 64 961 E, cEr n 65 961 E] := hF.put 5 _ rfl rfl
              replace hf := hf.put (a := n + 266) (c := .inr (4, [.ref (n + 264), .ref n, .ref (n + 267), .int (E 4 3), .ref (n + 268), .ref (n + 269), .ref (n + 270), .ref (n + 271), .int (E 4 8), .int (nI (he + 1)), .int (E 4 10), .int (E 4 11), .int (nI he), .int (E 4 13), .int (E 4 14), .int (E 4 15)])) (Or.inr (by omega))
              replace hN := hN.put (a := n + 266) (c := .inr (4, [.ref (n + 264), .ref n, .ref (n + 267), .int (E 4 3), .ref (n + 268), .ref (n + 269), .ref (n + 270), .ref (n + 271), .int (E 4 8), .int (nI (he + 1)), .int (E 4 10), .int (E 4 11), .int (nI he), .int (E 4 13), .int (E 4 14), .int (E 4 15)])) (by omega)
              replace hA := hA.put (a := n + 266) (c := .inr (4, [.ref (n + 264), .ref n, .ref (n + 267), .int (E 4 3), .ref (n + 268), .ref (n + 269), .ref (n + 270), .ref (n + 271), .int (E 4 8), .int (nI (he + 1)), .int (E 4 10), .int (E 4 11), .int (nI he), .int (E 4 13), .int (E 4 14), .int (E 4 15)])) (by omega)
              replace hn : (ax_put hp_8 (n + 266) (.inr (4, [.ref (n + 264), .ref n, .ref (n + 267), .int (E 4 3), .ref (n + 268), .ref (n + 269), .ref (n + 270), .ref (n + 271), .int (E 4 8), .int (nI (he + 1)), .int (E 4 10), .int (E 4 11), .int (nI he), .int (E 4 13), .int (E 4 14), .int (E 4 15)]))).1 = h0.1 := hn
              replace hs : (ax_put hp_8 (n + 266) (.inr (4, [.ref (n + 264), .ref n, .ref (n + 267), .int (E 4 3), .ref (n + 268), .ref (n + 269), .ref (n + 270), .ref (n + 271), .int (E 4 8), .int (nI (he + 1)), .int (E 4 10), .int (E 4 11), .int (nI he), .int (E 4 13), .int (E 4 14), .int (E 4 15)]))).2.1 = h0.2.1 := hs
              generalize ax_put hp_8 (n + 266) (.inr (4, [.ref (n + 264), .ref n, .ref (n + 267), .int (E 4 3), .ref (n + 268), .ref (n + 269), .ref (n + 270), .ref (n + 271), .int (E 4 8), .int (nI (he + 1)), .int (E 4 10), .int (E 4 11), .int (nI he), .int (E 4 13), .int (E 4 14), .int (E 4 15)])) = hp_9 at hF hf hA hN hn hs ⊢
              refine ar_aload_n 159 d_53_158 rfl rfl ?_
              replace hA : AKS hp_9 n (va_up Q (he % 24) (upd ((Q (he % 24)).1) 6 (u 7), va_cpy b (Q (he % 24)).2 0 100 (((u 7).toNatClampNeg + 3) / 4))) := hA.back haj ⟨hF.at 0 rfl, hF.at 1 rfl⟩
              replace hF := hF.sub (F' := [cSt s0 n E, cRk n nn gg C, cOr n nn gg f, (n + 266, .inr (4, [.ref (n + 264), .ref n, .ref (n + 267), .int (E 4 3), .ref (n + 268), .ref (n + 269), .ref (n + 270), .ref (n + 271), .int (E 4 8), .int (nI (he + 1)), .int (E 4 10), .int (E 4 11), .int (nI he), .int (E 4 13), .int (E 4 14), .int (E 4 15)])), cEr n 5 512 E, cEr n 6 100 E, cEr n 7 2 E, cAk n, (n + 271, .inl (0, 512, .inl (upd (E 9) he (u 6)))), cNa n nn, cEr n 0 48 E, cEr n 1 961 E, cTs n gg E TK, cEr n 59 48 E, cEr n 60 48 E, cEr n 61 48 E, cEr n 62 2400 E, cEr n 63 512 E, cEr n 64 961 E, cEr n 65 961 E]) [2, 3, 4, 5, 6, 7, 8, 9, 10, 11, 12, 13, 14, 15, 16, 17, 18, 19, 20, 21] rfl rfl
              have eE : va_up (va_up E 4 (upd (upd (E 4) 9 (nI (he + 1))) 12 (nI he))) 9 (upd (E 9) he (u 6)) = heE E ((Q (he % 24)).1 0) he (u 6) := by
                unfold heE
                rw [if_neg (fun z => z.elim hch c7)]
              have hS1 : AS s0 n nn gg C f q u b h0 hp_9 (va_up (va_up E 4 (upd (upd (E 4) 9 (nI (he + 1))) 12 (nI he))) 9 (upd (E 9) he (u 6))) TK (va_up Q (he % 24) (upd ((Q (he % 24)).1) 6 (u 7), va_cpy b (Q (he % 24)).2 0 100 (((u 7).toNatClampNeg + 3) / 4))) ms := ⟨hF, hA, hN, hf, hn, hs, hp0⟩
              rw [eE] at hS1
              clear hF hA hN hf hn hs hp0
              obtain ⟨hF, hA, hN, hf, hn, hs, hp0⟩ := hS1
              replace hF : ax_hs hp_9 [cSt s0 n (heE E ((Q (he % 24)).1 0) he (u 6)), cRk n nn gg C, cOr n nn gg f, cAs n (heE E ((Q (he % 24)).1 0) he (u 6)), cEr n 5 512 (heE E ((Q (he % 24)).1 0) he (u 6)), cEr n 6 100 (heE E ((Q (he % 24)).1 0) he (u 6)), cEr n 7 2 (heE E ((Q (he % 24)).1 0) he (u 6)), cAk n, cEr n 9 512 (heE E ((Q (he % 24)).1 0) he (u 6)), cNa n nn, cEr n 0 48 (heE E ((Q (he % 24)).1 0) he (u 6)), cEr n 1 961 (heE E ((Q (he % 24)).1 0) he (u 6)), cTs n gg (heE E ((Q (he % 24)).1 0) he (u 6)) TK, cEr n 59 48 (heE E ((Q (he % 24)).1 0) he (u 6)), cEr n 60 48 (heE E ((Q (he % 24)).1 0) he (u 6)), cEr n 61 48 (heE E ((Q (he % 24)).1 0) he (u 6)), cEr n 62 2400 (heE E ((Q (he % 24)).1 0) he (u 6)), cEr n 63 512 (heE E ((Q (he % 24)).1 0) he (u 6)), cEr n 64 961 (heE E ((Q (he % 24)).1 0) he (u 6)), cEr n 65 961 (heE E ((Q (he % 24)).1 0) he (u 6))] := hF
              replace hA : AKS hp_9 n (va_up Q (he % 24) (heQ (Q (he % 24)) u b)) := hA
              have hS1 : AS s0 n nn gg C f q u b h0 hp_9 (heE E ((Q (he % 24)).1 0) he (u 6)) TK (va_up Q (he % 24) (heQ (Q (he % 24)) u b)) ms := ⟨hF, hA, hN, hf, hn, hs, hp0⟩
              refine ar_call (r := []) (na := 0) (kd := 0) (cm := 47) (fr2 := fr - 1) (lo2 := lo - 23) 162 d_53_159 (ar_hoV (as := []) rfl rfl rfl (hF.at 3 rfl)) rfl (by omega) (show lo - 23 + (19 + 4) = lo by omega) (Nat.le_of_ble_eq_true rfl) (Nat.le_of_ble_eq_true rfl) (ek_47 (by omega) (by omega) hC0 hS1 heE_9 (heE_8.trans e8) (by omega) hb (fun z => by rw [va_up_n _ _ (show ¬ (he + 1) % 24 = he % 24 by omega)]; exact hL2 z)) ?_
              intro v hp_10 hq
              obtain ⟨rfl, ms10, hS2, hr10⟩ := hq
              clear hS1 hF hA hN hf hn hs hp0
              obtain ⟨hF, hA, hN, hf, hn, hs, hp0⟩ := hS2
              replace hF : ax_hs hp_10 [cSt s0 n (heE E ((Q (he % 24)).1 0) he (u 6)), cRk n nn gg C, cOr n nn gg f, cAs n (heE E ((Q (he % 24)).1 0) he (u 6)), cEr n 5 512 (heE E ((Q (he % 24)).1 0) he (u 6)), cEr n 6 100 (heE E ((Q (he % 24)).1 0) he (u 6)), cEr n 7 2 (heE E ((Q (he % 24)).1 0) he (u 6)), cAk n, cEr n 9 512 (heE E ((Q (he % 24)).1 0) he (u 6)), cNa n nn, cEr n 0 48 (heE E ((Q (he % 24)).1 0) he (u 6)), cEr n 1 961 (heE E ((Q (he % 24)).1 0) he (u 6)), cTs n gg (heE E ((Q (he % 24)).1 0) he (u 6)) TK, cEr n 59 48 (heE E ((Q (he % 24)).1 0) he (u 6)), cEr n 60 48 (heE E ((Q (he % 24)).1 0) he (u 6)), cEr n 61 48 (heE E ((Q (he % 24)).1 0) he (u 6)), cEr n 62 2400 (heE E ((Q (he % 24)).1 0) he (u 6)), cEr n 63 512 (heE E ((Q (he % 24)).1 0) he (u 6)), cEr n 64 961 (heE E ((Q (he % 24)).1 0) he (u 6)), cEr n 65 961 (heE E ((Q (he % 24)).1 0) he (u 6))] := hF
              have hS9 : AS s0 n nn gg C f q u b h0 hp_10 (heE E ((Q (he % 24)).1 0) he (u 6)) TK (va_up Q (he % 24) (heQ (Q (he % 24)) u b)) ms10 := ⟨hF, hA, hN, hf, hn, hs, hp0⟩
              exact ar_ret d_53_162 rfl (⟨rfl, Or.inr (Or.inr ⟨fun z => c1 z.1, h3, Decidable.not_not.mp c5, hlt, _, hS9, hr10⟩)⟩)
  · refine ar_aload_n 9 d_53_8 rfl rfl ?_
    refine ar_getf 12 d_53_9 rfl (ci := 2) (k := 3) rfl hN.mgc rfl ?_
    refine ar_aload_n 13 d_53_12 rfl rfl ?_
    refine ar_getf 16 d_53_13 rfl (ci := 4) (k := 13) rfl (hF.at 3 rfl) rfl ?_
    refine ar_icmp_ne 37 19 d_53_16 (by decide) rfl (fun c2 => ?_) (fun c2 => ?_)
    · refine ar_aload_n 38 d_53_37 rfl rfl ?_
      refine ar_getf 41 d_53_38 rfl (ci := 2) (k := 0) rfl hN.mgc rfl ?_
      refine ar_iconst 42 (v := 3) d_53_41 rfl (by decide) ?_
      refine ar_icmp_ne 162 45 d_53_42 (by decide) rfl (fun c4 => ?_) (fun c4 => ?_)
      · have hS9 : AS s0 n nn gg C f q u b h0 h E TK Q ms := ⟨hF, hA, hN, hf, hn, hs, hp0⟩
        exact ar_ret d_53_162 rfl (⟨rfl, Or.inr (Or.inl ⟨fun z => c2 z.2, fun z => c4 z.1, hS9⟩)⟩)
      · refine ar_aload_n 46 d_53_45 rfl rfl ?_
        refine ar_getf 49 d_53_46 rfl (ci := 2) (k := 5) rfl hN.mgc rfl ?_
        refine ar_aload_n 50 d_53_49 rfl rfl ?_
        refine ar_getf 53 d_53_50 rfl (ci := 4) (k := 9) rfl (hF.at 3 rfl) rfl ?_
        refine ar_icmp_ne 162 56 d_53_53 (by decide) rfl (fun c5 => ?_) (fun c5 => ?_)
        · have hS9 : AS s0 n nn gg C f q u b h0 h E TK Q ms := ⟨hF, hA, hN, hf, hn, hs, hp0⟩
          exact ar_ret d_53_162 rfl (⟨rfl, Or.inr (Or.inl ⟨fun z => c2 z.2, fun z => c5 z.2.1, hS9⟩)⟩)
        · refine ar_aload_n 57 d_53_56 rfl rfl ?_
          refine ar_getf 60 d_53_57 rfl (ci := 4) (k := 9) rfl (hF.at 3 rfl) rfl ?_
          refine ar_top (x' := nI he) (e9) ?_
          refine ar_aload_n 61 d_53_60 rfl rfl ?_
          refine ar_getf 64 d_53_61 rfl (ci := 4) (k := 8) rfl (hF.at 3 rfl) rfl ?_
          refine ar_top (x' := nI bg) (e8) ?_
          refine ar_icmp_ge 162 67 d_53_64 (by decide) rfl (fun c6 => ?_) (fun c6 => ?_)
          · have hS9 : AS s0 n nn gg C f q u b h0 h E TK Q ms := ⟨hF, hA, hN, hf, hn, hs, hp0⟩
            exact ar_ret d_53_162 rfl (⟨rfl, Or.inr (Or.inl ⟨fun z => c2 z.2, fun z => absurd z.2.2 (Nat.not_lt.mpr ((nI_leI (by omega) (by omega)).mp c6)), hS9⟩)⟩)
          · have hlt : he < bg := Nat.lt_of_not_le (fun z => c6 (nI_le z (by omega)))
            have h3 := Decidable.not_not.mp c4
            obtain ⟨c, hc, ec⟩ := hm3 h3
            have haj : he % 24 < 24 := Nat.mod_lt _ (by omega)
            refine ar_aload_n 68 d_53_67 rfl rfl ?_
            refine ar_getf 71 d_53_68 rfl (ci := 4) (k := 6) rfl (hF.at 3 rfl) rfl ?_
            refine ar_aload_n 72 d_53_71 rfl rfl ?_
            refine ar_getf 75 d_53_72 rfl (ci := 4) (k := 9) rfl (hF.at 3 rfl) rfl ?_
            refine ar_top (x' := nI he) (e9) ?_
            refine ar_aload_n 76 d_53_75 rfl rfl ?_
            refine ar_getf 79 d_53_76 rfl (ci := 4) (k := 6) rfl (hF.at 3 rfl) rfl ?_
            refine ar_alen 80 d_53_79 rfl (hF.at 7 rfl) (by decide) ?_
            refine ar_top (x' := 24) (rfl) ?_
            refine ar_irem 81 d_53_80 rfl (by decide) ?_
            refine ar_top (x' := nI (he % 24)) (pk_rem (d := 24) (by omega) (by omega) (by omega)) ?_
            refine ar_aald 82 d_53_81 rfl (hF.at 7 rfl) rfl (vin (by omega) (by omega)) ?_
            refine ar_tv (v' := .ref (n + 272 + 2 * (he % 24))) (akr haj) ?_
            replace hF : ax_hs h [(n + 272 + 2 * (he % 24), .inr (5, [.int ((Q (he % 24)).1 0), .int ((Q (he % 24)).1 1), .int ((Q (he % 24)).1 2), .int ((Q (he % 24)).1 3), .int ((Q (he % 24)).1 4), .int ((Q (he % 24)).1 5), .int ((Q (he % 24)).1 6), .ref (n + 272 + 2 * (he % 24) + 1)])), (n + 272 + 2 * (he % 24) + 1, .inl (0, 612, .inl ((Q (he % 24)).2))), cSt s0 n E, cRk n nn gg C, cOr n nn gg f, cAs n E, cEr n 5 512 E, cEr n 6 100 E, cEr n 7 2 E, cAk n, cEr n 9 512 E, cNa n nn, cEr n 0 48 E, cEr n 1 961 E, cTs n gg E TK, cEr n 59 48 E, cEr n 60 48 E, cEr n 61 48 E, cEr n 62 2400 E, cEr n 63 512 E, cEr n 64 961 E, cEr n 65 961 E] := hF.asc (farK (n := n) (s0 := s0) rfl hsn) haj (hA (he % 24) haj)
            replace hA : AKX h n Q (he % 24) := hA.x
            refine ar_astore_n 83 [(0, .ref (n + 266)), (1, .ref (n + 1 + 1 + 2 * q)), (2, .ref (n + 272 + 2 * (he % 24)))] d_53_82 rfl (by decide) rfl ?_
            refine ar_aload_n 84 d_53_83 rfl rfl ?_
            refine ar_aload_n 85 d_53_84 rfl rfl ?_
            refine ar_getf 88 d_53_85 rfl (ci := 2) (k := 7) rfl hN.mgc rfl ?_
            refine ar_putf 91 [.int ((Q (he % 24)).1 0), .int ((Q (he % 24)).1 1), .int ((Q (he % 24)).1 2), .int ((Q (he % 24)).1 3), .int ((Q (he % 24)).1 4), .int ((Q (he % 24)).1 5), .int (u 7), .ref (n + 272 + 2 * (he % 24) + 1)] d_53_88 rfl (ci := 5) (k := 6) rfl rfl (hF.at 0 rfl) (Nat.le_of_ble_eq_true rfl) rfl rfl rfl ?_
            replace hF : ax_hs (ax_put h (n + 272 + 2 * (he % 24)) (.inr (5, [.int ((Q (he % 24)).1 0), .int ((Q (he % 24)).1 1), .int ((Q (he % 24)).1 2), .int ((Q (he % 24)).1 3), .int ((Q (he % 24)).1 4), .int ((Q (he % 24)).1 5), .int (u 7), .ref (n + 272 + 2 * (he % 24) + 1)]))) [(n + 272 + 2 * (he % 24), .inr (5, [.int ((Q (he % 24)).1 0), .int ((Q (he % 24)).1 1), .int ((Q (he % 24)).1 2), .int ((Q (he % 24)).1 3), .int ((Q (he % 24)).1 4), .int ((Q (he % 24)).1 5), .int (u 7), .ref (n + 272 + 2 * (he % 24) + 1)])), (n + 272 + 2 * (he % 24) + 1, .inl (0, 612, .inl ((Q (he % 24)).2))), cSt s0 n E, cRk n nn gg C, cOr n nn gg f, cAs n E, cEr n 5 512 E, cEr n 6 100 E, cEr n 7 2 E, cAk n, cEr n 9 512 E, cNa n nn, cEr n 0 48 E, cEr n 1 961 E, cTs n gg E TK, cEr n 59 48 E, cEr n 60 48 E, cEr n 61 48 E, cEr n 62 2400 E, cEr n 63 512 E, cEr n 64 961 E, cEr n 65 961 E] := hF.put 0 _ rfl rfl
            replace hf := hf.put (a := n + 272 + 2 * (he % 24)) (c := .inr (5, [.int ((Q (he % 24)).1 0), .int ((Q (he % 24)).1 1), .int ((Q (he % 24)).1 2), .int ((Q (he % 24)).1 3), .int ((Q (he % 24)).1 4), .int ((Q (he % 24)).1 5), .int (u 7), .ref (n + 272 + 2 * (he % 24) + 1)])) (Or.inr (by omega))
            replace hN := hN.put (a := n + 272 + 2 * (he % 24)) (c := .inr (5, [.int ((Q (he % 24)).1 0), .int ((Q (he % 24)).1 1), .int ((Q (he % 24)).1 2), .int ((Q (he % 24)).1 3), .int ((Q (he % 24)).1 4), .int ((Q (he % 24)).1 5), .int (u 7), .ref (n + 272 + 2 * (he % 24) + 1)])) (by omega)
            replace hA := hA.put (a := n + 272 + 2 * (he % 24)) (c := .inr (5, [.int ((Q (he % 24)).1 0), .int ((Q (he % 24)).1 1), .int ((Q (he % 24)).1 2), .int ((Q (he % 24)).1 3), .int ((Q (he % 24)).1 4), .int ((Q (he % 24)).1 5), .int (u 7), .ref (n + 272 + 2 * (he % 24) + 1)])) (by omega)
            replace hn : (ax_put h (n + 272 + 2 * (he % 24)) (.inr (5, [.int ((Q (he % 24)).1 0), .int ((Q (he % 24)).1 1), .int ((Q (he % 24)).1 2), .int ((Q (he % 24)).1 3), .int ((Q (he % 24)).1 4), .int ((Q (he % 24)).1 5), .int (u 7), .ref (n + 272 + 2 * (he % 24) + 1)]))).1 = h0.1 := hn
            replace hs : (ax_put h (n + 272 + 2 * (he % 24)) (.inr (5, [.int ((Q (he % 24)).1 0), .int ((Q (he % 24)).1 1), .int ((Q (he % 24)).1 2), .int ((Q (he % 24)).1 3), .int ((Q (he % 24)).1 4), .int ((Q (he % 24)).1 5), .int (u 7), .ref (n + 272 + 2 * (he % 24) + 1)]))).2.1 = h0.2.1 := hs
            generalize ax_put h (n + 272 + 2 * (he % 24)) (.inr (5, [.int ((Q (he % 24)).1 0), .int ((Q (he % 24)).1 1), .int ((Q (he % 24)).1 2), .int ((Q (he % 24)).1 3), .int ((Q (he % 24)).1 4), .int ((Q (he % 24)).1 5), .int (u 7), .ref (n + 272 + 2 * (he % 24) + 1)])) = hp_11 at hF hf hA hN hn hs ⊢
            refine ar_aload_n 92 d_53_91 rfl rfl ?_
            refine ar_getf 95 d_53_92 rfl (ci := 2) (k := 8) rfl hN.mgc rfl ?_
            refine ar_iconst 96 (v := 0) d_53_95 rfl (by decide) ?_
            refine ar_aload_n 97 d_53_96 rfl rfl ?_
            refine ar_getf 100 d_53_97 rfl (ci := 5) (k := 7) rfl (hF.at 0 rfl) rfl ?_
            refine ar_bipush 102 (v := 100) d_53_100 rfl (by decide) ?_
            refine ar_aload_n 103 d_53_102 rfl rfl ?_
            refine ar_getf 106 d_53_103 rfl (ci := 2) (k := 7) rfl hN.mgc rfl ?_
            refine ar_top (x' := nI c) (ec) ?_
            refine ar_iconst 107 (v := 3) d_53_106 rfl (by decide) ?_
            refine ar_iadd 108 d_53_107 rfl ?_
            refine ar_top (x' := nI (c + 3)) (nI_add c 3) ?_
            refine ar_iconst 109 (v := 4) d_53_108 rfl (by decide) ?_
            refine ar_idiv 110 d_53_109 rfl (by decide) ?_
            refine ar_top (x' := nI ((c + 3) / 4)) (pk_div (d := 4) (by omega) (by omega) (by omega)) ?_
            refine ar_copy 113 d_53_110 rfl rfl (by omega) (by show 0 + (nativeFrameWords "java/lang/System" "arraycopy" 5 + 11) ≤ lo; rw [nfw_copy]; omega) hN.mbc (hF.at 1 rfl) (by decide) (by decide) (nI_pos (by omega)) (by rw [nI_clamp (by omega)]; show 0 + (c + 3) / 4 ≤ 617; omega) (by rw [nI_clamp (by omega)]; show 100 + (c + 3) / 4 ≤ 612; omega) ?_
            replace hF : ax_hs (ax_put hp_11 (n + 272 + 2 * (he % 24) + 1) (.inl (0, 612, .inl (va_cpy b ((Q (he % 24)).2) ((0 : Int32).toNatClampNeg) ((100 : Int32).toNatClampNeg) ((nI ((c + 3) / 4)).toNatClampNeg))))) [(n + 272 + 2 * (he % 24), .inr (5, [.int ((Q (he % 24)).1 0), .int ((Q (he % 24)).1 1), .int ((Q (he % 24)).1 2), .int ((Q (he % 24)).1 3), .int ((Q (he % 24)).1 4), .int ((Q (he % 24)).1 5), .int (u 7), .ref (n + 272 + 2 * (he % 24) + 1)])), (n + 272 + 2 * (he % 24) + 1, .inl (0, 612, .inl (va_cpy b ((Q (he % 24)).2) ((0 : Int32).toNatClampNeg) ((100 : Int32).toNatClampNeg) ((nI ((c + 3) / 4)).toNatClampNeg)))), cSt s0 n E, cRk n nn gg C, cOr n nn gg f, cAs n E, cEr n 5 512 E, cEr n 6 100 E, cEr n 7 2 E, cAk n, cEr n 9 512 E, cNa n nn, cEr n 0 48 E, cEr n 1 961 E, cTs n gg E TK, cEr n 59 48 E, cEr n 60 48 E, cEr n 61 48 E, cEr n 62 2400 E, cEr n 63 512 E, cEr n 64 961 E, cEr n 65 961 E] := hF.put 1 _ rfl rfl
            replace hf := hf.put (a := n + 272 + 2 * (he % 24) + 1) (c := .inl (0, 612, .inl (va_cpy b ((Q (he % 24)).2) ((0 : Int32).toNatClampNeg) ((100 : Int32).toNatClampNeg) ((nI ((c + 3) / 4)).toNatClampNeg)))) (Or.inr (by omega))
            replace hN := hN.put (a := n + 272 + 2 * (he % 24) + 1) (c := .inl (0, 612, .inl (va_cpy b ((Q (he % 24)).2) ((0 : Int32).toNatClampNeg) ((100 : Int32).toNatClampNeg) ((nI ((c + 3) / 4)).toNatClampNeg)))) (by omega)
            replace hA := hA.put (a := n + 272 + 2 * (he % 24) + 1) (c := .inl (0, 612, .inl (va_cpy b ((Q (he % 24)).2) ((0 : Int32).toNatClampNeg) ((100 : Int32).toNatClampNeg) ((nI ((c + 3) / 4)).toNatClampNeg)))) (by omega)
            replace hn : (ax_put hp_11 (n + 272 + 2 * (he % 24) + 1) (.inl (0, 612, .inl (va_cpy b ((Q (he % 24)).2) ((0 : Int32).toNatClampNeg) ((100 : Int32).toNatClampNeg) ((nI ((c + 3) / 4)).toNatClampNeg))))).1 = h0.1 := hn
            replace hs : (ax_put hp_11 (n + 272 + 2 * (he % 24) + 1) (.inl (0, 612, .inl (va_cpy b ((Q (he % 24)).2) ((0 : Int32).toNatClampNeg) ((100 : Int32).toNatClampNeg) ((nI ((c + 3) / 4)).toNatClampNeg))))).2.1 = h0.2.1 := hs
            generalize ax_put hp_11 (n + 272 + 2 * (he % 24) + 1) (.inl (0, 612, .inl (va_cpy b ((Q (he % 24)).2) ((0 : Int32).toNatClampNeg) ((100 : Int32).toNatClampNeg) ((nI ((c + 3) / 4)).toNatClampNeg)))) = hp_12 at hF hf hA hN hn hs ⊢
            replace hF : ax_hs hp_12 [(n + 272 + 2 * (he % 24), .inr (5, [.int ((Q (he % 24)).1 0), .int ((Q (he % 24)).1 1), .int ((Q (he % 24)).1 2), .int ((Q (he % 24)).1 3), .int ((Q (he % 24)).1 4), .int ((Q (he % 24)).1 5), .int (u 7), .ref (n + 272 + 2 * (he % 24) + 1)])), (n + 272 + 2 * (he % 24) + 1, .inl (0, 612, .inl (va_cpy b (Q (he % 24)).2 0 100 (((u 7).toNatClampNeg + 3) / 4)))), cSt s0 n E, cRk n nn gg C, cOr n nn gg f, cAs n E, cEr n 5 512 E, cEr n 6 100 E, cEr n 7 2 E, cAk n, cEr n 9 512 E, cNa n nn, cEr n 0 48 E, cEr n 1 961 E, cTs n gg E TK, cEr n 59 48 E, cEr n 60 48 E, cEr n 61 48 E, cEr n 62 2400 E, cEr n 63 512 E, cEr n 64 961 E, cEr n 65 961 E] := by
              have e := hF
              rw [show (0 : Int32).toNatClampNeg = 0 by decide, show (100 : Int32).toNatClampNeg = 100 by decide, nI_clamp (show (c + 3) / 4 < 2 ^ 31 by omega), show (c + 3) / 4 = ((u 7).toNatClampNeg + 3) / 4 by rw [ec, nI_clamp (show c < 2 ^ 31 by omega)]] at e
              exact e
            refine ar_aload_n 114 d_53_113 rfl rfl ?_
            refine ar_getf 117 d_53_114 rfl (ci := 4) (k := 7) rfl (hF.at 5 rfl) rfl ?_
            refine ar_aload_n 118 d_53_117 rfl rfl ?_
            refine ar_getf 121 d_53_118 rfl (ci := 4) (k := 9) rfl (hF.at 5 rfl) rfl ?_
            refine ar_top (x' := nI he) (e9) ?_
            refine ar_aload_n 122 d_53_121 rfl rfl ?_
            refine ar_getf 125 d_53_122 rfl (ci := 2) (k := 6) rfl hN.mgc rfl ?_
            refine ar_iast 126 d_53_125 rfl (hF.at 10 rfl) (vin (by omega) (by omega)) ?_
            replace hF : ax_hs (ax_put hp_12 (n + 271) (.inl (0, 512, .inl (upd (E 9) (nI he).toNatClampNeg (u 6))))) [(n + 272 + 2 * (he % 24), .inr (5, [.int ((Q (he % 24)).1 0), .int ((Q (he % 24)).1 1), .int ((Q (he % 24)).1 2), .int ((Q (he % 24)).1 3), .int ((Q (he % 24)).1 4), .int ((Q (he % 24)).1 5), .int (u 7), .ref (n + 272 + 2 * (he % 24) + 1)])), (n + 272 + 2 * (he % 24) + 1, .inl (0, 612, .inl (va_cpy b (Q (he % 24)).2 0 100 (((u 7).toNatClampNeg + 3) / 4)))), cSt s0 n E, cRk n nn gg C, cOr n nn gg f, cAs n E, cEr n 5 512 E, cEr n 6 100 E, cEr n 7 2 E, cAk n, (n + 271, .inl (0, 512, .inl (upd (E 9) (nI he).toNatClampNeg (u 6)))), cNa n nn, cEr n 0 48 E, cEr n 1 961 E, cTs n gg E TK, cEr n 59 48 E, cEr n 60 48 E, cEr n 61 48 E, cEr n 62 2400 E, cEr n 63 512 E, cEr n 64 961 E, cEr n 65 961 E] := hF.put 10 _ rfl rfl
            replace hf := hf.put (a := n + 271) (c := .inl (0, 512, .inl (upd (E 9) (nI he).toNatClampNeg (u 6)))) (Or.inr (by omega))
            replace hN := hN.put (a := n + 271) (c := .inl (0, 512, .inl (upd (E 9) (nI he).toNatClampNeg (u 6)))) (by omega)
            replace hA := hA.put (a := n + 271) (c := .inl (0, 512, .inl (upd (E 9) (nI he).toNatClampNeg (u 6)))) (by omega)
            replace hn : (ax_put hp_12 (n + 271) (.inl (0, 512, .inl (upd (E 9) (nI he).toNatClampNeg (u 6))))).1 = h0.1 := hn
            replace hs : (ax_put hp_12 (n + 271) (.inl (0, 512, .inl (upd (E 9) (nI he).toNatClampNeg (u 6))))).2.1 = h0.2.1 := hs
            generalize ax_put hp_12 (n + 271) (.inl (0, 512, .inl (upd (E 9) (nI he).toNatClampNeg (u 6)))) = hp_13 at hF hf hA hN hn hs ⊢
            refine ar_aload_n 127 d_53_126 rfl rfl ?_
            replace hF : ax_hs hp_13 [(n + 272 + 2 * (he % 24), .inr (5, [.int ((Q (he % 24)).1 0), .int ((Q (he % 24)).1 1), .int ((Q (he % 24)).1 2), .int ((Q (he % 24)).1 3), .int ((Q (he % 24)).1 4), .int ((Q (he % 24)).1 5), .int (u 7), .ref (n + 272 + 2 * (he % 24) + 1)])), (n + 272 + 2 * (he % 24) + 1, .inl (0, 612, .inl (va_cpy b (Q (he % 24)).2 0 100 (((u 7).toNatClampNeg + 3) / 4)))), cSt s0 n E, cRk n nn gg C, cOr n nn gg f, cAs n E, cEr n 5 512 E, cEr n 6 100 E, cEr n 7 2 E, cAk n, (n + 271, .inl (0, 512, .inl (upd (E 9) he (u 6)))), cNa n nn, cEr n 0 48 E, cEr n 1 961 E, cTs n gg E TK, cEr n 59 48 E, cEr n 60 48 E, cEr n 61 48 E, cEr n 62 2400 E, cEr n 63 512 E, cEr n 64 961 E, cEr n 65 961 E] := by
              have e := hF
              rw [nI_clamp (show he < 2 ^ 31 by omega)] at e
              exact e
            refine ar_call (r := []) (na := 0) (kd := 0) (cm := 54) (fr2 := fr - 1) (lo2 := lo - 20) 130 d_53_127 (ar_hoV (as := []) rfl rfl rfl (hF.at 0 rfl)) rfl (by omega) (show lo - 20 + (19 + 1) = lo by omega) (Nat.le_of_ble_eq_true rfl) (Nat.le_of_ble_eq_true rfl) (c_54 (hF.at 0 rfl)) ?_
            intro v hh hq
            obtain ⟨rfl, ehh⟩ := hq
            rw [ehh]
            clear ehh
            by_cases hch : (Q (he % 24)).1 0 = 4 ∨ (Q (he % 24)).1 0 = 8 ∨ (Q (he % 24)).1 0 = 9
            · refine ar_top (x' := 0) (if_pos hch) ?_
              refine ar_if_eq 148 133 d_53_130 (by decide) rfl (fun _ => ?_) (fun c => absurd (by decide) c)
              refine ar_aload_n 149 d_53_148 rfl rfl ?_
              refine ar_dup 150 d_53_149 rfl rfl ?_
              refine ar_getf 153 d_53_150 rfl (ci := 4) (k := 9) rfl (hF.at 5 rfl) rfl ?_
              refine ar_top (x' := nI he) (e9) ?_
              refine ar_iconst 154 (v := 1) d_53_153 rfl (by decide) ?_
              refine ar_iadd 155 d_53_154 rfl ?_
              refine ar_top (x' := nI (he + 1)) (nI_1 he) ?_
              refine ar_putf 158 [.ref (n + 264), .ref n, .ref (n + 267), .int (E 4 3), .ref (n + 268), .ref (n + 269), .ref (n + 270), .ref (n + 271), .int (E 4 8), .int (nI (he + 1)), .int (E 4 10), .int (E 4 11), .int (E 4 12), .int (E 4 13), .int (E 4 14), .int (E 4 15)] d_53_155 rfl (ci := 4) (k := 9) rfl rfl (hF.at 5 rfl) (Nat.le_of_ble_eq_true rfl) rfl rfl rfl ?_
              replace hF : ax_hs (ax_put hp_13 (n + 266) (.inr (4, [.ref (n + 264), .ref n, .ref (n + 267), .int (E 4 3), .ref (n + 268), .ref (n + 269), .ref (n + 270), .ref (n + 271), .int (E 4 8), .int (nI (he + 1)), .int (E 4 10), .int (E 4 11), .int (E 4 12), .int (E 4 13), .int (E 4 14), .int (E 4 15)]))) [(n + 272 + 2 * (he % 24), .inr (5, [.int ((Q (he % 24)).1 0), .int ((Q (he % 24)).1 1), .int ((Q (he % 24)).1 2), .int ((Q (he % 24)).1 3), .int ((Q (he % 24)).1 4), .int ((Q (he % 24)).1 5), .int (u 7), .ref (n + 272 + 2 * (he % 24) + 1)])), (n + 272 + 2 * (he % 24) + 1, .inl (0, 612, .inl (va_cpy b (Q (he % 24)).2 0 100 (((u 7).toNatClampNeg + 3) / 4)))), cSt s0 n E, cRk n nn gg C, cOr n nn gg f, (n + 266, .inr (4, [.ref (n + 264), .ref n, .ref (n + 267), .int (E 4 3), .ref (n + 268), .ref (n + 269), .ref (n + 270), .ref (n + 271), .int (E 4 8), .int (nI (he + 1)), .int (E 4 10), .int (E 4 11), .int (E 4 12), .int (E 4 13), .int (E 4 14), .int (E 4 15)])), cEr n 5 512 E, cEr n 6 100 E, cEr n 7 2 E, cAk n, (n + 271, .inl (0, 512, .inl (upd (E 9) he (u 6)))), cNa n nn, cEr n 0 48 E, cEr n 1 961 E, cTs n gg E TK, cEr n 59 48 E, cEr n 60 48 E, cEr n 61 48 E, cEr n 62 2400 E, cEr n 63 512 E, cEr n 64 961 E, cEr n 65 961 E] := hF.put 5 _ rfl rfl
              replace hf := hf.put (a := n + 266) (c := .inr (4, [.ref (n + 264), .ref n, .ref (n + 267), .int (E 4 3), .ref (n + 268), .ref (n + 269), .ref (n + 270), .ref (n + 271), .int (E 4 8), .int (nI (he + 1)), .int (E 4 10), .int (E 4 11), .int (E 4 12), .int (E 4 13), .int (E 4 14), .int (E 4 15)])) (Or.inr (by omega))
              replace hN := hN.put (a := n + 266) (c := .inr (4, [.ref (n + 264), .ref n, .ref (n + 267), .int (E 4 3), .ref (n + 268), .ref (n + 269), .ref (n + 270), .ref (n + 271), .int (E 4 8), .int (nI (he + 1)), .int (E 4 10), .int (E 4 11), .int (E 4 12), .int (E 4 13), .int (E 4 14), .int (E 4 15)])) (by omega)
              replace hA := hA.put (a := n + 266) (c := .inr (4, [.ref (n + 264), .ref n, .ref (n + 267), .int (E 4 3), .ref (n + 268), .ref (n + 269), .ref (n + 270), .ref (n + 271), .int (E 4 8), .int (nI (he + 1)), .int (E 4 10), .int (E 4 11), .int (E 4 12), .int (E 4 13), .int (E 4 14), .int (E 4 15)])) (by omega)
              replace hn : (ax_put hp_13 (n + 266) (.inr (4, [.ref (n + 264), .ref n, .ref (n + 267), .int (E 4 3), .ref (n + 268), .ref (n + 269), .ref (n + 270), .ref (n + 271), .int (E 4 8), .int (nI (he + 1)), .int (E 4 10), .int (E 4 11), .int (E 4 12), .int (E 4 13), .int (E 4 14), .int (E 4 15)]))).1 = h0.1 := hn
              replace hs : (ax_put hp_13 (n + 266) (.inr (4, [.ref (n + 264), .ref n, .ref (n + 267), .int (E 4 3), .ref (n + 268), .ref (n + 269), .ref (n + 270), .ref (n + 271), .int (E 4 8), .int (nI (he + 1)), .int (E 4 10), .int (E 4 11), .int (E 4 12), .int (E 4 13), .int (E 4 14), .int (E 4 15)]))).2.1 = h0.2.1 := hs
              generalize ax_put hp_13 (n + 266) (.inr (4, [.ref (n + 264), .ref n, .ref (n + 267), .int (E 4 3), .ref (n + 268), .ref (n + 269), .ref (n + 270), .ref (n + 271), .int (E 4 8), .int (nI (he + 1)), .int (E 4 10), .int (E 4 11), .int (E 4 12), .int (E 4 13), .int (E 4 14), .int (E 4 15)])) = hp_14 at hF hf hA hN hn hs ⊢
              refine ar_aload_n 159 d_53_158 rfl rfl ?_
              replace hA : AKS hp_14 n (va_up Q (he % 24) (upd ((Q (he % 24)).1) 6 (u 7), va_cpy b (Q (he % 24)).2 0 100 (((u 7).toNatClampNeg + 3) / 4))) := hA.back haj ⟨hF.at 0 rfl, hF.at 1 rfl⟩
              replace hF := hF.sub (F' := [cSt s0 n E, cRk n nn gg C, cOr n nn gg f, (n + 266, .inr (4, [.ref (n + 264), .ref n, .ref (n + 267), .int (E 4 3), .ref (n + 268), .ref (n + 269), .ref (n + 270), .ref (n + 271), .int (E 4 8), .int (nI (he + 1)), .int (E 4 10), .int (E 4 11), .int (E 4 12), .int (E 4 13), .int (E 4 14), .int (E 4 15)])), cEr n 5 512 E, cEr n 6 100 E, cEr n 7 2 E, cAk n, (n + 271, .inl (0, 512, .inl (upd (E 9) he (u 6)))), cNa n nn, cEr n 0 48 E, cEr n 1 961 E, cTs n gg E TK, cEr n 59 48 E, cEr n 60 48 E, cEr n 61 48 E, cEr n 62 2400 E, cEr n 63 512 E, cEr n 64 961 E, cEr n 65 961 E]) [2, 3, 4, 5, 6, 7, 8, 9, 10, 11, 12, 13, 14, 15, 16, 17, 18, 19, 20, 21] rfl rfl
              have eE : va_up (va_up E 4 (upd (E 4) 9 (nI (he + 1)))) 9 (upd (E 9) he (u 6)) = heE E ((Q (he % 24)).1 0) he (u 6) := by
                unfold heE
                rw [if_pos (Or.inl hch)]
              have hS1 : AS s0 n nn gg C f q u b h0 hp_14 (va_up (va_up E 4 (upd (E 4) 9 (nI (he + 1)))) 9 (upd (E 9) he (u 6))) TK (va_up Q (he % 24) (upd ((Q (he % 24)).1) 6 (u 7), va_cpy b (Q (he % 24)).2 0 100 (((u 7).toNatClampNeg + 3) / 4))) ms := ⟨hF, hA, hN, hf, hn, hs, hp0⟩
              rw [eE] at hS1
              clear hF hA hN hf hn hs hp0
              obtain ⟨hF, hA, hN, hf, hn, hs, hp0⟩ := hS1
              replace hF : ax_hs hp_14 [cSt s0 n (heE E ((Q (he % 24)).1 0) he (u 6)), cRk n nn gg C, cOr n nn gg f, cAs n (heE E ((Q (he % 24)).1 0) he (u 6)), cEr n 5 512 (heE E ((Q (he % 24)).1 0) he (u 6)), cEr n 6 100 (heE E ((Q (he % 24)).1 0) he (u 6)), cEr n 7 2 (heE E ((Q (he % 24)).1 0) he (u 6)), cAk n, cEr n 9 512 (heE E ((Q (he % 24)).1 0) he (u 6)), cNa n nn, cEr n 0 48 (heE E ((Q (he % 24)).1 0) he (u 6)), cEr n 1 961 (heE E ((Q (he % 24)).1 0) he (u 6)), cTs n gg (heE E ((Q (he % 24)).1 0) he (u 6)) TK, cEr n 59 48 (heE E ((Q (he % 24)).1 0) he (u 6)), cEr n 60 48 (heE E ((Q (he % 24)).1 0) he (u 6)), cEr n 61 48 (heE E ((Q (he % 24)).1 0) he (u 6)), cEr n 62 2400 (heE E ((Q (he % 24)).1 0) he (u 6)), cEr n 63 512 (heE E ((Q (he % 24)).1 0) he (u 6)), cEr n 64 961 (heE E ((Q (he % 24)).1 0) he (u 6)), cEr n 65 961 (heE E ((Q (he % 24)).1 0) he (u 6))] := hF
              replace hA : AKS hp_14 n (va_up Q (he % 24) (heQ (Q (he % 24)) u b)) := hA
              have hS1 : AS s0 n nn gg C f q u b h0 hp_14 (heE E ((Q (he % 24)).1 0) he (u 6)) TK (va_up Q (he % 24) (heQ (Q (he % 24)) u b)) ms := ⟨hF, hA, hN, hf, hn, hs, hp0⟩
              refine ar_call (r := []) (na := 0) (kd := 0) (cm := 47) (fr2 := fr - 1) (lo2 := lo - 23) 162 d_53_159 (ar_hoV (as := []) rfl rfl rfl (hF.at 3 rfl)) rfl (by omega) (show lo - 23 + (19 + 4) = lo by omega) (Nat.le_of_ble_eq_true rfl) (Nat.le_of_ble_eq_true rfl) (ek_47 (by omega) (by omega) hC0 hS1 heE_9 (heE_8.trans e8) (by omega) hb (fun z => by rw [va_up_n _ _ (show ¬ (he + 1) % 24 = he % 24 by omega)]; exact hL2 z)) ?_
              intro v hp_15 hq
              obtain ⟨rfl, ms15, hS2, hr15⟩ := hq
              clear hS1 hF hA hN hf hn hs hp0
              obtain ⟨hF, hA, hN, hf, hn, hs, hp0⟩ := hS2
              replace hF : ax_hs hp_15 [cSt s0 n (heE E ((Q (he % 24)).1 0) he (u 6)), cRk n nn gg C, cOr n nn gg f, cAs n (heE E ((Q (he % 24)).1 0) he (u 6)), cEr n 5 512 (heE E ((Q (he % 24)).1 0) he (u 6)), cEr n 6 100 (heE E ((Q (he % 24)).1 0) he (u 6)), cEr n 7 2 (heE E ((Q (he % 24)).1 0) he (u 6)), cAk n, cEr n 9 512 (heE E ((Q (he % 24)).1 0) he (u 6)), cNa n nn, cEr n 0 48 (heE E ((Q (he % 24)).1 0) he (u 6)), cEr n 1 961 (heE E ((Q (he % 24)).1 0) he (u 6)), cTs n gg (heE E ((Q (he % 24)).1 0) he (u 6)) TK, cEr n 59 48 (heE E ((Q (he % 24)).1 0) he (u 6)), cEr n 60 48 (heE E ((Q (he % 24)).1 0) he (u 6)), cEr n 61 48 (heE E ((Q (he % 24)).1 0) he (u 6)), cEr n 62 2400 (heE E ((Q (he % 24)).1 0) he (u 6)), cEr n 63 512 (heE E ((Q (he % 24)).1 0) he (u 6)), cEr n 64 961 (heE E ((Q (he % 24)).1 0) he (u 6)), cEr n 65 961 (heE E ((Q (he % 24)).1 0) he (u 6))] := hF
              have hS9 : AS s0 n nn gg C f q u b h0 hp_15 (heE E ((Q (he % 24)).1 0) he (u 6)) TK (va_up Q (he % 24) (heQ (Q (he % 24)) u b)) ms15 := ⟨hF, hA, hN, hf, hn, hs, hp0⟩
              exact ar_ret d_53_162 rfl (⟨rfl, Or.inr (Or.inr ⟨fun z => c2 z.2, h3, Decidable.not_not.mp c5, hlt, _, hS9, hr15⟩)⟩)
            · refine ar_top (x' := 1) (if_neg hch) ?_
              refine ar_if_eq 148 133 d_53_130 (by decide) rfl (fun c => absurd c (by decide)) (fun _ => ?_)
              refine ar_aload_n 134 d_53_133 rfl rfl ?_
              refine ar_getf 137 d_53_134 rfl (ci := 2) (k := 6) rfl hN.mgc rfl ?_
              refine ar_if_lt 148 140 d_53_137 (by decide) rfl (fun c7 => ?_) (fun c7 => ?_)
              · refine ar_aload_n 149 d_53_148 rfl rfl ?_
                refine ar_dup 150 d_53_149 rfl rfl ?_
                refine ar_getf 153 d_53_150 rfl (ci := 4) (k := 9) rfl (hF.at 5 rfl) rfl ?_
                refine ar_top (x' := nI he) (e9) ?_
                refine ar_iconst 154 (v := 1) d_53_153 rfl (by decide) ?_
                refine ar_iadd 155 d_53_154 rfl ?_
                refine ar_top (x' := nI (he + 1)) (nI_1 he) ?_
                refine ar_putf 158 [.ref (n + 264), .ref n, .ref (n + 267), .int (E 4 3), .ref (n + 268), .ref (n + 269), .ref (n + 270), .ref (n + 271), .int (E 4 8), .int (nI (he + 1)), .int (E 4 10), .int (E 4 11), .int (E 4 12), .int (E 4 13), .int (E 4 14), .int (E 4 15)] d_53_155 rfl (ci := 4) (k := 9) rfl rfl (hF.at 5 rfl) (Nat.le_of_ble_eq_true rfl) rfl rfl rfl ?_
                replace hF : ax_hs (ax_put hp_13 (n + 266) (.inr (4, [.ref (n + 264), .ref n, .ref (n + 267), .int (E 4 3), .ref (n + 268), .ref (n + 269), .ref (n + 270), .ref (n + 271), .int (E 4 8), .int (nI (he + 1)), .int (E 4 10), .int (E 4 11), .int (E 4 12), .int (E 4 13), .int (E 4 14), .int (E 4 15)]))) [(n + 272 + 2 * (he % 24), .inr (5, [.int ((Q (he % 24)).1 0), .int ((Q (he % 24)).1 1), .int ((Q (he % 24)).1 2), .int ((Q (he % 24)).1 3), .int ((Q (he % 24)).1 4), .int ((Q (he % 24)).1 5), .int (u 7), .ref (n + 272 + 2 * (he % 24) + 1)])), (n + 272 + 2 * (he % 24) + 1, .inl (0, 612, .inl (va_cpy b (Q (he % 24)).2 0 100 (((u 7).toNatClampNeg + 3) / 4)))), cSt s0 n E, cRk n nn gg C, cOr n nn gg f, (n + 266, .inr (4, [.ref (n + 264), .ref n, .ref (n + 267), .int (E 4 3), .ref (n + 268), .ref (n + 269), .ref (n + 270), .ref (n + 271), .int (E 4 8), .int (nI (he + 1)), .int (E 4 10), .int (E 4 11), .int (E 4 12), .int (E 4 13), .int (E 4 14), .int (E 4 15)])), cEr n 5 512 E, cEr n 6 100 E, cEr n 7 2 E, cAk n, (n + 271, .inl (0, 512, .inl (upd (E 9) he (u 6)))), cNa n nn, cEr n 0 48 E, cEr n 1 961 E, cTs n gg E TK, cEr n 59 48 E, cEr n 60 48 E, cEr n 61 48 E, cEr n 62 2400 E, cEr n 63 512 E, cEr n 64 961 E, cEr n 65 961 E] := hF.put 5 _ rfl rfl
                replace hf := hf.put (a := n + 266) (c := .inr (4, [.ref (n + 264), .ref n, .ref (n + 267), .int (E 4 3), .ref (n + 268), .ref (n + 269), .ref (n + 270), .ref (n + 271), .int (E 4 8), .int (nI (he + 1)), .int (E 4 10), .int (E 4 11), .int (E 4 12), .int (E 4 13), .int (E 4 14), .int (E 4 15)])) (Or.inr (by omega))
                replace hN := hN.put (a := n + 266) (c := .inr (4, [.ref (n + 264), .ref n, .ref (n + 267), .int (E 4 3), .ref (n + 268), .ref (n + 269), .ref (n + 270), .ref (n + 271), .int (E 4 8), .int (nI (he + 1)), .int (E 4 10), .int (E 4 11), .int (E 4 12), .int (E 4 13), .int (E 4 14), .int (E 4 15)])) (by omega)
                replace hA := hA.put (a := n + 266) (c := .inr (4, [.ref (n + 264), .ref n, .ref (n + 267), .int (E 4 3), .ref (n + 268), .ref (n + 269), .ref (n + 270), .ref (n + 271), .int (E 4 8), .int (nI (he + 1)), .int (E 4 10), .int (E 4 11), .int (E 4 12), .int (E 4 13), .int (E 4 14), .int (E 4 15)])) (by omega)
                replace hn : (ax_put hp_13 (n + 266) (.inr (4, [.ref (n + 264), .ref n, .ref (n + 267), .int (E 4 3), .ref (n + 268), .ref (n + 269), .ref (n + 270), .ref (n + 271), .int (E 4 8), .int (nI (he + 1)), .int (E 4 10), .int (E 4 11), .int (E 4 12), .int (E 4 13), .int (E 4 14), .int (E 4 15)]))).1 = h0.1 := hn
                replace hs : (ax_put hp_13 (n + 266) (.inr (4, [.ref (n + 264), .ref n, .ref (n + 267), .int (E 4 3), .ref (n + 268), .ref (n + 269), .ref (n + 270), .ref (n + 271), .int (E 4 8), .int (nI (he + 1)), .int (E 4 10), .int (E 4 11), .int (E 4 12), .int (E 4 13), .int (E 4 14), .int (E 4 15)]))).2.1 = h0.2.1 := hs
                generalize ax_put hp_13 (n + 266) (.inr (4, [.ref (n + 264), .ref n, .ref (n + 267), .int (E 4 3), .ref (n + 268), .ref (n + 269), .ref (n + 270), .ref (n + 271), .int (E 4 8), .int (nI (he + 1)), .int (E 4 10), .int (E 4 11), .int (E 4 12), .int (E 4 13), .int (E 4 14), .int (E 4 15)])) = hp_16 at hF hf hA hN hn hs ⊢
                refine ar_aload_n 159 d_53_158 rfl rfl ?_
                replace hA : AKS hp_16 n (va_up Q (he % 24) (upd ((Q (he % 24)).1) 6 (u 7), va_cpy b (Q (he % 24)).2 0 100 (((u 7).toNatClampNeg + 3) / 4))) := hA.back haj ⟨hF.at 0 rfl, hF.at 1 rfl⟩
                replace hF := hF.sub (F' := [cSt s0 n E, cRk n nn gg C, cOr n nn gg f, (n + 266, .inr (4, [.ref (n + 264), .ref n, .ref (n + 267), .int (E 4 3), .ref (n + 268), .ref (n + 269), .ref (n + 270), .ref (n + 271), .int (E 4 8), .int (nI (he + 1)), .int (E 4 10), .int (E 4 11), .int (E 4 12), .int (E 4 13), .int (E 4 14), .int (E 4 15)])), cEr n 5 512 E, cEr n 6 100 E, cEr n 7 2 E, cAk n, (n + 271, .inl (0, 512, .inl (upd (E 9) he (u 6)))), cNa n nn, cEr n 0 48 E, cEr n 1 961 E, cTs n gg E TK, cEr n 59 48 E, cEr n 60 48 E, cEr n 61 48 E, cEr n 62 2400 E, cEr n 63 512 E, cEr n 64 961 E, cEr n 65 961 E]) [2, 3, 4, 5, 6, 7, 8, 9, 10, 11, 12, 13, 14, 15, 16, 17, 18, 19, 20, 21] rfl rfl
                have eE : va_up (va_up E 4 (upd (E 4) 9 (nI (he + 1)))) 9 (upd (E 9) he (u 6)) = heE E ((Q (he % 24)).1 0) he (u 6) := by
                  unfold heE
                  rw [if_pos (Or.inr c7)]
                have hS1 : AS s0 n nn gg C f q u b h0 hp_16 (va_up (va_up E 4 (upd (E 4) 9 (nI (he + 1)))) 9 (upd (E 9) he (u 6))) TK (va_up Q (he % 24) (upd ((Q (he % 24)).1) 6 (u 7), va_cpy b (Q (he % 24)).2 0 100 (((u 7).toNatClampNeg + 3) / 4))) ms := ⟨hF, hA, hN, hf, hn, hs, hp0⟩
                rw [eE] at hS1
                clear hF hA hN hf hn hs hp0
                obtain ⟨hF, hA, hN, hf, hn, hs, hp0⟩ := hS1
                replace hF : ax_hs hp_16 [cSt s0 n (heE E ((Q (he % 24)).1 0) he (u 6)), cRk n nn gg C, cOr n nn gg f, cAs n (heE E ((Q (he % 24)).1 0) he (u 6)), cEr n 5 512 (heE E ((Q (he % 24)).1 0) he (u 6)), cEr n 6 100 (heE E ((Q (he % 24)).1 0) he (u 6)), cEr n 7 2 (heE E ((Q (he % 24)).1 0) he (u 6)), cAk n, cEr n 9 512 (heE E ((Q (he % 24)).1 0) he (u 6)), cNa n nn, cEr n 0 48 (heE E ((Q (he % 24)).1 0) he (u 6)), cEr n 1 961 (heE E ((Q (he % 24)).1 0) he (u 6)), cTs n gg (heE E ((Q (he % 24)).1 0) he (u 6)) TK, cEr n 59 48 (heE E ((Q (he % 24)).1 0) he (u 6)), cEr n 60 48 (heE E ((Q (he % 24)).1 0) he (u 6)), cEr n 61 48 (heE E ((Q (he % 24)).1 0) he (u 6)), cEr n 62 2400 (heE E ((Q (he % 24)).1 0) he (u 6)), cEr n 63 512 (heE E ((Q (he % 24)).1 0) he (u 6)), cEr n 64 961 (heE E ((Q (he % 24)).1 0) he (u 6)), cEr n 65 961 (heE E ((Q (he % 24)).1 0) he (u 6))] := hF
                replace hA : AKS hp_16 n (va_up Q (he % 24) (heQ (Q (he % 24)) u b)) := hA
                have hS1 : AS s0 n nn gg C f q u b h0 hp_16 (heE E ((Q (he % 24)).1 0) he (u 6)) TK (va_up Q (he % 24) (heQ (Q (he % 24)) u b)) ms := ⟨hF, hA, hN, hf, hn, hs, hp0⟩
                refine ar_call (r := []) (na := 0) (kd := 0) (cm := 47) (fr2 := fr - 1) (lo2 := lo - 23) 162 d_53_159 (ar_hoV (as := []) rfl rfl rfl (hF.at 3 rfl)) rfl (by omega) (show lo - 23 + (19 + 4) = lo by omega) (Nat.le_of_ble_eq_true rfl) (Nat.le_of_ble_eq_true rfl) (ek_47 (by omega) (by omega) hC0 hS1 heE_9 (heE_8.trans e8) (by omega) hb (fun z => by rw [va_up_n _ _ (show ¬ (he + 1) % 24 = he % 24 by omega)]; exact hL2 z)) ?_
                intro v hp_17 hq
                obtain ⟨rfl, ms17, hS2, hr17⟩ := hq
                clear hS1 hF hA hN hf hn hs hp0
                obtain ⟨hF, hA, hN, hf, hn, hs, hp0⟩ := hS2
                replace hF : ax_hs hp_17 [cSt s0 n (heE E ((Q (he % 24)).1 0) he (u 6)), cRk n nn gg C, cOr n nn gg f, cAs n (heE E ((Q (he % 24)).1 0) he (u 6)), cEr n 5 512 (heE E ((Q (he % 24)).1 0) he (u 6)), cEr n 6 100 (heE E ((Q (he % 24)).1 0) he (u 6)), cEr n 7 2 (heE E ((Q (he % 24)).1 0) he (u 6)), cAk n, cEr n 9 512 (heE E ((Q (he % 24)).1 0) he (u 6)), cNa n nn, cEr n 0 48 (heE E ((Q (he % 24)).1 0) he (u 6)), cEr n 1 961 (heE E ((Q (he % 24)).1 0) he (u 6)), cTs n gg (heE E ((Q (he % 24)).1 0) he (u 6)) TK, cEr n 59 48 (heE E ((Q (he % 24)).1 0) he (u 6)), cEr n 60 48 (heE E ((Q (he % 24)).1 0) he (u 6)), cEr n 61 48 (heE E ((Q (he % 24)).1 0) he (u 6)), cEr n 62 2400 (heE E ((Q (he % 24)).1 0) he (u 6)), cEr n 63 512 (heE E ((Q (he % 24)).1 0) he (u 6)), cEr n 64 961 (heE E ((Q (he % 24)).1 0) he (u 6)), cEr n 65 961 (heE E ((Q (he % 24)).1 0) he (u 6))] := hF
                have hS9 : AS s0 n nn gg C f q u b h0 hp_17 (heE E ((Q (he % 24)).1 0) he (u 6)) TK (va_up Q (he % 24) (heQ (Q (he % 24)) u b)) ms17 := ⟨hF, hA, hN, hf, hn, hs, hp0⟩
                exact ar_ret d_53_162 rfl (⟨rfl, Or.inr (Or.inr ⟨fun z => c2 z.2, h3, Decidable.not_not.mp c5, hlt, _, hS9, hr17⟩)⟩)
              · refine ar_aload_n 141 d_53_140 rfl rfl ?_
                refine ar_aload_n 142 d_53_141 rfl rfl ?_
                refine ar_getf 145 d_53_142 rfl (ci := 4) (k := 9) rfl (hF.at 5 rfl) rfl ?_
                refine ar_top (x' := nI he) (e9) ?_
                refine ar_putf 148 [.ref (n + 264), .ref n, .ref (n + 267), .int (E 4 3), .ref (n + 268), .ref (n + 269), .ref (n + 270), .ref (n + 271), .int (E 4 8), .int (E 4 9), .int (E 4 10), .int (E 4 11), .int (nI he), .int (E 4 13), .int (E 4 14), .int (E 4 15)] d_53_145 rfl (ci := 4) (k := 12) rfl rfl (hF.at 5 rfl) (Nat.le_of_ble_eq_true rfl) rfl rfl rfl ?_
                replace hF : ax_hs (ax_put hp_13 (n + 266) (.inr (4, [.ref (n + 264), .ref n, .ref (n + 267), .int (E 4 3), .ref (n + 268), .ref (n + 269), .ref (n + 270), .ref (n + 271), .int (E 4 8), .int (E 4 9), .int (E 4 10), .int (E 4 11), .int (nI he), .int (E 4 13), .int (E 4 14), .int (E 4 15)]))) [(n + 272 + 2 * (he % 24), .inr (5, [.int ((Q (he % 24)).1 0), .int ((Q (he % 24)).1 1), .int ((Q (he % 24)).1 2), .int ((Q (he % 24)).1 3), .int ((Q (he % 24)).1 4), .int ((Q (he % 24)).1 5), .int (u 7), .ref (n + 272 + 2 * (he % 24) + 1)])), (n + 272 + 2 * (he % 24) + 1, .inl (0, 612, .inl (va_cpy b (Q (he % 24)).2 0 100 (((u 7).toNatClampNeg + 3) / 4)))), cSt s0 n E, cRk n nn gg C, cOr n nn gg f, (n + 266, .inr (4, [.ref (n + 264), .ref n, .ref (n + 267), .int (E 4 3), .ref (n + 268), .ref (n + 269), .ref (n + 270), .ref (n + 271), .int (E 4 8), .int (E 4 9), .int (E 4 10), .int (E 4 11), .int (nI he), .int (E 4 13), .int (E 4 14), .int (E 4 15)])), cEr n 5 512 E, cEr n 6 100 E, cEr n 7 2 E, cAk n, (n + 271, .inl (0, 512, .inl (upd (E 9) he (u 6)))), cNa n nn, cEr n 0 48 E, cEr n 1 961 E, cTs n gg E TK, cEr n 59 48 E, cEr n 60 48 E, cEr n 61 48 E, cEr n 62 2400 E, cEr n 63 512 E, cEr n 64 961 E, cEr n 65 961 E] := hF.put 5 _ rfl rfl
                replace hf := hf.put (a := n + 266) (c := .inr (4, [.ref (n + 264), .ref n, .ref (n + 267), .int (E 4 3), .ref (n + 268), .ref (n + 269), .ref (n + 270), .ref (n + 271), .int (E 4 8), .int (E 4 9), .int (E 4 10), .int (E 4 11), .int (nI he), .int (E 4 13), .int (E 4 14), .int (E 4 15)])) (Or.inr (by omega))
                replace hN := hN.put (a := n + 266) (c := .inr (4, [.ref (n + 264), .ref n, .ref (n + 267), .int (E 4 3), .ref (n + 268), .ref (n + 269), .ref (n + 270), .ref (n + 271), .int (E 4 8), .int (E 4 9), .int (E 4 10), .int (E 4 11), .int (nI he), .int (E 4 13), .int (E 4 14), .int (E 4 15)])) (by omega)
                replace hA := hA.put (a := n + 266) (c := .inr (4, [.ref (n + 264), .ref n, .ref (n + 267), .int (E 4 3), .ref (n + 268), .ref (n + 269), .ref (n + 270), .ref (n + 271), .int (E 4 8), .int (E 4 9), .int (E 4 10), .int (E 4 11), .int (nI he), .int (E 4 13), .int (E 4 14), .int (E 4 15)])) (by omega)
                replace hn : (ax_put hp_13 (n + 266) (.inr (4, [.ref (n + 264), .ref n, .ref (n + 267), .int (E 4 3), .ref (n + 268), .ref (n + 269), .ref (n + 270), .ref (n + 271), .int (E 4 8), .int (E 4 9), .int (E 4 10), .int (E 4 11), .int (nI he), .int (E 4 13), .int (E 4 14), .int (E 4 15)]))).1 = h0.1 := hn
                replace hs : (ax_put hp_13 (n + 266) (.inr (4, [.ref (n + 264), .ref n, .ref (n + 267), .int (E 4 3), .ref (n + 268), .ref (n + 269), .ref (n + 270), .ref (n + 271), .int (E 4 8), .int (E 4 9), .int (E 4 10), .int (E 4 11), .int (nI he), .int (E 4 13), .int (E 4 14), .int (E 4 15)]))).2.1 = h0.2.1 := hs
                generalize ax_put hp_13 (n + 266) (.inr (4, [.ref (n + 264), .ref n, .ref (n + 267), .int (E 4 3), .ref (n + 268), .ref (n + 269), .ref (n + 270), .ref (n + 271), .int (E 4 8), .int (E 4 9), .int (E 4 10), .int (E 4 11), .int (nI he), .int (E 4 13), .int (E 4 14), .int (E 4 15)])) = hp_18 at hF hf hA hN hn hs ⊢
                refine ar_aload_n 149 d_53_148 rfl rfl ?_
                refine ar_dup 150 d_53_149 rfl rfl ?_
                refine ar_getf 153 d_53_150 rfl (ci := 4) (k := 9) rfl (hF.at 5 rfl) rfl ?_
                refine ar_top (x' := nI he) (e9) ?_
                refine ar_iconst 154 (v := 1) d_53_153 rfl (by decide) ?_
                refine ar_iadd 155 d_53_154 rfl ?_
                refine ar_top (x' := nI (he + 1)) (nI_1 he) ?_
                refine ar_putf 158 [.ref (n + 264), .ref n, .ref (n + 267), .int (E 4 3), .ref (n + 268), .ref (n + 269), .ref (n + 270), .ref (n + 271), .int (E 4 8), .int (nI (he + 1)), .int (E 4 10), .int (E 4 11), .int (nI he), .int (E 4 13), .int (E 4 14), .int (E 4 15)] d_53_155 rfl (ci := 4) (k := 9) rfl rfl (hF.at 5 rfl) (Nat.le_of_ble_eq_true rfl) rfl rfl rfl ?_
                replace hF : ax_hs (ax_put hp_18 (n + 266) (.inr (4, [.ref (n + 264), .ref n, .ref (n + 267), .int (E 4 3), .ref (n + 268), .ref (n + 269), .ref (n + 270), .ref (n + 271), .int (E 4 8), .int (nI (he + 1)), .int (E 4 10), .int (E 4 11), .int (nI he), .int (E 4 13), .int (E 4 14), .int (E 4 15)]))) [(n + 272 + 2 * (he % 24), .inr (5, [.int ((Q (he % 24)).1 0), .int ((Q (he % 24)).1 1), .int ((Q (he % 24)).1 2), .int ((Q (he % 24)).1 3), .int ((Q (he % 24)).1 4), .int ((Q (he % 24)).1 5), .int (u 7), .ref (n + 272 + 2 * (he % 24) + 1)])), (n + 272 + 2 * (he % 24) + 1, .inl (0, 612, .inl (va_cpy b (Q (he % 24)).2 0 100 (((u 7).toNatClampNeg + 3) / 4)))), cSt s0 n E, cRk n nn gg C, cOr n nn gg f, (n + 266, .inr (4, [.ref (n + 264), .ref n, .ref (n + 267), .int (E 4 3), .ref (n + 268), .ref (n + 269), .ref (n + 270), .ref (n + 271), .int (E 4 8), .int (nI (he + 1)), .int (E 4 10), .int (E 4 11), .int (nI he), .int (E 4 13), .int (E 4 14), .int (E 4 15)])), cEr n 5 512 E, cEr n 6 100 E, cEr n 7 2 E, cAk n, (n + 271, .inl (0, 512, .inl (upd (E 9) he (u 6)))), cNa n nn, cEr n 0 48 E, cEr n 1 961 E, cTs n gg E TK, cEr n 59 48 E, cEr n 60 48 E, cEr n 61 48 E, cEr n 62 2400 E, cEr n 63 512 E, cEr n 64 961 E, cEr n 65 961 E] := hF.put 5 _ rfl rfl
                replace hf := hf.put (a := n + 266) (c := .inr (4, [.ref (n + 264), .ref n, .ref (n + 267), .int (E 4 3), .ref (n + 268), .ref (n + 269), .ref (n + 270), .ref (n + 271), .int (E 4 8), .int (nI (he + 1)), .int (E 4 10), .int (E 4 11), .int (nI he), .int (E 4 13), .int (E 4 14), .int (E 4 15)])) (Or.inr (by omega))
                replace hN := hN.put (a := n + 266) (c := .inr (4, [.ref (n + 264), .ref n, .ref (n + 267), .int (E 4 3), .ref (n + 268), .ref (n + 269), .ref (n + 270), .ref (n + 271), .int (E 4 8), .int (nI (he + 1)), .int (E 4 10), .int (E 4 11), .int (nI he), .int (E 4 13), .int (E 4 14), .int (E 4 15)])) (by omega)
                replace hA := hA.put (a := n + 266) (c := .inr (4, [.ref (n + 264), .ref n, .ref (n + 267), .int (E 4 3), .ref (n + 268), .ref (n + 269), .ref (n + 270), .ref (n + 271), .int (E 4 8), .int (nI (he + 1)), .int (E 4 10), .int (E 4 11), .int (nI he), .int (E 4 13), .int (E 4 14), .int (E 4 15)])) (by omega)
                replace hn : (ax_put hp_18 (n + 266) (.inr (4, [.ref (n + 264), .ref n, .ref (n + 267), .int (E 4 3), .ref (n + 268), .ref (n + 269), .ref (n + 270), .ref (n + 271), .int (E 4 8), .int (nI (he + 1)), .int (E 4 10), .int (E 4 11), .int (nI he), .int (E 4 13), .int (E 4 14), .int (E 4 15)]))).1 = h0.1 := hn
                replace hs : (ax_put hp_18 (n + 266) (.inr (4, [.ref (n + 264), .ref n, .ref (n + 267), .int (E 4 3), .ref (n + 268), .ref (n + 269), .ref (n + 270), .ref (n + 271), .int (E 4 8), .int (nI (he + 1)), .int (E 4 10), .int (E 4 11), .int (nI he), .int (E 4 13), .int (E 4 14), .int (E 4 15)]))).2.1 = h0.2.1 := hs
                generalize ax_put hp_18 (n + 266) (.inr (4, [.ref (n + 264), .ref n, .ref (n + 267), .int (E 4 3), .ref (n + 268), .ref (n + 269), .ref (n + 270), .ref (n + 271), .int (E 4 8), .int (nI (he + 1)), .int (E 4 10), .int (E 4 11), .int (nI he), .int (E 4 13), .int (E 4 14), .int (E 4 15)])) = hp_19 at hF hf hA hN hn hs ⊢
                refine ar_aload_n 159 d_53_158 rfl rfl ?_
                replace hA : AKS hp_19 n (va_up Q (he % 24) (upd ((Q (he % 24)).1) 6 (u 7), va_cpy b (Q (he % 24)).2 0 100 (((u 7).toNatClampNeg + 3) / 4))) := hA.back haj ⟨hF.at 0 rfl, hF.at 1 rfl⟩
                replace hF := hF.sub (F' := [cSt s0 n E, cRk n nn gg C, cOr n nn gg f, (n + 266, .inr (4, [.ref (n + 264), .ref n, .ref (n + 267), .int (E 4 3), .ref (n + 268), .ref (n + 269), .ref (n + 270), .ref (n + 271), .int (E 4 8), .int (nI (he + 1)), .int (E 4 10), .int (E 4 11), .int (nI he), .int (E 4 13), .int (E 4 14), .int (E 4 15)])), cEr n 5 512 E, cEr n 6 100 E, cEr n 7 2 E, cAk n, (n + 271, .inl (0, 512, .inl (upd (E 9) he (u 6)))), cNa n nn, cEr n 0 48 E, cEr n 1 961 E, cTs n gg E TK, cEr n 59 48 E, cEr n 60 48 E, cEr n 61 48 E, cEr n 62 2400 E, cEr n 63 512 E, cEr n 64 961 E, cEr n 65 961 E]) [2, 3, 4, 5, 6, 7, 8, 9, 10, 11, 12, 13, 14, 15, 16, 17, 18, 19, 20, 21] rfl rfl
                have eE : va_up (va_up E 4 (upd (upd (E 4) 9 (nI (he + 1))) 12 (nI he))) 9 (upd (E 9) he (u 6)) = heE E ((Q (he % 24)).1 0) he (u 6) := by
                  unfold heE
                  rw [if_neg (fun z => z.elim hch c7)]
                have hS1 : AS s0 n nn gg C f q u b h0 hp_19 (va_up (va_up E 4 (upd (upd (E 4) 9 (nI (he + 1))) 12 (nI he))) 9 (upd (E 9) he (u 6))) TK (va_up Q (he % 24) (upd ((Q (he % 24)).1) 6 (u 7), va_cpy b (Q (he % 24)).2 0 100 (((u 7).toNatClampNeg + 3) / 4))) ms := ⟨hF, hA, hN, hf, hn, hs, hp0⟩
                rw [eE] at hS1
                clear hF hA hN hf hn hs hp0
                obtain ⟨hF, hA, hN, hf, hn, hs, hp0⟩ := hS1
                replace hF : ax_hs hp_19 [cSt s0 n (heE E ((Q (he % 24)).1 0) he (u 6)), cRk n nn gg C, cOr n nn gg f, cAs n (heE E ((Q (he % 24)).1 0) he (u 6)), cEr n 5 512 (heE E ((Q (he % 24)).1 0) he (u 6)), cEr n 6 100 (heE E ((Q (he % 24)).1 0) he (u 6)), cEr n 7 2 (heE E ((Q (he % 24)).1 0) he (u 6)), cAk n, cEr n 9 512 (heE E ((Q (he % 24)).1 0) he (u 6)), cNa n nn, cEr n 0 48 (heE E ((Q (he % 24)).1 0) he (u 6)), cEr n 1 961 (heE E ((Q (he % 24)).1 0) he (u 6)), cTs n gg (heE E ((Q (he % 24)).1 0) he (u 6)) TK, cEr n 59 48 (heE E ((Q (he % 24)).1 0) he (u 6)), cEr n 60 48 (heE E ((Q (he % 24)).1 0) he (u 6)), cEr n 61 48 (heE E ((Q (he % 24)).1 0) he (u 6)), cEr n 62 2400 (heE E ((Q (he % 24)).1 0) he (u 6)), cEr n 63 512 (heE E ((Q (he % 24)).1 0) he (u 6)), cEr n 64 961 (heE E ((Q (he % 24)).1 0) he (u 6)), cEr n 65 961 (heE E ((Q (he % 24)).1 0) he (u 6))] := hF
                replace hA : AKS hp_19 n (va_up Q (he % 24) (heQ (Q (he % 24)) u b)) := hA
                have hS1 : AS s0 n nn gg C f q u b h0 hp_19 (heE E ((Q (he % 24)).1 0) he (u 6)) TK (va_up Q (he % 24) (heQ (Q (he % 24)) u b)) ms := ⟨hF, hA, hN, hf, hn, hs, hp0⟩
                refine ar_call (r := []) (na := 0) (kd := 0) (cm := 47) (fr2 := fr - 1) (lo2 := lo - 23) 162 d_53_159 (ar_hoV (as := []) rfl rfl rfl (hF.at 3 rfl)) rfl (by omega) (show lo - 23 + (19 + 4) = lo by omega) (Nat.le_of_ble_eq_true rfl) (Nat.le_of_ble_eq_true rfl) (ek_47 (by omega) (by omega) hC0 hS1 heE_9 (heE_8.trans e8) (by omega) hb (fun z => by rw [va_up_n _ _ (show ¬ (he + 1) % 24 = he % 24 by omega)]; exact hL2 z)) ?_
                intro v hp_20 hq
                obtain ⟨rfl, ms20, hS2, hr20⟩ := hq
                clear hS1 hF hA hN hf hn hs hp0
                obtain ⟨hF, hA, hN, hf, hn, hs, hp0⟩ := hS2
                replace hF : ax_hs hp_20 [cSt s0 n (heE E ((Q (he % 24)).1 0) he (u 6)), cRk n nn gg C, cOr n nn gg f, cAs n (heE E ((Q (he % 24)).1 0) he (u 6)), cEr n 5 512 (heE E ((Q (he % 24)).1 0) he (u 6)), cEr n 6 100 (heE E ((Q (he % 24)).1 0) he (u 6)), cEr n 7 2 (heE E ((Q (he % 24)).1 0) he (u 6)), cAk n, cEr n 9 512 (heE E ((Q (he % 24)).1 0) he (u 6)), cNa n nn, cEr n 0 48 (heE E ((Q (he % 24)).1 0) he (u 6)), cEr n 1 961 (heE E ((Q (he % 24)).1 0) he (u 6)), cTs n gg (heE E ((Q (he % 24)).1 0) he (u 6)) TK, cEr n 59 48 (heE E ((Q (he % 24)).1 0) he (u 6)), cEr n 60 48 (heE E ((Q (he % 24)).1 0) he (u 6)), cEr n 61 48 (heE E ((Q (he % 24)).1 0) he (u 6)), cEr n 62 2400 (heE E ((Q (he % 24)).1 0) he (u 6)), cEr n 63 512 (heE E ((Q (he % 24)).1 0) he (u 6)), cEr n 64 961 (heE E ((Q (he % 24)).1 0) he (u 6)), cEr n 65 961 (heE E ((Q (he % 24)).1 0) he (u 6))] := hF
                have hS9 : AS s0 n nn gg C f q u b h0 hp_20 (heE E ((Q (he % 24)).1 0) he (u 6)) TK (va_up Q (he % 24) (heQ (Q (he % 24)) u b)) ms20 := ⟨hF, hA, hN, hf, hn, hs, hp0⟩
                exact ar_ret d_53_162 rfl (⟨rfl, Or.inr (Or.inr ⟨fun z => c2 z.2, h3, Decidable.not_not.mp c5, hlt, _, hS9, hr20⟩)⟩)
    · refine ar_aload_n 20 d_53_19 rfl rfl ?_
      refine ar_dup 21 d_53_20 rfl rfl ?_
      refine ar_getf 24 d_53_21 rfl (ci := 4) (k := 15) rfl (hF.at 3 rfl) rfl ?_
      refine ar_iconst 25 (v := 1) d_53_24 rfl (by decide) ?_
      refine ar_aload_n 26 d_53_25 rfl rfl ?_
      refine ar_getf 29 d_53_26 rfl (ci := 2) (k := 1) rfl hN.mgc rfl ?_
      refine ar_ishl 30 d_53_29 rfl ?_
      refine ar_ior 31 d_53_30 rfl ?_
      refine ar_putf 34 [.ref (n + 264), .ref n, .ref (n + 267), .int (E 4 3), .ref (n + 268), .ref (n + 269), .ref (n + 270), .ref (n + 271), .int (E 4 8), .int (E 4 9), .int (E 4 10), .int (E 4 11), .int (E 4 12), .int (E 4 13), .int (E 4 14), .int ((E 4 15) ||| (1 <<< ((u 1) &&& 31)))] d_53_31 rfl (ci := 4) (k := 15) rfl rfl (hF.at 3 rfl) (Nat.le_of_ble_eq_true rfl) rfl rfl rfl ?_
      replace hF : ax_hs (ax_put h (n + 266) (.inr (4, [.ref (n + 264), .ref n, .ref (n + 267), .int (E 4 3), .ref (n + 268), .ref (n + 269), .ref (n + 270), .ref (n + 271), .int (E 4 8), .int (E 4 9), .int (E 4 10), .int (E 4 11), .int (E 4 12), .int (E 4 13), .int (E 4 14), .int ((E 4 15) ||| (1 <<< ((u 1) &&& 31)))]))) [cSt s0 n E, cRk n nn gg C, cOr n nn gg f, (n + 266, .inr (4, [.ref (n + 264), .ref n, .ref (n + 267), .int (E 4 3), .ref (n + 268), .ref (n + 269), .ref (n + 270), .ref (n + 271), .int (E 4 8), .int (E 4 9), .int (E 4 10), .int (E 4 11), .int (E 4 12), .int (E 4 13), .int (E 4 14), .int ((E 4 15) ||| (1 <<< ((u 1) &&& 31)))])), cEr n 5 512 E, cEr n 6 100 E, cEr n 7 2 E, cAk n, cEr n 9 512 E, cNa n nn, cEr n 0 48 E, cEr n 1 961 E, cTs n gg E TK, cEr n 59 48 E, cEr n 60 48 E, cEr n 61 48 E, cEr n 62 2400 E, cEr n 63 512 E, cEr n 64 961 E, cEr n 65 961 E] := hF.put 3 _ rfl rfl
      replace hf := hf.put (a := n + 266) (c := .inr (4, [.ref (n + 264), .ref n, .ref (n + 267), .int (E 4 3), .ref (n + 268), .ref (n + 269), .ref (n + 270), .ref (n + 271), .int (E 4 8), .int (E 4 9), .int (E 4 10), .int (E 4 11), .int (E 4 12), .int (E 4 13), .int (E 4 14), .int ((E 4 15) ||| (1 <<< ((u 1) &&& 31)))])) (Or.inr (by omega))
      replace hN := hN.put (a := n + 266) (c := .inr (4, [.ref (n + 264), .ref n, .ref (n + 267), .int (E 4 3), .ref (n + 268), .ref (n + 269), .ref (n + 270), .ref (n + 271), .int (E 4 8), .int (E 4 9), .int (E 4 10), .int (E 4 11), .int (E 4 12), .int (E 4 13), .int (E 4 14), .int ((E 4 15) ||| (1 <<< ((u 1) &&& 31)))])) (by omega)
      replace hA := hA.put (a := n + 266) (c := .inr (4, [.ref (n + 264), .ref n, .ref (n + 267), .int (E 4 3), .ref (n + 268), .ref (n + 269), .ref (n + 270), .ref (n + 271), .int (E 4 8), .int (E 4 9), .int (E 4 10), .int (E 4 11), .int (E 4 12), .int (E 4 13), .int (E 4 14), .int ((E 4 15) ||| (1 <<< ((u 1) &&& 31)))])) (by omega)
      replace hn : (ax_put h (n + 266) (.inr (4, [.ref (n + 264), .ref n, .ref (n + 267), .int (E 4 3), .ref (n + 268), .ref (n + 269), .ref (n + 270), .ref (n + 271), .int (E 4 8), .int (E 4 9), .int (E 4 10), .int (E 4 11), .int (E 4 12), .int (E 4 13), .int (E 4 14), .int ((E 4 15) ||| (1 <<< ((u 1) &&& 31)))]))).1 = h0.1 := hn
      replace hs : (ax_put h (n + 266) (.inr (4, [.ref (n + 264), .ref n, .ref (n + 267), .int (E 4 3), .ref (n + 268), .ref (n + 269), .ref (n + 270), .ref (n + 271), .int (E 4 8), .int (E 4 9), .int (E 4 10), .int (E 4 11), .int (E 4 12), .int (E 4 13), .int (E 4 14), .int ((E 4 15) ||| (1 <<< ((u 1) &&& 31)))]))).2.1 = h0.2.1 := hs
      generalize ax_put h (n + 266) (.inr (4, [.ref (n + 264), .ref n, .ref (n + 267), .int (E 4 3), .ref (n + 268), .ref (n + 269), .ref (n + 270), .ref (n + 271), .int (E 4 8), .int (E 4 9), .int (E 4 10), .int (E 4 11), .int (E 4 12), .int (E 4 13), .int (E 4 14), .int ((E 4 15) ||| (1 <<< ((u 1) &&& 31)))])) = hp_21 at hF hf hA hN hn hs ⊢
      refine ar_goto 162 d_53_34 (by decide) ?_
      have hS9 : AS s0 n nn gg C f q u b h0 hp_21 (va_up E 4 (upd (E 4) 15 ((E 4 15) ||| (1 <<< ((u 1) &&& 31))))) TK Q ms := ⟨hF, hA, hN, hf, hn, hs, hp0⟩
      exact ar_ret d_53_162 rfl (⟨rfl, Or.inl ⟨⟨Decidable.not_not.mp c1, Decidable.not_not.mp c2⟩, hS9⟩⟩)


/-! Leader: rest, start, gotItem, Work.take, hear for every state -/

theorem WI.tab {Z : ZT} {fl fl' : Int32} {jf jf' W Q B : Nat → Int32} (hW : WI Z fl jf W Q B) (h3 : ¬ W 3 = 2) : WI Z fl' jf' W Q B := ⟨hW.1, hW.2.1, hW.2.2.1, hW.2.2.2.1, fun z => absurd z h3, hW.2.2.2.2.2⟩
theorem tsw57 {x : Int32} (h5 : ¬ x = 5) (h6 : ¬ x = 6) (h7 : ¬ x = 7) (h8 : ¬ x = 8) (h9 : ¬ x = 9) (hA : ¬ x = 10) (hB : ¬ x = 11) : x.toInt < 5 ∨ 11 < x.toInt := by
  have key : ∀ y : Int32, ¬ x = y → ¬ x.toInt = y.toInt := fun y h e => h (Int32.toInt_inj.mp e)
  have k5 := key 5 h5
  have k6 := key 6 h6
  have k7 := key 7 h7
  have k8 := key 8 h8
  have k9 := key 9 h9
  have kA := key 10 hA
  have kB := key 11 hB
  rw [show (5 : Int32).toInt = 5 from rfl] at k5
  rw [show (6 : Int32).toInt = 6 from rfl] at k6
  rw [show (7 : Int32).toInt = 7 from rfl] at k7
  rw [show (8 : Int32).toInt = 8 from rfl] at k8
  rw [show (9 : Int32).toInt = 9 from rfl] at k9
  rw [show (10 : Int32).toInt = 10 from rfl] at kA
  rw [show (11 : Int32).toInt = 11 from rfl] at kB
  omega
def F_33 (nn gg : Nat) (C me : Int32) (f u b : Nat → Int32) (D : Nat → Nat → Int32) (K A : Int64) (Y : List Mg)  : St :=
  (va_up (va_up (va_up (va_up (va_up (va_up (va_up (va_up D 7 (upd (upd (upd (upd (upd (D 7) 9 0) 10 0) 12 0) 13 0) 14 0)) 10 (upd (upd (D 10) 9 0) 10 0)) 11 (ax_fill (D 11) 0 48 (-1))) 12 (ax_fill (D 12) 0 48 0)) 15 (ax_fill (D 15) 0 512 (-1))) 16 (ax_fill (D 16) 0 961 (-1))) 17 (ax_fill (D 17) 0 961 0)) 18 (upd (upd (D 18) 3 0) 4 (-1)), 0, 0, Y)
set_option maxRecDepth 100000 in
theorem s_33 {L : Nat} {xs : Nat → Int32} {fr lo : Nat} {Z : ZT} {n nd nn gg : Nat} {C me : Int32} {f : Nat → Int32} {q : Nat} {u b : Nat → Int32} {uv : Int32} {h0 h : ax_H} {D : Nat → Nat → Int32} {K A : Int64} {Y : List Mg}  (hfr : 2 ≤ fr) (hlo : 60 ≤ lo) (hC : CS n nd nn gg f) (hS : NS Z n nd nn gg C me f q u b uv h0 h D K A Y) (hI : NI Z nn D) : ax_M L xs 33 fr lo [.ref (nd + 7)] h (fun r h' => r = none ∧ PS Z n nd nn gg C me f q u b uv h0 h' (fun D' K' A' Y' => (D', K', A', Y') = F_33 nn gg C me f u b D K A Y ∧ True)) := by
  have hC0 := hC
  show ax_A (ax_step L xs) ((33, 0, fr, lo), [(0, .ref (nd + 7))], [], h) _
  obtain ⟨hnd, hn0, hnn3, hnn, hgg1, hgg, hRg⟩ := hC
  obtain ⟨hF, hN, hf, hn, hs, hp0, hu0⟩ := hS
  replace hF : ax_hs h [cNd n nd me D, cDk nd D, cAr nd 2 35840 D, cAr nd 3 4096 D, cAr nd 4 32 D, cAr nd 5 280 D, cAr nd 6 280 D, cLd n nd me D A, cAr nd 8 16 D, cAr nd 9 280 D, cTb nd gg D K, cAr nd 11 48 D, cAr nd 12 48 D, cAr nd 13 48 D, cAr nd 14 2400 D, cAr nd 15 512 D, cAr nd 16 961 D, cAr nd 17 961 D, cWk nd D, cWa nd D, cAr nd 20 612 D, cAr nd 21 1152 D, cRk n nn gg C, cOr n nn gg f] := hF
  refine ar_aload_n 1 d_33_0 rfl rfl ?_
  refine ar_getf 4 d_33_1 rfl (ci := 9) (k := 3) rfl (hF.at 7 rfl) rfl ?_
  refine ar_call (r := []) (na := 0) (kd := 0) (cm := 12) (fr2 := fr - 1) (lo2 := lo - 20) 7 d_33_4 (ar_hoV (as := []) rfl rfl rfl (hF.at 10 rfl)) rfl (by omega) (show lo - 20 + (19 + 1) = lo by omega) (Nat.le_of_ble_eq_true rfl) (Nat.le_of_ble_eq_true rfl) (c_12 (by omega) (by omega) (hF.sub (F' := [cTb nd gg D K, cAr nd 11 48 D, cAr nd 12 48 D, cAr nd 15 512 D, cAr nd 16 961 D, cAr nd 17 961 D]) [10, 11, 12, 15, 16, 17] rfl rfl) rfl rfl (by omega)) ?_
  intro v hp_1 hq
  obtain ⟨rfl, qF, qn, qs, qf⟩ := hq
  have qF : ax_hs hp_1 [(nd + 10, .inr (6, [.int (nI gg), .ref (nd + 11), .ref (nd + 12), .ref (nd + 13), .ref (nd + 14), .ref (nd + 15), .ref (nd + 16), .ref (nd + 17), .long 0, .int 0, .int 0])), (nd + 11, .inl (0, 48, .inl (ax_fill (D 11) 0 48 (-1)))), (nd + 12, .inl (0, 48, .inl (ax_fill (D 12) 0 48 0))), (nd + 15, .inl (0, 512, .inl (ax_fill (D 15) 0 512 (-1)))), (nd + 16, .inl (0, 961, .inl (ax_fill (D 16) 0 961 (-1)))), (nd + 17, .inl (0, 961, .inl (ax_fill (D 17) 0 961 0)))] := qF
  replace hF : ax_hs hp_1 [cNd n nd me D, cDk nd D, cAr nd 2 35840 D, cAr nd 3 4096 D, cAr nd 4 32 D, cAr nd 5 280 D, cAr nd 6 280 D, cLd n nd me D A, cAr nd 8 16 D, cAr nd 9 280 D, cAr nd 13 48 D, cAr nd 14 2400 D, cWk nd D, cWa nd D, cAr nd 20 612 D, cAr nd 21 1152 D, cRk n nn gg C, cOr n nn gg f, (nd + 10, .inr (6, [.int (nI gg), .ref (nd + 11), .ref (nd + 12), .ref (nd + 13), .ref (nd + 14), .ref (nd + 15), .ref (nd + 16), .ref (nd + 17), .long 0, .int 0, .int 0])), (nd + 11, .inl (0, 48, .inl (ax_fill (D 11) 0 48 (-1)))), (nd + 12, .inl (0, 48, .inl (ax_fill (D 12) 0 48 0))), (nd + 15, .inl (0, 512, .inl (ax_fill (D 15) 0 512 (-1)))), (nd + 16, .inl (0, 961, .inl (ax_fill (D 16) 0 961 (-1)))), (nd + 17, .inl (0, 961, .inl (ax_fill (D 17) 0 961 0)))] := ax_hs.call (rest := [cNd n nd me D, cDk nd D, cAr nd 2 35840 D, cAr nd 3 4096 D, cAr nd 4 32 D, cAr nd 5 280 D, cAr nd 6 280 D, cLd n nd me D A, cAr nd 8 16 D, cAr nd 9 280 D, cAr nd 13 48 D, cAr nd 14 2400 D, cWk nd D, cWa nd D, cAr nd 20 612 D, cAr nd 21 1152 D, cRk n nn gg C, cOr n nn gg f]) [10, 11, 12, 15, 16, 17] [0, 1, 2, 3, 4, 5, 6, 7, 8, 9, 13, 14, 18, 19, 20, 21, 22, 23] hF qf qF rfl rfl rfl [10, 11, 12, 15, 16, 17] rfl rfl [10, 11, 12, 15, 16, 17] (news := []) rfl rfl (fun _ z => absurd z List.not_mem_nil) rfl
  replace hF := hF.sub (F' := [cNd n nd me D, cDk nd D, cAr nd 2 35840 D, cAr nd 3 4096 D, cAr nd 4 32 D, cAr nd 5 280 D, cAr nd 6 280 D, cLd n nd me D A, cAr nd 8 16 D, cAr nd 9 280 D, (nd + 10, .inr (6, [.int (nI gg), .ref (nd + 11), .ref (nd + 12), .ref (nd + 13), .ref (nd + 14), .ref (nd + 15), .ref (nd + 16), .ref (nd + 17), .long 0, .int 0, .int 0])), (nd + 11, .inl (0, 48, .inl (ax_fill (D 11) 0 48 (-1)))), (nd + 12, .inl (0, 48, .inl (ax_fill (D 12) 0 48 0))), cAr nd 13 48 D, cAr nd 14 2400 D, (nd + 15, .inl (0, 512, .inl (ax_fill (D 15) 0 512 (-1)))), (nd + 16, .inl (0, 961, .inl (ax_fill (D 16) 0 961 (-1)))), (nd + 17, .inl (0, 961, .inl (ax_fill (D 17) 0 961 0))), cWk nd D, cWa nd D, cAr nd 20 612 D, cAr nd 21 1152 D, cRk n nn gg C, cOr n nn gg f]) [0, 1, 2, 3, 4, 5, 6, 7, 8, 9, 18, 19, 20, 10, 11, 21, 22, 23, 12, 13, 14, 15, 16, 17] rfl rfl
  replace hN := hN.fr qf (fun x hx z => by simp only [List.mem_cons, List.not_mem_nil, or_false] at z; unfold NTA at hx; omega)
  replace hf := hf.trC qf (fun x _ z => Or.inr (by simp only [List.mem_cons, List.not_mem_nil, or_false] at z; omega))
  replace hn : hp_1.1 = h0.1 := by omega
  replace hs : hp_1.2.1 = h0.2.1 := by omega
  clear qF qn qs qf
  refine ar_aload_n 8 d_33_7 rfl rfl ?_
  refine ar_getf 11 d_33_8 rfl (ci := 9) (k := 4) rfl (hF.at 7 rfl) rfl ?_
  refine ar_iconst 12 (v := 0) d_33_11 rfl (by decide) ?_
  refine ar_putf 15 [.ref (nd + 10), .ref (nd + 19), .ref (nd + 21), .int 0, .int (D 18 4), .int (D 18 5), .int (D 18 6), .int (D 18 7), .int (D 18 8), .int (D 18 9), .int (D 18 10), .int (D 18 11), .int (D 18 12), .int (D 18 13), .int (D 18 14)] d_33_12 rfl (ci := 10) (k := 3) rfl rfl (hF.at 18 rfl) (Nat.le_of_ble_eq_true rfl) rfl rfl rfl ?_
  replace hF : ax_hs (ax_put hp_1 (nd + 18) (.inr (10, [.ref (nd + 10), .ref (nd + 19), .ref (nd + 21), .int 0, .int (D 18 4), .int (D 18 5), .int (D 18 6), .int (D 18 7), .int (D 18 8), .int (D 18 9), .int (D 18 10), .int (D 18 11), .int (D 18 12), .int (D 18 13), .int (D 18 14)]))) [cNd n nd me D, cDk nd D, cAr nd 2 35840 D, cAr nd 3 4096 D, cAr nd 4 32 D, cAr nd 5 280 D, cAr nd 6 280 D, cLd n nd me D A, cAr nd 8 16 D, cAr nd 9 280 D, (nd + 10, .inr (6, [.int (nI gg), .ref (nd + 11), .ref (nd + 12), .ref (nd + 13), .ref (nd + 14), .ref (nd + 15), .ref (nd + 16), .ref (nd + 17), .long 0, .int 0, .int 0])), (nd + 11, .inl (0, 48, .inl (ax_fill (D 11) 0 48 (-1)))), (nd + 12, .inl (0, 48, .inl (ax_fill (D 12) 0 48 0))), cAr nd 13 48 D, cAr nd 14 2400 D, (nd + 15, .inl (0, 512, .inl (ax_fill (D 15) 0 512 (-1)))), (nd + 16, .inl (0, 961, .inl (ax_fill (D 16) 0 961 (-1)))), (nd + 17, .inl (0, 961, .inl (ax_fill (D 17) 0 961 0))), (nd + 18, .inr (10, [.ref (nd + 10), .ref (nd + 19), .ref (nd + 21), .int 0, .int (D 18 4), .int (D 18 5), .int (D 18 6), .int (D 18 7), .int (D 18 8), .int (D 18 9), .int (D 18 10), .int (D 18 11), .int (D 18 12), .int (D 18 13), .int (D 18 14)])), cWa nd D, cAr nd 20 612 D, cAr nd 21 1152 D, cRk n nn gg C, cOr n nn gg f] := hF.put 18 _ rfl rfl
  replace hf := hf.put (a := nd + 18) (c := .inr (10, [.ref (nd + 10), .ref (nd + 19), .ref (nd + 21), .int 0, .int (D 18 4), .int (D 18 5), .int (D 18 6), .int (D 18 7), .int (D 18 8), .int (D 18 9), .int (D 18 10), .int (D 18 11), .int (D 18 12), .int (D 18 13), .int (D 18 14)])) (Or.inr (by omega))
  replace hN := hN.put (a := nd + 18) (c := .inr (10, [.ref (nd + 10), .ref (nd + 19), .ref (nd + 21), .int 0, .int (D 18 4), .int (D 18 5), .int (D 18 6), .int (D 18 7), .int (D 18 8), .int (D 18 9), .int (D 18 10), .int (D 18 11), .int (D 18 12), .int (D 18 13), .int (D 18 14)])) (by omega)
  replace hn : (ax_put hp_1 (nd + 18) (.inr (10, [.ref (nd + 10), .ref (nd + 19), .ref (nd + 21), .int 0, .int (D 18 4), .int (D 18 5), .int (D 18 6), .int (D 18 7), .int (D 18 8), .int (D 18 9), .int (D 18 10), .int (D 18 11), .int (D 18 12), .int (D 18 13), .int (D 18 14)]))).1 = h0.1 := hn
  replace hs : (ax_put hp_1 (nd + 18) (.inr (10, [.ref (nd + 10), .ref (nd + 19), .ref (nd + 21), .int 0, .int (D 18 4), .int (D 18 5), .int (D 18 6), .int (D 18 7), .int (D 18 8), .int (D 18 9), .int (D 18 10), .int (D 18 11), .int (D 18 12), .int (D 18 13), .int (D 18 14)]))).2.1 = h0.2.1 := hs
  generalize ax_put hp_1 (nd + 18) (.inr (10, [.ref (nd + 10), .ref (nd + 19), .ref (nd + 21), .int 0, .int (D 18 4), .int (D 18 5), .int (D 18 6), .int (D 18 7), .int (D 18 8), .int (D 18 9), .int (D 18 10), .int (D 18 11), .int (D 18 12), .int (D 18 13), .int (D 18 14)])) = hp_2 at hF hf hN hn hs ⊢
  refine ar_aload_n 16 d_33_15 rfl rfl ?_
  refine ar_getf 19 d_33_16 rfl (ci := 9) (k := 4) rfl (hF.at 7 rfl) rfl ?_
  refine ar_iconst 20 (v := -1) d_33_19 rfl (by decide) ?_
  refine ar_putf 23 [.ref (nd + 10), .ref (nd + 19), .ref (nd + 21), .int 0, .int (-1), .int (D 18 5), .int (D 18 6), .int (D 18 7), .int (D 18 8), .int (D 18 9), .int (D 18 10), .int (D 18 11), .int (D 18 12), .int (D 18 13), .int (D 18 14)] d_33_20 rfl (ci := 10) (k := 4) rfl rfl (hF.at 18 rfl) (Nat.le_of_ble_eq_true rfl) rfl rfl rfl ?_
  replace hF : ax_hs (ax_put hp_2 (nd + 18) (.inr (10, [.ref (nd + 10), .ref (nd + 19), .ref (nd + 21), .int 0, .int (-1), .int (D 18 5), .int (D 18 6), .int (D 18 7), .int (D 18 8), .int (D 18 9), .int (D 18 10), .int (D 18 11), .int (D 18 12), .int (D 18 13), .int (D 18 14)]))) [cNd n nd me D, cDk nd D, cAr nd 2 35840 D, cAr nd 3 4096 D, cAr nd 4 32 D, cAr nd 5 280 D, cAr nd 6 280 D, cLd n nd me D A, cAr nd 8 16 D, cAr nd 9 280 D, (nd + 10, .inr (6, [.int (nI gg), .ref (nd + 11), .ref (nd + 12), .ref (nd + 13), .ref (nd + 14), .ref (nd + 15), .ref (nd + 16), .ref (nd + 17), .long 0, .int 0, .int 0])), (nd + 11, .inl (0, 48, .inl (ax_fill (D 11) 0 48 (-1)))), (nd + 12, .inl (0, 48, .inl (ax_fill (D 12) 0 48 0))), cAr nd 13 48 D, cAr nd 14 2400 D, (nd + 15, .inl (0, 512, .inl (ax_fill (D 15) 0 512 (-1)))), (nd + 16, .inl (0, 961, .inl (ax_fill (D 16) 0 961 (-1)))), (nd + 17, .inl (0, 961, .inl (ax_fill (D 17) 0 961 0))), (nd + 18, .inr (10, [.ref (nd + 10), .ref (nd + 19), .ref (nd + 21), .int 0, .int (-1), .int (D 18 5), .int (D 18 6), .int (D 18 7), .int (D 18 8), .int (D 18 9), .int (D 18 10), .int (D 18 11), .int (D 18 12), .int (D 18 13), .int (D 18 14)])), cWa nd D, cAr nd 20 612 D, cAr nd 21 1152 D, cRk n nn gg C, cOr n nn gg f] := hF.put 18 _ rfl rfl
  replace hf := hf.put (a := nd + 18) (c := .inr (10, [.ref (nd + 10), .ref (nd + 19), .ref (nd + 21), .int 0, .int (-1), .int (D 18 5), .int (D 18 6), .int (D 18 7), .int (D 18 8), .int (D 18 9), .int (D 18 10), .int (D 18 11), .int (D 18 12), .int (D 18 13), .int (D 18 14)])) (Or.inr (by omega))
  replace hN := hN.put (a := nd + 18) (c := .inr (10, [.ref (nd + 10), .ref (nd + 19), .ref (nd + 21), .int 0, .int (-1), .int (D 18 5), .int (D 18 6), .int (D 18 7), .int (D 18 8), .int (D 18 9), .int (D 18 10), .int (D 18 11), .int (D 18 12), .int (D 18 13), .int (D 18 14)])) (by omega)
  replace hn : (ax_put hp_2 (nd + 18) (.inr (10, [.ref (nd + 10), .ref (nd + 19), .ref (nd + 21), .int 0, .int (-1), .int (D 18 5), .int (D 18 6), .int (D 18 7), .int (D 18 8), .int (D 18 9), .int (D 18 10), .int (D 18 11), .int (D 18 12), .int (D 18 13), .int (D 18 14)]))).1 = h0.1 := hn
  replace hs : (ax_put hp_2 (nd + 18) (.inr (10, [.ref (nd + 10), .ref (nd + 19), .ref (nd + 21), .int 0, .int (-1), .int (D 18 5), .int (D 18 6), .int (D 18 7), .int (D 18 8), .int (D 18 9), .int (D 18 10), .int (D 18 11), .int (D 18 12), .int (D 18 13), .int (D 18 14)]))).2.1 = h0.2.1 := hs
  generalize ax_put hp_2 (nd + 18) (.inr (10, [.ref (nd + 10), .ref (nd + 19), .ref (nd + 21), .int 0, .int (-1), .int (D 18 5), .int (D 18 6), .int (D 18 7), .int (D 18 8), .int (D 18 9), .int (D 18 10), .int (D 18 11), .int (D 18 12), .int (D 18 13), .int (D 18 14)])) = hp_3 at hF hf hN hn hs ⊢
  refine ar_aload_n 24 d_33_23 rfl rfl ?_
  refine ar_iconst 25 (v := 0) d_33_24 rfl (by decide) ?_
  refine ar_putf 28 [.int me, .ref (n + 264), .ref n, .ref (nd + 10), .ref (nd + 18), .ref (nd + 8), .ref (nd + 9), .int (D 7 7), .int (D 7 8), .int 0, .int (D 7 10), .long A, .int (D 7 12), .int (D 7 13), .int (D 7 14)] d_33_25 rfl (ci := 9) (k := 9) rfl rfl (hF.at 7 rfl) (Nat.le_of_ble_eq_true rfl) rfl rfl rfl ?_
  replace hF : ax_hs (ax_put hp_3 (nd + 7) (.inr (9, [.int me, .ref (n + 264), .ref n, .ref (nd + 10), .ref (nd + 18), .ref (nd + 8), .ref (nd + 9), .int (D 7 7), .int (D 7 8), .int 0, .int (D 7 10), .long A, .int (D 7 12), .int (D 7 13), .int (D 7 14)]))) [cNd n nd me D, cDk nd D, cAr nd 2 35840 D, cAr nd 3 4096 D, cAr nd 4 32 D, cAr nd 5 280 D, cAr nd 6 280 D, (nd + 7, .inr (9, [.int me, .ref (n + 264), .ref n, .ref (nd + 10), .ref (nd + 18), .ref (nd + 8), .ref (nd + 9), .int (D 7 7), .int (D 7 8), .int 0, .int (D 7 10), .long A, .int (D 7 12), .int (D 7 13), .int (D 7 14)])), cAr nd 8 16 D, cAr nd 9 280 D, (nd + 10, .inr (6, [.int (nI gg), .ref (nd + 11), .ref (nd + 12), .ref (nd + 13), .ref (nd + 14), .ref (nd + 15), .ref (nd + 16), .ref (nd + 17), .long 0, .int 0, .int 0])), (nd + 11, .inl (0, 48, .inl (ax_fill (D 11) 0 48 (-1)))), (nd + 12, .inl (0, 48, .inl (ax_fill (D 12) 0 48 0))), cAr nd 13 48 D, cAr nd 14 2400 D, (nd + 15, .inl (0, 512, .inl (ax_fill (D 15) 0 512 (-1)))), (nd + 16, .inl (0, 961, .inl (ax_fill (D 16) 0 961 (-1)))), (nd + 17, .inl (0, 961, .inl (ax_fill (D 17) 0 961 0))), (nd + 18, .inr (10, [.ref (nd + 10), .ref (nd + 19), .ref (nd + 21), .int 0, .int (-1), .int (D 18 5), .int (D 18 6), .int (D 18 7), .int (D 18 8), .int (D 18 9), .int (D 18 10), .int (D 18 11), .int (D 18 12), .int (D 18 13), .int (D 18 14)])), cWa nd D, cAr nd 20 612 D, cAr nd 21 1152 D, cRk n nn gg C, cOr n nn gg f] := hF.put 7 _ rfl rfl
  replace hf := hf.put (a := nd + 7) (c := .inr (9, [.int me, .ref (n + 264), .ref n, .ref (nd + 10), .ref (nd + 18), .ref (nd + 8), .ref (nd + 9), .int (D 7 7), .int (D 7 8), .int 0, .int (D 7 10), .long A, .int (D 7 12), .int (D 7 13), .int (D 7 14)])) (Or.inr (by omega))
  replace hN := hN.put (a := nd + 7) (c := .inr (9, [.int me, .ref (n + 264), .ref n, .ref (nd + 10), .ref (nd + 18), .ref (nd + 8), .ref (nd + 9), .int (D 7 7), .int (D 7 8), .int 0, .int (D 7 10), .long A, .int (D 7 12), .int (D 7 13), .int (D 7 14)])) (by omega)
  replace hn : (ax_put hp_3 (nd + 7) (.inr (9, [.int me, .ref (n + 264), .ref n, .ref (nd + 10), .ref (nd + 18), .ref (nd + 8), .ref (nd + 9), .int (D 7 7), .int (D 7 8), .int 0, .int (D 7 10), .long A, .int (D 7 12), .int (D 7 13), .int (D 7 14)]))).1 = h0.1 := hn
  replace hs : (ax_put hp_3 (nd + 7) (.inr (9, [.int me, .ref (n + 264), .ref n, .ref (nd + 10), .ref (nd + 18), .ref (nd + 8), .ref (nd + 9), .int (D 7 7), .int (D 7 8), .int 0, .int (D 7 10), .long A, .int (D 7 12), .int (D 7 13), .int (D 7 14)]))).2.1 = h0.2.1 := hs
  generalize ax_put hp_3 (nd + 7) (.inr (9, [.int me, .ref (n + 264), .ref n, .ref (nd + 10), .ref (nd + 18), .ref (nd + 8), .ref (nd + 9), .int (D 7 7), .int (D 7 8), .int 0, .int (D 7 10), .long A, .int (D 7 12), .int (D 7 13), .int (D 7 14)])) = hp_4 at hF hf hN hn hs ⊢
  refine ar_aload_n 29 d_33_28 rfl rfl ?_
  refine ar_iconst 30 (v := 0) d_33_29 rfl (by decide) ?_
  refine ar_putf 33 [.int me, .ref (n + 264), .ref n, .ref (nd + 10), .ref (nd + 18), .ref (nd + 8), .ref (nd + 9), .int (D 7 7), .int (D 7 8), .int 0, .int 0, .long A, .int (D 7 12), .int (D 7 13), .int (D 7 14)] d_33_30 rfl (ci := 9) (k := 10) rfl rfl (hF.at 7 rfl) (Nat.le_of_ble_eq_true rfl) rfl rfl rfl ?_
  replace hF : ax_hs (ax_put hp_4 (nd + 7) (.inr (9, [.int me, .ref (n + 264), .ref n, .ref (nd + 10), .ref (nd + 18), .ref (nd + 8), .ref (nd + 9), .int (D 7 7), .int (D 7 8), .int 0, .int 0, .long A, .int (D 7 12), .int (D 7 13), .int (D 7 14)]))) [cNd n nd me D, cDk nd D, cAr nd 2 35840 D, cAr nd 3 4096 D, cAr nd 4 32 D, cAr nd 5 280 D, cAr nd 6 280 D, (nd + 7, .inr (9, [.int me, .ref (n + 264), .ref n, .ref (nd + 10), .ref (nd + 18), .ref (nd + 8), .ref (nd + 9), .int (D 7 7), .int (D 7 8), .int 0, .int 0, .long A, .int (D 7 12), .int (D 7 13), .int (D 7 14)])), cAr nd 8 16 D, cAr nd 9 280 D, (nd + 10, .inr (6, [.int (nI gg), .ref (nd + 11), .ref (nd + 12), .ref (nd + 13), .ref (nd + 14), .ref (nd + 15), .ref (nd + 16), .ref (nd + 17), .long 0, .int 0, .int 0])), (nd + 11, .inl (0, 48, .inl (ax_fill (D 11) 0 48 (-1)))), (nd + 12, .inl (0, 48, .inl (ax_fill (D 12) 0 48 0))), cAr nd 13 48 D, cAr nd 14 2400 D, (nd + 15, .inl (0, 512, .inl (ax_fill (D 15) 0 512 (-1)))), (nd + 16, .inl (0, 961, .inl (ax_fill (D 16) 0 961 (-1)))), (nd + 17, .inl (0, 961, .inl (ax_fill (D 17) 0 961 0))), (nd + 18, .inr (10, [.ref (nd + 10), .ref (nd + 19), .ref (nd + 21), .int 0, .int (-1), .int (D 18 5), .int (D 18 6), .int (D 18 7), .int (D 18 8), .int (D 18 9), .int (D 18 10), .int (D 18 11), .int (D 18 12), .int (D 18 13), .int (D 18 14)])), cWa nd D, cAr nd 20 612 D, cAr nd 21 1152 D, cRk n nn gg C, cOr n nn gg f] := hF.put 7 _ rfl rfl
  replace hf := hf.put (a := nd + 7) (c := .inr (9, [.int me, .ref (n + 264), .ref n, .ref (nd + 10), .ref (nd + 18), .ref (nd + 8), .ref (nd + 9), .int (D 7 7), .int (D 7 8), .int 0, .int 0, .long A, .int (D 7 12), .int (D 7 13), .int (D 7 14)])) (Or.inr (by omega))
  replace hN := hN.put (a := nd + 7) (c := .inr (9, [.int me, .ref (n + 264), .ref n, .ref (nd + 10), .ref (nd + 18), .ref (nd + 8), .ref (nd + 9), .int (D 7 7), .int (D 7 8), .int 0, .int 0, .long A, .int (D 7 12), .int (D 7 13), .int (D 7 14)])) (by omega)
  replace hn : (ax_put hp_4 (nd + 7) (.inr (9, [.int me, .ref (n + 264), .ref n, .ref (nd + 10), .ref (nd + 18), .ref (nd + 8), .ref (nd + 9), .int (D 7 7), .int (D 7 8), .int 0, .int 0, .long A, .int (D 7 12), .int (D 7 13), .int (D 7 14)]))).1 = h0.1 := hn
  replace hs : (ax_put hp_4 (nd + 7) (.inr (9, [.int me, .ref (n + 264), .ref n, .ref (nd + 10), .ref (nd + 18), .ref (nd + 8), .ref (nd + 9), .int (D 7 7), .int (D 7 8), .int 0, .int 0, .long A, .int (D 7 12), .int (D 7 13), .int (D 7 14)]))).2.1 = h0.2.1 := hs
  generalize ax_put hp_4 (nd + 7) (.inr (9, [.int me, .ref (n + 264), .ref n, .ref (nd + 10), .ref (nd + 18), .ref (nd + 8), .ref (nd + 9), .int (D 7 7), .int (D 7 8), .int 0, .int 0, .long A, .int (D 7 12), .int (D 7 13), .int (D 7 14)])) = hp_5 at hF hf hN hn hs ⊢
  refine ar_aload_n 34 d_33_33 rfl rfl ?_
  refine ar_lconst 35 (v := 0) d_33_34 rfl (by decide) ?_
  refine ar_putf 38 [.int me, .ref (n + 264), .ref n, .ref (nd + 10), .ref (nd + 18), .ref (nd + 8), .ref (nd + 9), .int (D 7 7), .int (D 7 8), .int 0, .int 0, .long 0, .int (D 7 12), .int (D 7 13), .int (D 7 14)] d_33_35 rfl (ci := 9) (k := 11) rfl rfl (hF.at 7 rfl) (Nat.le_of_ble_eq_true rfl) rfl rfl rfl ?_
  replace hF : ax_hs (ax_put hp_5 (nd + 7) (.inr (9, [.int me, .ref (n + 264), .ref n, .ref (nd + 10), .ref (nd + 18), .ref (nd + 8), .ref (nd + 9), .int (D 7 7), .int (D 7 8), .int 0, .int 0, .long 0, .int (D 7 12), .int (D 7 13), .int (D 7 14)]))) [cNd n nd me D, cDk nd D, cAr nd 2 35840 D, cAr nd 3 4096 D, cAr nd 4 32 D, cAr nd 5 280 D, cAr nd 6 280 D, (nd + 7, .inr (9, [.int me, .ref (n + 264), .ref n, .ref (nd + 10), .ref (nd + 18), .ref (nd + 8), .ref (nd + 9), .int (D 7 7), .int (D 7 8), .int 0, .int 0, .long 0, .int (D 7 12), .int (D 7 13), .int (D 7 14)])), cAr nd 8 16 D, cAr nd 9 280 D, (nd + 10, .inr (6, [.int (nI gg), .ref (nd + 11), .ref (nd + 12), .ref (nd + 13), .ref (nd + 14), .ref (nd + 15), .ref (nd + 16), .ref (nd + 17), .long 0, .int 0, .int 0])), (nd + 11, .inl (0, 48, .inl (ax_fill (D 11) 0 48 (-1)))), (nd + 12, .inl (0, 48, .inl (ax_fill (D 12) 0 48 0))), cAr nd 13 48 D, cAr nd 14 2400 D, (nd + 15, .inl (0, 512, .inl (ax_fill (D 15) 0 512 (-1)))), (nd + 16, .inl (0, 961, .inl (ax_fill (D 16) 0 961 (-1)))), (nd + 17, .inl (0, 961, .inl (ax_fill (D 17) 0 961 0))), (nd + 18, .inr (10, [.ref (nd + 10), .ref (nd + 19), .ref (nd + 21), .int 0, .int (-1), .int (D 18 5), .int (D 18 6), .int (D 18 7), .int (D 18 8), .int (D 18 9), .int (D 18 10), .int (D 18 11), .int (D 18 12), .int (D 18 13), .int (D 18 14)])), cWa nd D, cAr nd 20 612 D, cAr nd 21 1152 D, cRk n nn gg C, cOr n nn gg f] := hF.put 7 _ rfl rfl
  replace hf := hf.put (a := nd + 7) (c := .inr (9, [.int me, .ref (n + 264), .ref n, .ref (nd + 10), .ref (nd + 18), .ref (nd + 8), .ref (nd + 9), .int (D 7 7), .int (D 7 8), .int 0, .int 0, .long 0, .int (D 7 12), .int (D 7 13), .int (D 7 14)])) (Or.inr (by omega))
  replace hN := hN.put (a := nd + 7) (c := .inr (9, [.int me, .ref (n + 264), .ref n, .ref (nd + 10), .ref (nd + 18), .ref (nd + 8), .ref (nd + 9), .int (D 7 7), .int (D 7 8), .int 0, .int 0, .long 0, .int (D 7 12), .int (D 7 13), .int (D 7 14)])) (by omega)
  replace hn : (ax_put hp_5 (nd + 7) (.inr (9, [.int me, .ref (n + 264), .ref n, .ref (nd + 10), .ref (nd + 18), .ref (nd + 8), .ref (nd + 9), .int (D 7 7), .int (D 7 8), .int 0, .int 0, .long 0, .int (D 7 12), .int (D 7 13), .int (D 7 14)]))).1 = h0.1 := hn
  replace hs : (ax_put hp_5 (nd + 7) (.inr (9, [.int me, .ref (n + 264), .ref n, .ref (nd + 10), .ref (nd + 18), .ref (nd + 8), .ref (nd + 9), .int (D 7 7), .int (D 7 8), .int 0, .int 0, .long 0, .int (D 7 12), .int (D 7 13), .int (D 7 14)]))).2.1 = h0.2.1 := hs
  generalize ax_put hp_5 (nd + 7) (.inr (9, [.int me, .ref (n + 264), .ref n, .ref (nd + 10), .ref (nd + 18), .ref (nd + 8), .ref (nd + 9), .int (D 7 7), .int (D 7 8), .int 0, .int 0, .long 0, .int (D 7 12), .int (D 7 13), .int (D 7 14)])) = hp_6 at hF hf hN hn hs ⊢
  refine ar_aload_n 39 d_33_38 rfl rfl ?_
  refine ar_iconst 40 (v := 0) d_33_39 rfl (by decide) ?_
  refine ar_putf 43 [.int me, .ref (n + 264), .ref n, .ref (nd + 10), .ref (nd + 18), .ref (nd + 8), .ref (nd + 9), .int (D 7 7), .int (D 7 8), .int 0, .int 0, .long 0, .int 0, .int (D 7 13), .int (D 7 14)] d_33_40 rfl (ci := 9) (k := 12) rfl rfl (hF.at 7 rfl) (Nat.le_of_ble_eq_true rfl) rfl rfl rfl ?_
  replace hF : ax_hs (ax_put hp_6 (nd + 7) (.inr (9, [.int me, .ref (n + 264), .ref n, .ref (nd + 10), .ref (nd + 18), .ref (nd + 8), .ref (nd + 9), .int (D 7 7), .int (D 7 8), .int 0, .int 0, .long 0, .int 0, .int (D 7 13), .int (D 7 14)]))) [cNd n nd me D, cDk nd D, cAr nd 2 35840 D, cAr nd 3 4096 D, cAr nd 4 32 D, cAr nd 5 280 D, cAr nd 6 280 D, (nd + 7, .inr (9, [.int me, .ref (n + 264), .ref n, .ref (nd + 10), .ref (nd + 18), .ref (nd + 8), .ref (nd + 9), .int (D 7 7), .int (D 7 8), .int 0, .int 0, .long 0, .int 0, .int (D 7 13), .int (D 7 14)])), cAr nd 8 16 D, cAr nd 9 280 D, (nd + 10, .inr (6, [.int (nI gg), .ref (nd + 11), .ref (nd + 12), .ref (nd + 13), .ref (nd + 14), .ref (nd + 15), .ref (nd + 16), .ref (nd + 17), .long 0, .int 0, .int 0])), (nd + 11, .inl (0, 48, .inl (ax_fill (D 11) 0 48 (-1)))), (nd + 12, .inl (0, 48, .inl (ax_fill (D 12) 0 48 0))), cAr nd 13 48 D, cAr nd 14 2400 D, (nd + 15, .inl (0, 512, .inl (ax_fill (D 15) 0 512 (-1)))), (nd + 16, .inl (0, 961, .inl (ax_fill (D 16) 0 961 (-1)))), (nd + 17, .inl (0, 961, .inl (ax_fill (D 17) 0 961 0))), (nd + 18, .inr (10, [.ref (nd + 10), .ref (nd + 19), .ref (nd + 21), .int 0, .int (-1), .int (D 18 5), .int (D 18 6), .int (D 18 7), .int (D 18 8), .int (D 18 9), .int (D 18 10), .int (D 18 11), .int (D 18 12), .int (D 18 13), .int (D 18 14)])), cWa nd D, cAr nd 20 612 D, cAr nd 21 1152 D, cRk n nn gg C, cOr n nn gg f] := hF.put 7 _ rfl rfl
  replace hf := hf.put (a := nd + 7) (c := .inr (9, [.int me, .ref (n + 264), .ref n, .ref (nd + 10), .ref (nd + 18), .ref (nd + 8), .ref (nd + 9), .int (D 7 7), .int (D 7 8), .int 0, .int 0, .long 0, .int 0, .int (D 7 13), .int (D 7 14)])) (Or.inr (by omega))
  replace hN := hN.put (a := nd + 7) (c := .inr (9, [.int me, .ref (n + 264), .ref n, .ref (nd + 10), .ref (nd + 18), .ref (nd + 8), .ref (nd + 9), .int (D 7 7), .int (D 7 8), .int 0, .int 0, .long 0, .int 0, .int (D 7 13), .int (D 7 14)])) (by omega)
  replace hn : (ax_put hp_6 (nd + 7) (.inr (9, [.int me, .ref (n + 264), .ref n, .ref (nd + 10), .ref (nd + 18), .ref (nd + 8), .ref (nd + 9), .int (D 7 7), .int (D 7 8), .int 0, .int 0, .long 0, .int 0, .int (D 7 13), .int (D 7 14)]))).1 = h0.1 := hn
  replace hs : (ax_put hp_6 (nd + 7) (.inr (9, [.int me, .ref (n + 264), .ref n, .ref (nd + 10), .ref (nd + 18), .ref (nd + 8), .ref (nd + 9), .int (D 7 7), .int (D 7 8), .int 0, .int 0, .long 0, .int 0, .int (D 7 13), .int (D 7 14)]))).2.1 = h0.2.1 := hs
  generalize ax_put hp_6 (nd + 7) (.inr (9, [.int me, .ref (n + 264), .ref n, .ref (nd + 10), .ref (nd + 18), .ref (nd + 8), .ref (nd + 9), .int (D 7 7), .int (D 7 8), .int 0, .int 0, .long 0, .int 0, .int (D 7 13), .int (D 7 14)])) = hp_7 at hF hf hN hn hs ⊢
  refine ar_aload_n 44 d_33_43 rfl rfl ?_
  refine ar_iconst 45 (v := 0) d_33_44 rfl (by decide) ?_
  refine ar_putf 48 [.int me, .ref (n + 264), .ref n, .ref (nd + 10), .ref (nd + 18), .ref (nd + 8), .ref (nd + 9), .int (D 7 7), .int (D 7 8), .int 0, .int 0, .long 0, .int 0, .int 0, .int (D 7 14)] d_33_45 rfl (ci := 9) (k := 13) rfl rfl (hF.at 7 rfl) (Nat.le_of_ble_eq_true rfl) rfl rfl rfl ?_
  replace hF : ax_hs (ax_put hp_7 (nd + 7) (.inr (9, [.int me, .ref (n + 264), .ref n, .ref (nd + 10), .ref (nd + 18), .ref (nd + 8), .ref (nd + 9), .int (D 7 7), .int (D 7 8), .int 0, .int 0, .long 0, .int 0, .int 0, .int (D 7 14)]))) [cNd n nd me D, cDk nd D, cAr nd 2 35840 D, cAr nd 3 4096 D, cAr nd 4 32 D, cAr nd 5 280 D, cAr nd 6 280 D, (nd + 7, .inr (9, [.int me, .ref (n + 264), .ref n, .ref (nd + 10), .ref (nd + 18), .ref (nd + 8), .ref (nd + 9), .int (D 7 7), .int (D 7 8), .int 0, .int 0, .long 0, .int 0, .int 0, .int (D 7 14)])), cAr nd 8 16 D, cAr nd 9 280 D, (nd + 10, .inr (6, [.int (nI gg), .ref (nd + 11), .ref (nd + 12), .ref (nd + 13), .ref (nd + 14), .ref (nd + 15), .ref (nd + 16), .ref (nd + 17), .long 0, .int 0, .int 0])), (nd + 11, .inl (0, 48, .inl (ax_fill (D 11) 0 48 (-1)))), (nd + 12, .inl (0, 48, .inl (ax_fill (D 12) 0 48 0))), cAr nd 13 48 D, cAr nd 14 2400 D, (nd + 15, .inl (0, 512, .inl (ax_fill (D 15) 0 512 (-1)))), (nd + 16, .inl (0, 961, .inl (ax_fill (D 16) 0 961 (-1)))), (nd + 17, .inl (0, 961, .inl (ax_fill (D 17) 0 961 0))), (nd + 18, .inr (10, [.ref (nd + 10), .ref (nd + 19), .ref (nd + 21), .int 0, .int (-1), .int (D 18 5), .int (D 18 6), .int (D 18 7), .int (D 18 8), .int (D 18 9), .int (D 18 10), .int (D 18 11), .int (D 18 12), .int (D 18 13), .int (D 18 14)])), cWa nd D, cAr nd 20 612 D, cAr nd 21 1152 D, cRk n nn gg C, cOr n nn gg f] := hF.put 7 _ rfl rfl
  replace hf := hf.put (a := nd + 7) (c := .inr (9, [.int me, .ref (n + 264), .ref n, .ref (nd + 10), .ref (nd + 18), .ref (nd + 8), .ref (nd + 9), .int (D 7 7), .int (D 7 8), .int 0, .int 0, .long 0, .int 0, .int 0, .int (D 7 14)])) (Or.inr (by omega))
  replace hN := hN.put (a := nd + 7) (c := .inr (9, [.int me, .ref (n + 264), .ref n, .ref (nd + 10), .ref (nd + 18), .ref (nd + 8), .ref (nd + 9), .int (D 7 7), .int (D 7 8), .int 0, .int 0, .long 0, .int 0, .int 0, .int (D 7 14)])) (by omega)
  replace hn : (ax_put hp_7 (nd + 7) (.inr (9, [.int me, .ref (n + 264), .ref n, .ref (nd + 10), .ref (nd + 18), .ref (nd + 8), .ref (nd + 9), .int (D 7 7), .int (D 7 8), .int 0, .int 0, .long 0, .int 0, .int 0, .int (D 7 14)]))).1 = h0.1 := hn
  replace hs : (ax_put hp_7 (nd + 7) (.inr (9, [.int me, .ref (n + 264), .ref n, .ref (nd + 10), .ref (nd + 18), .ref (nd + 8), .ref (nd + 9), .int (D 7 7), .int (D 7 8), .int 0, .int 0, .long 0, .int 0, .int 0, .int (D 7 14)]))).2.1 = h0.2.1 := hs
  generalize ax_put hp_7 (nd + 7) (.inr (9, [.int me, .ref (n + 264), .ref n, .ref (nd + 10), .ref (nd + 18), .ref (nd + 8), .ref (nd + 9), .int (D 7 7), .int (D 7 8), .int 0, .int 0, .long 0, .int 0, .int 0, .int (D 7 14)])) = hp_8 at hF hf hN hn hs ⊢
  refine ar_aload_n 49 d_33_48 rfl rfl ?_
  refine ar_iconst 50 (v := 0) d_33_49 rfl (by decide) ?_
  refine ar_putf 53 [.int me, .ref (n + 264), .ref n, .ref (nd + 10), .ref (nd + 18), .ref (nd + 8), .ref (nd + 9), .int (D 7 7), .int (D 7 8), .int 0, .int 0, .long 0, .int 0, .int 0, .int 0] d_33_50 rfl (ci := 9) (k := 14) rfl rfl (hF.at 7 rfl) (Nat.le_of_ble_eq_true rfl) rfl rfl rfl ?_
  replace hF : ax_hs (ax_put hp_8 (nd + 7) (.inr (9, [.int me, .ref (n + 264), .ref n, .ref (nd + 10), .ref (nd + 18), .ref (nd + 8), .ref (nd + 9), .int (D 7 7), .int (D 7 8), .int 0, .int 0, .long 0, .int 0, .int 0, .int 0]))) [cNd n nd me D, cDk nd D, cAr nd 2 35840 D, cAr nd 3 4096 D, cAr nd 4 32 D, cAr nd 5 280 D, cAr nd 6 280 D, (nd + 7, .inr (9, [.int me, .ref (n + 264), .ref n, .ref (nd + 10), .ref (nd + 18), .ref (nd + 8), .ref (nd + 9), .int (D 7 7), .int (D 7 8), .int 0, .int 0, .long 0, .int 0, .int 0, .int 0])), cAr nd 8 16 D, cAr nd 9 280 D, (nd + 10, .inr (6, [.int (nI gg), .ref (nd + 11), .ref (nd + 12), .ref (nd + 13), .ref (nd + 14), .ref (nd + 15), .ref (nd + 16), .ref (nd + 17), .long 0, .int 0, .int 0])), (nd + 11, .inl (0, 48, .inl (ax_fill (D 11) 0 48 (-1)))), (nd + 12, .inl (0, 48, .inl (ax_fill (D 12) 0 48 0))), cAr nd 13 48 D, cAr nd 14 2400 D, (nd + 15, .inl (0, 512, .inl (ax_fill (D 15) 0 512 (-1)))), (nd + 16, .inl (0, 961, .inl (ax_fill (D 16) 0 961 (-1)))), (nd + 17, .inl (0, 961, .inl (ax_fill (D 17) 0 961 0))), (nd + 18, .inr (10, [.ref (nd + 10), .ref (nd + 19), .ref (nd + 21), .int 0, .int (-1), .int (D 18 5), .int (D 18 6), .int (D 18 7), .int (D 18 8), .int (D 18 9), .int (D 18 10), .int (D 18 11), .int (D 18 12), .int (D 18 13), .int (D 18 14)])), cWa nd D, cAr nd 20 612 D, cAr nd 21 1152 D, cRk n nn gg C, cOr n nn gg f] := hF.put 7 _ rfl rfl
  replace hf := hf.put (a := nd + 7) (c := .inr (9, [.int me, .ref (n + 264), .ref n, .ref (nd + 10), .ref (nd + 18), .ref (nd + 8), .ref (nd + 9), .int (D 7 7), .int (D 7 8), .int 0, .int 0, .long 0, .int 0, .int 0, .int 0])) (Or.inr (by omega))
  replace hN := hN.put (a := nd + 7) (c := .inr (9, [.int me, .ref (n + 264), .ref n, .ref (nd + 10), .ref (nd + 18), .ref (nd + 8), .ref (nd + 9), .int (D 7 7), .int (D 7 8), .int 0, .int 0, .long 0, .int 0, .int 0, .int 0])) (by omega)
  replace hn : (ax_put hp_8 (nd + 7) (.inr (9, [.int me, .ref (n + 264), .ref n, .ref (nd + 10), .ref (nd + 18), .ref (nd + 8), .ref (nd + 9), .int (D 7 7), .int (D 7 8), .int 0, .int 0, .long 0, .int 0, .int 0, .int 0]))).1 = h0.1 := hn
  replace hs : (ax_put hp_8 (nd + 7) (.inr (9, [.int me, .ref (n + 264), .ref n, .ref (nd + 10), .ref (nd + 18), .ref (nd + 8), .ref (nd + 9), .int (D 7 7), .int (D 7 8), .int 0, .int 0, .long 0, .int 0, .int 0, .int 0]))).2.1 = h0.2.1 := hs
  generalize ax_put hp_8 (nd + 7) (.inr (9, [.int me, .ref (n + 264), .ref n, .ref (nd + 10), .ref (nd + 18), .ref (nd + 8), .ref (nd + 9), .int (D 7 7), .int (D 7 8), .int 0, .int 0, .long 0, .int 0, .int 0, .int 0])) = hp_9 at hF hf hN hn hs ⊢
  have hS9 : NS Z n nd nn gg C me f q u b uv h0 hp_9 (va_up (va_up (va_up (va_up (va_up (va_up (va_up (va_up D 7 (upd (upd (upd (upd (upd (D 7) 9 0) 10 0) 12 0) 13 0) 14 0)) 10 (upd (upd (D 10) 9 0) 10 0)) 11 (ax_fill (D 11) 0 48 (-1))) 12 (ax_fill (D 12) 0 48 0)) 15 (ax_fill (D 15) 0 512 (-1))) 16 (ax_fill (D 16) 0 961 (-1))) 17 (ax_fill (D 17) 0 961 0)) 18 (upd (upd (D 18) 3 0) 4 (-1))) 0 0 Y := ⟨hF, hN, hf, hn, hs, hp0, hu0⟩
  have hI9 : NI Z nn (va_up (va_up (va_up (va_up (va_up (va_up (va_up (va_up D 7 (upd (upd (upd (upd (upd (D 7) 9 0) 10 0) 12 0) 13 0) 14 0)) 10 (upd (upd (D 10) 9 0) 10 0)) 11 (ax_fill (D 11) 0 48 (-1))) 12 (ax_fill (D 12) 0 48 0)) 15 (ax_fill (D 15) 0 512 (-1))) 16 (ax_fill (D 16) 0 961 (-1))) 17 (ax_fill (D 17) 0 961 0)) 18 (upd (upd (D 18) 3 0) 4 (-1))) := ⟨hI.1, TI.forget (fun f hf => (hI.2.1.2.2.2.1 f hf).2), WI.idle rfl hI.2.2.1.1 hI.2.2.1.2.2.1 hI.2.2.1.2.2.2.2.2.2.2, ⟨0, by decide, rfl⟩, ⟨0, by omega, rfl⟩⟩
  exact ar_ret d_33_53 rfl (⟨rfl, _, _, _, _, hS9, hI9, rfl, trivial⟩)
def G_32 (nn gg : Nat) (C me : Int32) (f u b : Nat → Int32)  : Nat → Nat → (Nat → Nat → Int32) → Int64 → Int64 → List Mg → St
  | 0, i, D, K, A, Y =>
    bnS (F_35 nn gg C me f u b D K A Y) (fun D1 K1 A1 Y1 =>
      (D1, K1, A1, Y1))
  | k + 1, i, D, K, A, Y =>
    G_32 nn gg C me f u b k (i + 1) (va_up D 8 (upd (D 8) i (mof2 C (mof f C (D 7 8) nn (i * nn) 0 0)))) K A Y
def F_32 (nn gg : Nat) (C me : Int32) (f u b : Nat → Int32) (D : Nat → Nat → Int32) (K A : Int64) (Y : List Mg) (e2 s2 : Int32) : St :=
  bnS (F_33 nn gg C me f u b D K A Y) (fun D1 K1 A1 Y1 =>
    G_32 nn gg C me f u b gg 0 (va_up D1 7 (upd (upd (D1 7) 7 e2) 8 s2)) K1 A1 Y1)
theorem s_32 {L : Nat} {xs : Nat → Int32} {fr lo : Nat} {Z : ZT} {n nd nn gg : Nat} {C me : Int32} {f : Nat → Int32} {q : Nat} {u b : Nat → Int32} {uv : Int32} {h0 h : ax_H} {D : Nat → Nat → Int32} {K A : Int64} {Y : List Mg} {e2 s2 : Int32} (hfr : 3 ≤ fr) (hlo : 90 ≤ lo) (hC : CS n nd nn gg f) (hS : NS Z n nd nn gg C me f q u b uv h0 h D K A Y) (hI : NI Z nn D) : ax_M L xs 32 fr lo [.ref (nd + 7), .int e2, .int s2] h (fun r h' => r = none ∧ PS Z n nd nn gg C me f q u b uv h0 h' (fun D' K' A' Y' => (D', K', A', Y') = F_32 nn gg C me f u b D K A Y e2 s2 ∧ True)) := by
  have hC0 := hC
  have key : ∀ (k i : Nat) (h : ax_H) (D : Nat → Nat → Int32) (K A : Int64) (Y : List Mg), i + k = gg → NS Z n nd nn gg C me f q u b uv h0 h D K A Y → NI Z nn D → ax_A (ax_step L xs) ((32, 16, fr, lo), [(0, .ref (nd + 7)), (1, .int e2), (2, .int s2), (3, .int (nI i))], [], h) (fun r h' => r = none ∧ PS Z n nd nn gg C me f q u b uv h0 h' (fun D' K' A' Y' => (D', K', A', Y') = G_32 nn gg C me f u b k i D K A Y ∧ True)) := by
    intro k
    induction k with
    | zero =>
      intro i h D K A Y hi hS hI
      have e0 : i = gg := by omega
      obtain ⟨hnd, hn0, hnn3, hnn, hgg1, hgg, hRg⟩ := hC
      obtain ⟨hF, hN, hf, hn, hs, hp0, hu0⟩ := hS
      replace hF : ax_hs h [cNd n nd me D, cDk nd D, cAr nd 2 35840 D, cAr nd 3 4096 D, cAr nd 4 32 D, cAr nd 5 280 D, cAr nd 6 280 D, cLd n nd me D A, cAr nd 8 16 D, cAr nd 9 280 D, cTb nd gg D K, cAr nd 11 48 D, cAr nd 12 48 D, cAr nd 13 48 D, cAr nd 14 2400 D, cAr nd 15 512 D, cAr nd 16 961 D, cAr nd 17 961 D, cWk nd D, cWa nd D, cAr nd 20 612 D, cAr nd 21 1152 D, cRk n nn gg C, cOr n nn gg f] := hF
      refine ar_iload_n 17 d_32_16 rfl rfl ?_
      refine ar_aload_n 18 d_32_17 rfl rfl ?_
      refine ar_getf 21 d_32_18 rfl (ci := 9) (k := 1) rfl (hF.at 7 rfl) rfl ?_
      refine ar_getf 24 d_32_21 rfl (ci := 3) (k := 2) rfl (hF.at 22 rfl) rfl ?_
      refine ar_icmp_ge 51 27 d_32_24 (by decide) rfl (fun _ => ?_) (fun c => absurd (by rw [e0]; exact Int32.le_refl _) c)
      refine ar_aload_n 52 d_32_51 rfl rfl ?_
      have hS1 : NS Z n nd nn gg C me f q u b uv h0 h D K A Y := ⟨hF, hN, hf, hn, hs, hp0, hu0⟩
      have hI1 : NI Z nn D := hI
      refine ar_call (r := []) (na := 0) (kd := 0) (cm := 35) (fr2 := fr - 1) (lo2 := lo - 21) 55 d_32_52 (ar_hoV (as := []) rfl rfl rfl (hF.at 7 rfl)) rfl (by omega) (show lo - 21 + (19 + 2) = lo by omega) (Nat.le_of_ble_eq_true rfl) (Nat.le_of_ble_eq_true rfl) (s_35 (by omega) (by omega) hC0 hS1 hI1) ?_
      intro v hp_1 hq
      obtain ⟨rfl, D1, K1, A1, Y1, hS2, hI2, hE1, -⟩ := hq
      clear hS1 hI1 hF hN hf hn hs hp0 hu0
      obtain ⟨hF, hN, hf, hn, hs, hp0, hu0⟩ := hS2
      replace hF : ax_hs hp_1 [cNd n nd me D1, cDk nd D1, cAr nd 2 35840 D1, cAr nd 3 4096 D1, cAr nd 4 32 D1, cAr nd 5 280 D1, cAr nd 6 280 D1, cLd n nd me D1 A1, cAr nd 8 16 D1, cAr nd 9 280 D1, cTb nd gg D1 K1, cAr nd 11 48 D1, cAr nd 12 48 D1, cAr nd 13 48 D1, cAr nd 14 2400 D1, cAr nd 15 512 D1, cAr nd 16 961 D1, cAr nd 17 961 D1, cWk nd D1, cWa nd D1, cAr nd 20 612 D1, cAr nd 21 1152 D1, cRk n nn gg C, cOr n nn gg f] := hF
      have hI1 := hI2
      clear hI2
      have hS9 : NS Z n nd nn gg C me f q u b uv h0 hp_1 D1 K1 A1 Y1 := ⟨hF, hN, hf, hn, hs, hp0, hu0⟩
      have hI9 : NI Z nn D1 := hI1
      exact ar_ret d_32_55 rfl (⟨rfl, _, _, _, _, hS9, hI9, bnS_eq hE1 (rfl), trivial⟩)
    | succ k ih =>
      intro i h D K A Y hi hS hI
      have hic : i < gg := by omega
      obtain ⟨hnd, hn0, hnn3, hnn, hgg1, hgg, hRg⟩ := hC
      obtain ⟨hF, hN, hf, hn, hs, hp0, hu0⟩ := hS
      replace hF : ax_hs h [cNd n nd me D, cDk nd D, cAr nd 2 35840 D, cAr nd 3 4096 D, cAr nd 4 32 D, cAr nd 5 280 D, cAr nd 6 280 D, cLd n nd me D A, cAr nd 8 16 D, cAr nd 9 280 D, cTb nd gg D K, cAr nd 11 48 D, cAr nd 12 48 D, cAr nd 13 48 D, cAr nd 14 2400 D, cAr nd 15 512 D, cAr nd 16 961 D, cAr nd 17 961 D, cWk nd D, cWa nd D, cAr nd 20 612 D, cAr nd 21 1152 D, cRk n nn gg C, cOr n nn gg f] := hF
      refine ar_iload_n 17 d_32_16 rfl rfl ?_
      refine ar_aload_n 18 d_32_17 rfl rfl ?_
      refine ar_getf 21 d_32_18 rfl (ci := 9) (k := 1) rfl (hF.at 7 rfl) rfl ?_
      refine ar_getf 24 d_32_21 rfl (ci := 3) (k := 2) rfl (hF.at 22 rfl) rfl ?_
      refine ar_icmp_ge 51 27 d_32_24 (by decide) rfl (fun c => absurd c (nI_ge hic (by omega))) (fun _ => ?_)
      refine ar_aload_n 28 d_32_27 rfl rfl ?_
      refine ar_getf 31 d_32_28 rfl (ci := 9) (k := 5) rfl (hF.at 7 rfl) rfl ?_
      refine ar_iload_n 32 d_32_31 rfl rfl ?_
      refine ar_aload_n 33 d_32_32 rfl rfl ?_
      refine ar_getf 36 d_32_33 rfl (ci := 9) (k := 1) rfl (hF.at 7 rfl) rfl ?_
      refine ar_iload_n 37 d_32_36 rfl rfl ?_
      refine ar_aload_n 38 d_32_37 rfl rfl ?_
      refine ar_getf 41 d_32_38 rfl (ci := 9) (k := 8) rfl (hF.at 7 rfl) rfl ?_
      refine ar_call (r := [.int (nI i), .ref (nd + 8)]) (na := 0) (kd := 0) (cm := 34) (fr2 := fr - 1) (lo2 := lo - 26) 44 d_32_41 (ar_hoV (as := [.int (nI i), .int (D 7 8)]) rfl rfl rfl (hF.at 22 rfl)) rfl (by omega) (show lo - 26 + (19 + 7) = lo by omega) (Nat.le_of_ble_eq_true rfl) (Nat.le_of_ble_eq_true rfl) (c_34 hgg hnn (g := i) hic (hF.sub (F' := [cRk n nn gg C, cOr n nn gg f]) [22, 23] rfl rfl)) ?_
      intro v hh hq
      obtain ⟨rfl, ehh⟩ := hq
      rw [ehh]
      clear ehh
      refine ar_iastN 45 (e := i) d_32_44 rfl (hF.at 8 rfl) (by omega) (by omega) ?_
      replace hF : ax_hs (ax_put h (nd + 8) (.inl (0, 16, .inl (upd (D 8) i (mof2 C (mof f C (D 7 8) nn (i * nn) 0 0)))))) [cNd n nd me D, cDk nd D, cAr nd 2 35840 D, cAr nd 3 4096 D, cAr nd 4 32 D, cAr nd 5 280 D, cAr nd 6 280 D, cLd n nd me D A, (nd + 8, .inl (0, 16, .inl (upd (D 8) i (mof2 C (mof f C (D 7 8) nn (i * nn) 0 0))))), cAr nd 9 280 D, cTb nd gg D K, cAr nd 11 48 D, cAr nd 12 48 D, cAr nd 13 48 D, cAr nd 14 2400 D, cAr nd 15 512 D, cAr nd 16 961 D, cAr nd 17 961 D, cWk nd D, cWa nd D, cAr nd 20 612 D, cAr nd 21 1152 D, cRk n nn gg C, cOr n nn gg f] := hF.put 8 _ rfl rfl
      replace hf := hf.put (a := nd + 8) (c := .inl (0, 16, .inl (upd (D 8) i (mof2 C (mof f C (D 7 8) nn (i * nn) 0 0))))) (Or.inr (by omega))
      replace hN := hN.put (a := nd + 8) (c := .inl (0, 16, .inl (upd (D 8) i (mof2 C (mof f C (D 7 8) nn (i * nn) 0 0))))) (by omega)
      replace hn : (ax_put h (nd + 8) (.inl (0, 16, .inl (upd (D 8) i (mof2 C (mof f C (D 7 8) nn (i * nn) 0 0)))))).1 = h0.1 := hn
      replace hs : (ax_put h (nd + 8) (.inl (0, 16, .inl (upd (D 8) i (mof2 C (mof f C (D 7 8) nn (i * nn) 0 0)))))).2.1 = h0.2.1 := hs
      generalize ax_put h (nd + 8) (.inl (0, 16, .inl (upd (D 8) i (mof2 C (mof f C (D 7 8) nn (i * nn) 0 0))))) = hp_2 at hF hf hN hn hs ⊢
      refine ar_iinc 48 [(0, .ref (nd + 7)), (1, .int e2), (2, .int s2), (3, .int (nI (i + 1)))] d_32_45 rfl rfl (nI_1 i) (by decide) rfl ?_
      refine ar_goto 16 d_32_48 (by decide) ?_
      have hS1 : NS Z n nd nn gg C me f q u b uv h0 hp_2 (va_up D 8 (upd (D 8) i (mof2 C (mof f C (D 7 8) nn (i * nn) 0 0)))) K A Y := ⟨hF, hN, hf, hn, hs, hp0, hu0⟩
      have hI1 : NI Z nn (va_up D 8 (upd (D 8) i (mof2 C (mof f C (D 7 8) nn (i * nn) 0 0)))) := hI
      rw [← show G_32 nn gg C me f u b k (i + 1) (va_up D 8 (upd (D 8) i (mof2 C (mof f C (D 7 8) nn (i * nn) 0 0)))) K A Y = G_32 nn gg C me f u b (k + 1) i D K A Y from rfl]
      exact ih (i + 1) hp_2 (va_up D 8 (upd (D 8) i (mof2 C (mof f C (D 7 8) nn (i * nn) 0 0)))) K A Y (by omega) hS1 hI1
  show ax_A (ax_step L xs) ((32, 0, fr, lo), [(0, .ref (nd + 7)), (1, .int e2), (2, .int s2)], [], h) _
  obtain ⟨hnd, hn0, hnn3, hnn, hgg1, hgg, hRg⟩ := hC
  obtain ⟨hF, hN, hf, hn, hs, hp0, hu0⟩ := hS
  replace hF : ax_hs h [cNd n nd me D, cDk nd D, cAr nd 2 35840 D, cAr nd 3 4096 D, cAr nd 4 32 D, cAr nd 5 280 D, cAr nd 6 280 D, cLd n nd me D A, cAr nd 8 16 D, cAr nd 9 280 D, cTb nd gg D K, cAr nd 11 48 D, cAr nd 12 48 D, cAr nd 13 48 D, cAr nd 14 2400 D, cAr nd 15 512 D, cAr nd 16 961 D, cAr nd 17 961 D, cWk nd D, cWa nd D, cAr nd 20 612 D, cAr nd 21 1152 D, cRk n nn gg C, cOr n nn gg f] := hF
  refine ar_aload_n 1 d_32_0 rfl rfl ?_
  have hS1 : NS Z n nd nn gg C me f q u b uv h0 h D K A Y := ⟨hF, hN, hf, hn, hs, hp0, hu0⟩
  have hI1 : NI Z nn D := hI
  refine ar_call (r := []) (na := 0) (kd := 0) (cm := 33) (fr2 := fr - 1) (lo2 := lo - 20) 4 d_32_1 (ar_hoV (as := []) rfl rfl rfl (hF.at 7 rfl)) rfl (by omega) (show lo - 20 + (19 + 1) = lo by omega) (Nat.le_of_ble_eq_true rfl) (Nat.le_of_ble_eq_true rfl) (s_33 (by omega) (by omega) hC0 hS1 hI1) ?_
  intro v hp_1 hq
  obtain ⟨rfl, D1, K1, A1, Y1, hS2, hI2, hE1, -⟩ := hq
  clear hS1 hI1 hF hN hf hn hs hp0 hu0
  obtain ⟨hF, hN, hf, hn, hs, hp0, hu0⟩ := hS2
  replace hF : ax_hs hp_1 [cNd n nd me D1, cDk nd D1, cAr nd 2 35840 D1, cAr nd 3 4096 D1, cAr nd 4 32 D1, cAr nd 5 280 D1, cAr nd 6 280 D1, cLd n nd me D1 A1, cAr nd 8 16 D1, cAr nd 9 280 D1, cTb nd gg D1 K1, cAr nd 11 48 D1, cAr nd 12 48 D1, cAr nd 13 48 D1, cAr nd 14 2400 D1, cAr nd 15 512 D1, cAr nd 16 961 D1, cAr nd 17 961 D1, cWk nd D1, cWa nd D1, cAr nd 20 612 D1, cAr nd 21 1152 D1, cRk n nn gg C, cOr n nn gg f] := hF
  have hI1 := hI2
  clear hI2
  refine ar_aload_n 5 d_32_4 rfl rfl ?_
  refine ar_iload_n 6 d_32_5 rfl rfl ?_
  refine ar_putf 9 [.int me, .ref (n + 264), .ref n, .ref (nd + 10), .ref (nd + 18), .ref (nd + 8), .ref (nd + 9), .int e2, .int (D1 7 8), .int (D1 7 9), .int (D1 7 10), .long A1, .int (D1 7 12), .int (D1 7 13), .int (D1 7 14)] d_32_6 rfl (ci := 9) (k := 7) rfl rfl (hF.at 7 rfl) (Nat.le_of_ble_eq_true rfl) rfl rfl rfl ?_
  replace hF : ax_hs (ax_put hp_1 (nd + 7) (.inr (9, [.int me, .ref (n + 264), .ref n, .ref (nd + 10), .ref (nd + 18), .ref (nd + 8), .ref (nd + 9), .int e2, .int (D1 7 8), .int (D1 7 9), .int (D1 7 10), .long A1, .int (D1 7 12), .int (D1 7 13), .int (D1 7 14)]))) [cNd n nd me D1, cDk nd D1, cAr nd 2 35840 D1, cAr nd 3 4096 D1, cAr nd 4 32 D1, cAr nd 5 280 D1, cAr nd 6 280 D1, (nd + 7, .inr (9, [.int me, .ref (n + 264), .ref n, .ref (nd + 10), .ref (nd + 18), .ref (nd + 8), .ref (nd + 9), .int e2, .int (D1 7 8), .int (D1 7 9), .int (D1 7 10), .long A1, .int (D1 7 12), .int (D1 7 13), .int (D1 7 14)])), cAr nd 8 16 D1, cAr nd 9 280 D1, cTb nd gg D1 K1, cAr nd 11 48 D1, cAr nd 12 48 D1, cAr nd 13 48 D1, cAr nd 14 2400 D1, cAr nd 15 512 D1, cAr nd 16 961 D1, cAr nd 17 961 D1, cWk nd D1, cWa nd D1, cAr nd 20 612 D1, cAr nd 21 1152 D1, cRk n nn gg C, cOr n nn gg f] := hF.put 7 _ rfl rfl
  replace hf := hf.put (a := nd + 7) (c := .inr (9, [.int me, .ref (n + 264), .ref n, .ref (nd + 10), .ref (nd + 18), .ref (nd + 8), .ref (nd + 9), .int e2, .int (D1 7 8), .int (D1 7 9), .int (D1 7 10), .long A1, .int (D1 7 12), .int (D1 7 13), .int (D1 7 14)])) (Or.inr (by omega))
  replace hN := hN.put (a := nd + 7) (c := .inr (9, [.int me, .ref (n + 264), .ref n, .ref (nd + 10), .ref (nd + 18), .ref (nd + 8), .ref (nd + 9), .int e2, .int (D1 7 8), .int (D1 7 9), .int (D1 7 10), .long A1, .int (D1 7 12), .int (D1 7 13), .int (D1 7 14)])) (by omega)
  replace hn : (ax_put hp_1 (nd + 7) (.inr (9, [.int me, .ref (n + 264), .ref n, .ref (nd + 10), .ref (nd + 18), .ref (nd + 8), .ref (nd + 9), .int e2, .int (D1 7 8), .int (D1 7 9), .int (D1 7 10), .long A1, .int (D1 7 12), .int (D1 7 13), .int (D1 7 14)]))).1 = h0.1 := hn
  replace hs : (ax_put hp_1 (nd + 7) (.inr (9, [.int me, .ref (n + 264), .ref n, .ref (nd + 10), .ref (nd + 18), .ref (nd + 8), .ref (nd + 9), .int e2, .int (D1 7 8), .int (D1 7 9), .int (D1 7 10), .long A1, .int (D1 7 12), .int (D1 7 13), .int (D1 7 14)]))).2.1 = h0.2.1 := hs
  generalize ax_put hp_1 (nd + 7) (.inr (9, [.int me, .ref (n + 264), .ref n, .ref (nd + 10), .ref (nd + 18), .ref (nd + 8), .ref (nd + 9), .int e2, .int (D1 7 8), .int (D1 7 9), .int (D1 7 10), .long A1, .int (D1 7 12), .int (D1 7 13), .int (D1 7 14)])) = hp_2 at hF hf hN hn hs ⊢
  refine ar_aload_n 10 d_32_9 rfl rfl ?_
  refine ar_iload_n 11 d_32_10 rfl rfl ?_
  refine ar_putf 14 [.int me, .ref (n + 264), .ref n, .ref (nd + 10), .ref (nd + 18), .ref (nd + 8), .ref (nd + 9), .int e2, .int s2, .int (D1 7 9), .int (D1 7 10), .long A1, .int (D1 7 12), .int (D1 7 13), .int (D1 7 14)] d_32_11 rfl (ci := 9) (k := 8) rfl rfl (hF.at 7 rfl) (Nat.le_of_ble_eq_true rfl) rfl rfl rfl ?_
  replace hF : ax_hs (ax_put hp_2 (nd + 7) (.inr (9, [.int me, .ref (n + 264), .ref n, .ref (nd + 10), .ref (nd + 18), .ref (nd + 8), .ref (nd + 9), .int e2, .int s2, .int (D1 7 9), .int (D1 7 10), .long A1, .int (D1 7 12), .int (D1 7 13), .int (D1 7 14)]))) [cNd n nd me D1, cDk nd D1, cAr nd 2 35840 D1, cAr nd 3 4096 D1, cAr nd 4 32 D1, cAr nd 5 280 D1, cAr nd 6 280 D1, (nd + 7, .inr (9, [.int me, .ref (n + 264), .ref n, .ref (nd + 10), .ref (nd + 18), .ref (nd + 8), .ref (nd + 9), .int e2, .int s2, .int (D1 7 9), .int (D1 7 10), .long A1, .int (D1 7 12), .int (D1 7 13), .int (D1 7 14)])), cAr nd 8 16 D1, cAr nd 9 280 D1, cTb nd gg D1 K1, cAr nd 11 48 D1, cAr nd 12 48 D1, cAr nd 13 48 D1, cAr nd 14 2400 D1, cAr nd 15 512 D1, cAr nd 16 961 D1, cAr nd 17 961 D1, cWk nd D1, cWa nd D1, cAr nd 20 612 D1, cAr nd 21 1152 D1, cRk n nn gg C, cOr n nn gg f] := hF.put 7 _ rfl rfl
  replace hf := hf.put (a := nd + 7) (c := .inr (9, [.int me, .ref (n + 264), .ref n, .ref (nd + 10), .ref (nd + 18), .ref (nd + 8), .ref (nd + 9), .int e2, .int s2, .int (D1 7 9), .int (D1 7 10), .long A1, .int (D1 7 12), .int (D1 7 13), .int (D1 7 14)])) (Or.inr (by omega))
  replace hN := hN.put (a := nd + 7) (c := .inr (9, [.int me, .ref (n + 264), .ref n, .ref (nd + 10), .ref (nd + 18), .ref (nd + 8), .ref (nd + 9), .int e2, .int s2, .int (D1 7 9), .int (D1 7 10), .long A1, .int (D1 7 12), .int (D1 7 13), .int (D1 7 14)])) (by omega)
  replace hn : (ax_put hp_2 (nd + 7) (.inr (9, [.int me, .ref (n + 264), .ref n, .ref (nd + 10), .ref (nd + 18), .ref (nd + 8), .ref (nd + 9), .int e2, .int s2, .int (D1 7 9), .int (D1 7 10), .long A1, .int (D1 7 12), .int (D1 7 13), .int (D1 7 14)]))).1 = h0.1 := hn
  replace hs : (ax_put hp_2 (nd + 7) (.inr (9, [.int me, .ref (n + 264), .ref n, .ref (nd + 10), .ref (nd + 18), .ref (nd + 8), .ref (nd + 9), .int e2, .int s2, .int (D1 7 9), .int (D1 7 10), .long A1, .int (D1 7 12), .int (D1 7 13), .int (D1 7 14)]))).2.1 = h0.2.1 := hs
  generalize ax_put hp_2 (nd + 7) (.inr (9, [.int me, .ref (n + 264), .ref n, .ref (nd + 10), .ref (nd + 18), .ref (nd + 8), .ref (nd + 9), .int e2, .int s2, .int (D1 7 9), .int (D1 7 10), .long A1, .int (D1 7 12), .int (D1 7 13), .int (D1 7 14)])) = hp_3 at hF hf hN hn hs ⊢
  refine ar_iconst 15 (v := 0) d_32_14 rfl (by decide) ?_
  refine ar_istore_n 16 [(0, .ref (nd + 7)), (1, .int e2), (2, .int s2), (3, .int 0)] d_32_15 rfl (by decide) rfl ?_
  have hS1 : NS Z n nd nn gg C me f q u b uv h0 hp_3 (va_up D1 7 (upd (upd (D1 7) 7 e2) 8 s2)) K1 A1 Y1 := ⟨hF, hN, hf, hn, hs, hp0, hu0⟩
  have hI1 : NI Z nn (va_up D1 7 (upd (upd (D1 7) 7 e2) 8 s2)) := hI1
  rw [← show G_32 nn gg C me f u b gg 0 (va_up D1 7 (upd (upd (D1 7) 7 e2) 8 s2)) K1 A1 Y1 = F_32 nn gg C me f u b D K A Y e2 s2 from bnS_eq hE1 (rfl)]
  exact key gg 0 hp_3 (va_up D1 7 (upd (upd (D1 7) 7 e2) 8 s2)) K1 A1 Y1 (by omega) hS1 hI1
def F_83 (nn gg : Nat) (C me : Int32) (f u b : Nat → Int32) (D : Nat → Nat → Int32) (K A : Int64) (Y : List Mg)  : St :=
  if rtB (u 5) = 0 then
    if fndI (D 15) (D 16) (u 5) = -1 then
      (D, K, A, Y)
    else
      bnN ((fndI (D 15) (D 16) (u 5)).toNatClampNeg) (fun a1 =>
        if ¬ (nI (a1 % 20)) = 19 then
          bnS (F_87 nn gg C me f u b D K A Y (nI a1)) (fun D3 K3 A3 Y3 =>
            (D3, K3, A3, Y3))
        else
          bn5 (rcF (D 12) (D 13) (D 14) (D 16) K (D 15) b 0) (fun zf1 nf1 mf1 vf1 kn1 =>
            if ¬ (knA K (D 10 9)) = 0 then
              (va_up (va_up (va_up (va_up D 12 zf1) 13 nf1) 14 mf1) 16 vf1, kn1, A, Y)
            else
              if (knA kn1 (D 10 9)) = 0 then
                (va_up (va_up (va_up (va_up D 12 zf1) 13 nf1) 14 mf1) 16 vf1, kn1, A, Y)
              else
                bnS (F_35 nn gg C me f u b (va_up (va_up (va_up (va_up D 12 zf1) 13 nf1) 14 mf1) 16 vf1) kn1 A Y) (fun D7 K7 A7 Y7 =>
                  (D7, K7, A7, Y7))))
  else
    if ((u 5) - (u 5) / 512 * 512) ≤ ((D 16) 960) then
      (D, K, A, Y)
    else
      bnN ((clI (b (0 + 15)) 0 48).toNatClampNeg) (fun cf =>
        if D 18 3 ≤ 1 then
          bnS (F_35 nn gg C me f u b (va_up (va_up (va_up (va_up (va_up (va_up (va_up D 7 (upd (upd (D 7) 10 0) 14 0)) 10 (upd (upd (D 10) 9 (nI cf)) 10 (b (0 + 16)))) 11 (rrJ b 0 (ax_fill (D 11) 0 48 (-1)) cf)) 12 (ax_fill (D 12) 0 48 0)) 15 (rrO b 0 (ax_fill (D 15) 0 512 (-1)) cf)) 16 (rrV b 0 (upd (ax_fill (D 16) 0 961 (-1)) 960 ((b (0 + 1)) - (b (0 + 1)) / 512 * 512)) cf)) 17 (upd (ax_fill (D 17) 0 961 0) 960 (1 <<< ((u 1) &&& 31)))) 0 0 Y) (fun D15 K15 A15 Y15 =>
            (D15, K15, A15, Y15))
        else
          bnS (F_35 nn gg C me f u b (va_up (va_up (va_up (va_up (va_up (va_up (va_up (va_up D 7 (upd (upd (D 7) 10 0) 14 0)) 10 (upd (upd (D 10) 9 (nI cf)) 10 (b (0 + 16)))) 11 (rrJ b 0 (ax_fill (D 11) 0 48 (-1)) cf)) 12 (ax_fill (D 12) 0 48 0)) 15 (rrO b 0 (ax_fill (D 15) 0 512 (-1)) cf)) 16 (rrV b 0 (upd (ax_fill (D 16) 0 961 (-1)) 960 ((b (0 + 1)) - (b (0 + 1)) / 512 * 512)) cf)) 17 (upd (ax_fill (D 17) 0 961 0) 960 (1 <<< ((u 1) &&& 31)))) 18 (upd (D 18) 3 1)) 0 0 Y) (fun D20 K20 A20 Y20 =>
            (D20, K20, A20, Y20)))
set_option maxRecDepth 100000 in
theorem s_83 {L : Nat} {xs : Nat → Int32} {fr lo : Nat} {Z : ZT} {n nd nn gg : Nat} {C me : Int32} {f : Nat → Int32} {q : Nat} {u b : Nat → Int32} {uv : Int32} {h0 h : ax_H} {D : Nat → Nat → Int32} {K A : Int64} {Y : List Mg}  (hfr : 4 ≤ fr) (hlo : 120 ≤ lo) (hC : CS n nd nn gg f) (hS : NS Z n nd nn gg C me f q u b uv h0 h D K A Y) (hI : NI Z nn D) (hm : ¬ u 5 = -1 → b 1 = u 5 ∧ gd Z b 0) : ax_M L xs 83 fr lo [.ref (nd + 7), .ref (n + 1 + 1 + 2 * q)] h (fun r h' => r = none ∧ PS Z n nd nn gg C me f q u b uv h0 h' (fun D' K' A' Y' => (D', K', A', Y') = F_83 nn gg C me f u b D K A Y ∧ True)) := by
  have hC0 := hC
  show ax_A (ax_step L xs) ((83, 0, fr, lo), [(0, .ref (nd + 7)), (1, .ref (n + 1 + 1 + 2 * q))], [], h) _
  obtain ⟨hnd, hn0, hnn3, hnn, hgg1, hgg, hRg⟩ := hC
  obtain ⟨hF, hN, hf, hn, hs, hp0, hu0⟩ := hS
  replace hF : ax_hs h [cNd n nd me D, cDk nd D, cAr nd 2 35840 D, cAr nd 3 4096 D, cAr nd 4 32 D, cAr nd 5 280 D, cAr nd 6 280 D, cLd n nd me D A, cAr nd 8 16 D, cAr nd 9 280 D, cTb nd gg D K, cAr nd 11 48 D, cAr nd 12 48 D, cAr nd 13 48 D, cAr nd 14 2400 D, cAr nd 15 512 D, cAr nd 16 961 D, cAr nd 17 961 D, cWk nd D, cWa nd D, cAr nd 20 612 D, cAr nd 21 1152 D, cRk n nn gg C, cOr n nn gg f] := hF
  refine ar_aload_n 1 d_83_0 rfl rfl ?_
  refine ar_getf 4 d_83_1 rfl (ci := 2) (k := 5) rfl hN.mgc rfl ?_
  refine ar_call (r := []) (na := 0) (kd := 0) (cm := 80) (fr2 := fr - 1) (lo2 := lo - 20) 7 d_83_4 (ar_hoS (as := [.int (u 5)]) rfl rfl rfl) rfl (by omega) (show lo - 20 + (19 + 1) = lo by omega) (Nat.le_of_ble_eq_true rfl) (Nat.le_of_ble_eq_true rfl) (c_80E) ?_
  intro v hh hq
  obtain ⟨rfl, ehh⟩ := hq
  rw [ehh]
  clear ehh
  rcases rtB_or (u 5) with ⟨er, hnr⟩ | ⟨er, rt, hrt, ert, hr5⟩
  · refine ar_top (x' := 0) (er) ?_
    refine ar_if_eq 108 10 d_83_7 (by decide) rfl (fun _ => ?_) (fun c => absurd (by decide) c)
    refine ar_aload_n 109 d_83_108 rfl rfl ?_
    refine ar_getf 112 d_83_109 rfl (ci := 9) (k := 3) rfl (hF.at 7 rfl) rfl ?_
    refine ar_aload_n 113 d_83_112 rfl rfl ?_
    refine ar_getf 116 d_83_113 rfl (ci := 2) (k := 5) rfl hN.mgc rfl ?_
    refine ar_call (r := []) (na := 0) (kd := 0) (cm := 77) (fr2 := fr - 1) (lo2 := lo - 23) 119 d_83_116 (ar_hoV (as := [.int (u 5)]) rfl rfl rfl (hF.at 10 rfl)) rfl (by omega) (show lo - 23 + (19 + 4) = lo by omega) (Nat.le_of_ble_eq_true rfl) (Nat.le_of_ble_eq_true rfl) (c_77E (x := u 5) hI.2.1 (hF.at 10 rfl) (hF.at 15 rfl) (hF.at 16 rfl)) ?_
    intro v hh hq
    obtain ⟨rfl, ehh⟩ := hq
    rw [ehh]
    clear ehh
    rcases hI.2.1.fnd2 (u 5) with ey1 | ⟨t1, a1, ht1, hx1, ha1, ey1, hfd1⟩
    · refine ar_top (x' := -1) (ey1) ?_
      refine ar_istore_n 120 [(0, .ref (nd + 7)), (1, .ref (n + 1 + 1 + 2 * q)), (2, .int (-1))] d_83_119 rfl (by decide) rfl ?_
      refine ar_iload_n 121 d_83_120 rfl rfl ?_
      refine ar_if_lt 174 124 d_83_121 (by decide) rfl (fun _ => ?_) (fun c => absurd (by decide) c)
      refine ar_iload_n 175 d_83_174 rfl rfl ?_
      refine ar_if_lt 190 178 d_83_175 (by decide) rfl (fun _ => ?_) (fun c => absurd (by decide) c)
      have hS9 : NS Z n nd nn gg C me f q u b uv h0 h D K A Y := ⟨hF, hN, hf, hn, hs, hp0, hu0⟩
      have hI9 : NI Z nn D := hI
      exact ar_ret d_83_190 rfl (⟨rfl, _, _, _, _, hS9, hI9, eq_ifT er (eq_ifT ey1 (rfl)), trivial⟩)
    · refine ar_top (x' := nI a1) (ey1) ?_
      refine ar_istore_n 120 [(0, .ref (nd + 7)), (1, .ref (n + 1 + 1 + 2 * q)), (2, .int (nI a1))] d_83_119 rfl (by decide) rfl ?_
      refine ar_iload_n 121 d_83_120 rfl rfl ?_
      refine ar_if_lt 174 124 d_83_121 (by decide) rfl (fun c => absurd c (nI_pos (by omega))) (fun _ => ?_)
      refine ar_iload_n 125 d_83_124 rfl rfl ?_
      refine ar_bipush 127 (v := 20) d_83_125 rfl (by decide) ?_
      refine ar_irem 128 d_83_127 rfl (by decide) ?_
      refine ar_top (x' := nI (a1 % 20)) (pk_rem (d := 20) (by omega) (by omega) (by omega)) ?_
      refine ar_bipush 130 (v := 19) d_83_128 rfl (by decide) ?_
      refine ar_icmp_ne 174 133 d_83_130 (by decide) rfl (fun cc2 => ?_) (fun cc2 => ?_)
      · refine ar_iload_n 175 d_83_174 rfl rfl ?_
        refine ar_if_lt 190 178 d_83_175 (by decide) rfl (fun c => absurd c (nI_pos (by omega))) (fun _ => ?_)
        refine ar_aload_n 179 d_83_178 rfl rfl ?_
        refine ar_getf 182 d_83_179 rfl (ci := 9) (k := 4) rfl (hF.at 7 rfl) rfl ?_
        refine ar_iload_n 183 d_83_182 rfl rfl ?_
        refine ar_aload_n 184 d_83_183 rfl rfl ?_
        refine ar_getf 187 d_83_184 rfl (ci := 2) (k := 8) rfl hN.mgc rfl ?_
        obtain ⟨eb, hgb⟩ := hm (by rw [hx1]; exact nIm ht1)
        have hpl : plT (b 1) := fun k hk ek => by
          have e1 : t1 = k := nI_inj ht1 hk (hx1.symm.trans (eb.symm.trans ek))
          subst e1
          refine ⟨hnr _ hk hx1, fun z => ?_⟩
          rcases hfd1.2 with h1 | ⟨h1, h2, h3, h4⟩
          · exact hnr _ hk hx1 h1.2
          · exact cc2 (by rw [h4, z]; rfl)
        have hS1 : NS Z n nd nn gg C me f q u b uv h0 h D K A Y := ⟨hF, hN, hf, hn, hs, hp0, hu0⟩
        have hI1 : NI Z nn D := hI
        refine ar_call (r := []) (na := 0) (kd := 0) (cm := 87) (fr2 := fr - 1) (lo2 := lo - 23) 190 d_83_187 (ar_hoV (as := [.int (nI a1), .ref (n + 1 + 1 + 2 * q + 1)]) rfl rfl rfl (hF.at 18 rfl)) rfl (by omega) (show lo - 23 + (19 + 4) = lo by omega) (Nat.le_of_ble_eq_true rfl) (Nat.le_of_ble_eq_true rfl) (s_87 (by omega) (by omega) hC0 hS1 hI1 hpl) ?_
        intro v hp_3 hq
        obtain ⟨rfl, D3, K3, A3, Y3, hS2, hI2, hE3, -⟩ := hq
        clear hS1 hI1 hF hN hf hn hs hp0 hu0
        obtain ⟨hF, hN, hf, hn, hs, hp0, hu0⟩ := hS2
        replace hF : ax_hs hp_3 [cNd n nd me D3, cDk nd D3, cAr nd 2 35840 D3, cAr nd 3 4096 D3, cAr nd 4 32 D3, cAr nd 5 280 D3, cAr nd 6 280 D3, cLd n nd me D3 A3, cAr nd 8 16 D3, cAr nd 9 280 D3, cTb nd gg D3 K3, cAr nd 11 48 D3, cAr nd 12 48 D3, cAr nd 13 48 D3, cAr nd 14 2400 D3, cAr nd 15 512 D3, cAr nd 16 961 D3, cAr nd 17 961 D3, cWk nd D3, cWa nd D3, cAr nd 20 612 D3, cAr nd 21 1152 D3, cRk n nn gg C, cOr n nn gg f] := hF
        have hI3 := hI2
        clear hI2
        have hS9 : NS Z n nd nn gg C me f q u b uv h0 hp_3 D3 K3 A3 Y3 := ⟨hF, hN, hf, hn, hs, hp0, hu0⟩
        have hI9 : NI Z nn D3 := hI3
        exact ar_ret d_83_190 rfl (⟨rfl, _, _, _, _, hS9, hI9, eq_ifT er (eq_ifF (nI_ne1 ha1 ey1) (bnN_eq (cl_eq ha1 ey1) (eq_ifT cc2 (bnS_eq hE3 (rfl))))), trivial⟩)
      · refine ar_aload_n 134 d_83_133 rfl rfl ?_
        refine ar_getf 137 d_83_134 rfl (ci := 9) (k := 3) rfl (hF.at 7 rfl) rfl ?_
        refine ar_call (r := []) (na := 0) (kd := 0) (cm := 72) (fr2 := fr - 1) (lo2 := lo - 20) 140 d_83_137 (ar_hoV (as := []) rfl rfl rfl (hF.at 10 rfl)) rfl (by omega) (show lo - 20 + (19 + 1) = lo by omega) (Nat.le_of_ble_eq_true rfl) (Nat.le_of_ble_eq_true rfl) (c_72E (by omega) (by omega) (hF.at 10 rfl)) ?_
        intro v hh hq
        obtain ⟨rfl, ehh⟩ := hq
        rw [ehh]
        clear ehh
        refine ar_istore_n 141 [(0, .ref (nd + 7)), (1, .ref (n + 1 + 1 + 2 * q)), (2, .int (nI a1)), (3, .int (knA K (D 10 9)))] d_83_140 rfl (by decide) rfl ?_
        refine ar_aload_n 142 d_83_141 rfl rfl ?_
        refine ar_getf 145 d_83_142 rfl (ci := 9) (k := 3) rfl (hF.at 7 rfl) rfl ?_
        refine ar_aload_n 146 d_83_145 rfl rfl ?_
        refine ar_getf 149 d_83_146 rfl (ci := 2) (k := 8) rfl hN.mgc rfl ?_
        refine ar_iconst 150 (v := 0) d_83_149 rfl (by decide) ?_
        obtain ⟨eb, hgb⟩ := hm (by rw [hx1]; exact nIm ht1)
        replace hF : ax_hs h [(n + 1 + 1 + 2 * q, .inr (2, [.int (u 0), .int (u 1), .int (u 2), .int (u 3), .int (u 4), .int (u 5), .int (u 6), .int (u 7), .ref (n + 1 + 1 + 2 * q + 1)])), (n + 1 + 1 + 2 * q + 1, .inl (0, 617, .inl b)), cNd n nd me D, cDk nd D, cAr nd 2 35840 D, cAr nd 3 4096 D, cAr nd 4 32 D, cAr nd 5 280 D, cAr nd 6 280 D, cLd n nd me D A, cAr nd 8 16 D, cAr nd 9 280 D, cTb nd gg D K, cAr nd 11 48 D, cAr nd 12 48 D, cAr nd 13 48 D, cAr nd 14 2400 D, cAr nd 15 512 D, cAr nd 16 961 D, cAr nd 17 961 D, cWk nd D, cWa nd D, cAr nd 20 612 D, cAr nd 21 1152 D, cRk n nn gg C, cOr n nn gg f] := hF.msg (far (n := n) (nd := nd) rfl hnd) hN.lq ⟨hN.mgc, hN.mbc⟩
        refine ar_call (r := []) (na := 0) (kd := 0) (cm := 85) (fr2 := fr - 1) (lo2 := lo - 25) 153 d_83_150 (ar_hoV (as := [.ref (n + 1 + 1 + 2 * q + 1), .int 0]) rfl rfl rfl (hF.at 12 rfl)) rfl (by omega) (show lo - 25 + (19 + 6) = lo by omega) (Nat.le_of_ble_eq_true rfl) (Nat.le_of_ble_eq_true rfl) (c_85E (p := 0) (by omega) (by omega) (by decide) (by omega) hI.2.1 hgb (hF.sub (F' := [cTb nd gg D K, cAr nd 12 48 D, cAr nd 13 48 D, cAr nd 14 2400 D, cAr nd 16 961 D, cAr nd 15 512 D, (n + 1 + 1 + 2 * q + 1, .inl (0, 617, .inl b))]) [12, 14, 15, 16, 18, 17, 1] rfl rfl) rfl rfl (by omega)) ?_
        intro v hp_4 hq
        obtain ⟨rfl, zf1, nf1, mf1, vf1, kn1, hrc, hT1, qF, qn, qs, qf⟩ := hq
        have qF : ax_hs hp_4 [(nd + 10, .inr (6, [.int (nI gg), .ref (nd + 11), .ref (nd + 12), .ref (nd + 13), .ref (nd + 14), .ref (nd + 15), .ref (nd + 16), .ref (nd + 17), .long kn1, .int (D 10 9), .int (D 10 10)])), (nd + 12, .inl (0, 48, .inl zf1)), (nd + 13, .inl (0, 48, .inl nf1)), (nd + 14, .inl (0, 2400, .inl mf1)), (nd + 16, .inl (0, 961, .inl vf1)), cAr nd 15 512 D, (n + 1 + 1 + 2 * q + 1, .inl (0, 617, .inl b))] := qF
        replace hF : ax_hs hp_4 [(n + 1 + 1 + 2 * q, .inr (2, [.int (u 0), .int (u 1), .int (u 2), .int (u 3), .int (u 4), .int (u 5), .int (u 6), .int (u 7), .ref (n + 1 + 1 + 2 * q + 1)])), cNd n nd me D, cDk nd D, cAr nd 2 35840 D, cAr nd 3 4096 D, cAr nd 4 32 D, cAr nd 5 280 D, cAr nd 6 280 D, cLd n nd me D A, cAr nd 8 16 D, cAr nd 9 280 D, cAr nd 11 48 D, cAr nd 17 961 D, cWk nd D, cWa nd D, cAr nd 20 612 D, cAr nd 21 1152 D, cRk n nn gg C, cOr n nn gg f, (nd + 10, .inr (6, [.int (nI gg), .ref (nd + 11), .ref (nd + 12), .ref (nd + 13), .ref (nd + 14), .ref (nd + 15), .ref (nd + 16), .ref (nd + 17), .long kn1, .int (D 10 9), .int (D 10 10)])), (nd + 12, .inl (0, 48, .inl zf1)), (nd + 13, .inl (0, 48, .inl nf1)), (nd + 14, .inl (0, 2400, .inl mf1)), (nd + 16, .inl (0, 961, .inl vf1)), cAr nd 15 512 D, (n + 1 + 1 + 2 * q + 1, .inl (0, 617, .inl b))] := ax_hs.call (rest := [(n + 1 + 1 + 2 * q, .inr (2, [.int (u 0), .int (u 1), .int (u 2), .int (u 3), .int (u 4), .int (u 5), .int (u 6), .int (u 7), .ref (n + 1 + 1 + 2 * q + 1)])), cNd n nd me D, cDk nd D, cAr nd 2 35840 D, cAr nd 3 4096 D, cAr nd 4 32 D, cAr nd 5 280 D, cAr nd 6 280 D, cLd n nd me D A, cAr nd 8 16 D, cAr nd 9 280 D, cAr nd 11 48 D, cAr nd 17 961 D, cWk nd D, cWa nd D, cAr nd 20 612 D, cAr nd 21 1152 D, cRk n nn gg C, cOr n nn gg f]) [12, 14, 15, 16, 18, 17, 1] [0, 2, 3, 4, 5, 6, 7, 8, 9, 10, 11, 13, 19, 20, 21, 22, 23, 24, 25] hF qf qF rfl rfl rfl [12, 14, 15, 16, 18] rfl rfl [12, 14, 15, 16, 18, 17, 1] (news := []) rfl rfl (fun _ z => absurd z List.not_mem_nil) rfl
        replace hF := hF.sub (F' := [(n + 1 + 1 + 2 * q, .inr (2, [.int (u 0), .int (u 1), .int (u 2), .int (u 3), .int (u 4), .int (u 5), .int (u 6), .int (u 7), .ref (n + 1 + 1 + 2 * q + 1)])), (n + 1 + 1 + 2 * q + 1, .inl (0, 617, .inl b)), cNd n nd me D, cDk nd D, cAr nd 2 35840 D, cAr nd 3 4096 D, cAr nd 4 32 D, cAr nd 5 280 D, cAr nd 6 280 D, cLd n nd me D A, cAr nd 8 16 D, cAr nd 9 280 D, (nd + 10, .inr (6, [.int (nI gg), .ref (nd + 11), .ref (nd + 12), .ref (nd + 13), .ref (nd + 14), .ref (nd + 15), .ref (nd + 16), .ref (nd + 17), .long kn1, .int (D 10 9), .int (D 10 10)])), cAr nd 11 48 D, (nd + 12, .inl (0, 48, .inl zf1)), (nd + 13, .inl (0, 48, .inl nf1)), (nd + 14, .inl (0, 2400, .inl mf1)), cAr nd 15 512 D, (nd + 16, .inl (0, 961, .inl vf1)), cAr nd 17 961 D, cWk nd D, cWa nd D, cAr nd 20 612 D, cAr nd 21 1152 D, cRk n nn gg C, cOr n nn gg f]) [0, 25, 1, 2, 3, 4, 5, 6, 7, 8, 9, 10, 19, 11, 20, 21, 22, 24, 23, 12, 13, 14, 15, 16, 17, 18] rfl rfl
        replace hN := hN.fr qf (fun x hx z => by simp only [List.mem_cons, List.not_mem_nil, or_false] at z; unfold NTA at hx; omega)
        replace hf := hf.trC qf (fun x _ z => Or.inr (by simp only [List.mem_cons, List.not_mem_nil, or_false] at z; omega))
        replace hn : hp_4.1 = h0.1 := by omega
        replace hs : hp_4.2.1 = h0.2.1 := by omega
        clear qF qn qs qf
        replace hF := hF.sub (F' := [cNd n nd me D, cDk nd D, cAr nd 2 35840 D, cAr nd 3 4096 D, cAr nd 4 32 D, cAr nd 5 280 D, cAr nd 6 280 D, cLd n nd me D A, cAr nd 8 16 D, cAr nd 9 280 D, (nd + 10, .inr (6, [.int (nI gg), .ref (nd + 11), .ref (nd + 12), .ref (nd + 13), .ref (nd + 14), .ref (nd + 15), .ref (nd + 16), .ref (nd + 17), .long kn1, .int (D 10 9), .int (D 10 10)])), cAr nd 11 48 D, (nd + 12, .inl (0, 48, .inl zf1)), (nd + 13, .inl (0, 48, .inl nf1)), (nd + 14, .inl (0, 2400, .inl mf1)), cAr nd 15 512 D, (nd + 16, .inl (0, 961, .inl vf1)), cAr nd 17 961 D, cWk nd D, cWa nd D, cAr nd 20 612 D, cAr nd 21 1152 D, cRk n nn gg C, cOr n nn gg f]) [2, 3, 4, 5, 6, 7, 8, 9, 10, 11, 12, 13, 14, 15, 16, 17, 18, 19, 20, 21, 22, 23, 24, 25] rfl rfl
        refine ar_iload_n 154 d_83_153 rfl rfl ?_
        refine ar_if_ne 171 157 d_83_154 (by decide) rfl (fun cc5 => ?_) (fun cc5 => ?_)
        · refine ar_goto 190 d_83_171 (by decide) ?_
          have hS9 : NS Z n nd nn gg C me f q u b uv h0 hp_4 (va_up (va_up (va_up (va_up D 12 zf1) 13 nf1) 14 mf1) 16 vf1) kn1 A Y := ⟨hF, hN, hf, hn, hs, hp0, hu0⟩
          have hI9 : NI Z nn (va_up (va_up (va_up (va_up D 12 zf1) 13 nf1) 14 mf1) 16 vf1) := ⟨hI.1, hT1, hI.2.2.1, hI.2.2.2⟩
          exact ar_ret d_83_190 rfl (⟨rfl, _, _, _, _, hS9, hI9, eq_ifT er (eq_ifF (nI_ne1 ha1 ey1) (bnN_eq (cl_eq ha1 ey1) (eq_ifF cc2 (bn5_eq hrc (eq_ifT cc5 (rfl)))))), trivial⟩)
        · refine ar_aload_n 158 d_83_157 rfl rfl ?_
          refine ar_getf 161 d_83_158 rfl (ci := 9) (k := 3) rfl (hF.at 7 rfl) rfl ?_
          refine ar_call (r := []) (na := 0) (kd := 0) (cm := 72) (fr2 := fr - 1) (lo2 := lo - 20) 164 d_83_161 (ar_hoV (as := []) rfl rfl rfl (hF.at 10 rfl)) rfl (by omega) (show lo - 20 + (19 + 1) = lo by omega) (Nat.le_of_ble_eq_true rfl) (Nat.le_of_ble_eq_true rfl) (c_72E (by omega) (by omega) (hF.at 10 rfl)) ?_
          intro v hh hq
          obtain ⟨rfl, ehh⟩ := hq
          rw [ehh]
          clear ehh
          refine ar_if_eq 171 167 d_83_164 (by decide) rfl (fun cc6 => ?_) (fun cc6 => ?_)
          · refine ar_goto 190 d_83_171 (by decide) ?_
            have hS9 : NS Z n nd nn gg C me f q u b uv h0 hp_4 (va_up (va_up (va_up (va_up D 12 zf1) 13 nf1) 14 mf1) 16 vf1) kn1 A Y := ⟨hF, hN, hf, hn, hs, hp0, hu0⟩
            have hI9 : NI Z nn (va_up (va_up (va_up (va_up D 12 zf1) 13 nf1) 14 mf1) 16 vf1) := ⟨hI.1, hT1, hI.2.2.1, hI.2.2.2⟩
            exact ar_ret d_83_190 rfl (⟨rfl, _, _, _, _, hS9, hI9, eq_ifT er (eq_ifF (nI_ne1 ha1 ey1) (bnN_eq (cl_eq ha1 ey1) (eq_ifF cc2 (bn5_eq hrc (eq_ifF cc5 (eq_ifT cc6 (rfl))))))), trivial⟩)
          · refine ar_aload_n 168 d_83_167 rfl rfl ?_
            have hS1 : NS Z n nd nn gg C me f q u b uv h0 hp_4 (va_up (va_up (va_up (va_up D 12 zf1) 13 nf1) 14 mf1) 16 vf1) kn1 A Y := ⟨hF, hN, hf, hn, hs, hp0, hu0⟩
            have hI1 : NI Z nn (va_up (va_up (va_up (va_up D 12 zf1) 13 nf1) 14 mf1) 16 vf1) := ⟨hI.1, hT1, hI.2.2.1, hI.2.2.2⟩
            refine ar_call (r := []) (na := 0) (kd := 0) (cm := 35) (fr2 := fr - 1) (lo2 := lo - 21) 171 d_83_168 (ar_hoV (as := []) rfl rfl rfl (hF.at 7 rfl)) rfl (by omega) (show lo - 21 + (19 + 2) = lo by omega) (Nat.le_of_ble_eq_true rfl) (Nat.le_of_ble_eq_true rfl) (s_35 (by omega) (by omega) hC0 hS1 hI1) ?_
            intro v hp_7 hq
            obtain ⟨rfl, D7, K7, A7, Y7, hS2, hI2, hE7, -⟩ := hq
            clear hS1 hI1 hF hN hf hn hs hp0 hu0
            obtain ⟨hF, hN, hf, hn, hs, hp0, hu0⟩ := hS2
            replace hF : ax_hs hp_7 [cNd n nd me D7, cDk nd D7, cAr nd 2 35840 D7, cAr nd 3 4096 D7, cAr nd 4 32 D7, cAr nd 5 280 D7, cAr nd 6 280 D7, cLd n nd me D7 A7, cAr nd 8 16 D7, cAr nd 9 280 D7, cTb nd gg D7 K7, cAr nd 11 48 D7, cAr nd 12 48 D7, cAr nd 13 48 D7, cAr nd 14 2400 D7, cAr nd 15 512 D7, cAr nd 16 961 D7, cAr nd 17 961 D7, cWk nd D7, cWa nd D7, cAr nd 20 612 D7, cAr nd 21 1152 D7, cRk n nn gg C, cOr n nn gg f] := hF
            have hI7 := hI2
            clear hI2
            refine ar_goto 190 d_83_171 (by decide) ?_
            have hS9 : NS Z n nd nn gg C me f q u b uv h0 hp_7 D7 K7 A7 Y7 := ⟨hF, hN, hf, hn, hs, hp0, hu0⟩
            have hI9 : NI Z nn D7 := hI7
            exact ar_ret d_83_190 rfl (⟨rfl, _, _, _, _, hS9, hI9, eq_ifT er (eq_ifF (nI_ne1 ha1 ey1) (bnN_eq (cl_eq ha1 ey1) (eq_ifF cc2 (bn5_eq hrc (eq_ifF cc5 (eq_ifF cc6 (bnS_eq hE7 (rfl)))))))), trivial⟩)
  · refine ar_top (x' := 1) (er) ?_
    refine ar_if_eq 108 10 d_83_7 (by decide) rfl (fun c => absurd c (by decide)) (fun _ => ?_)
    refine ar_aload_n 11 d_83_10 rfl rfl ?_
    refine ar_getf 14 d_83_11 rfl (ci := 2) (k := 5) rfl hN.mgc rfl ?_
    refine ar_call (r := []) (na := 0) (kd := 0) (cm := 78) (fr2 := fr - 1) (lo2 := lo - 20) 17 d_83_14 (ar_hoS (as := [.int (u 5)]) rfl rfl rfl) rfl (by omega) (show lo - 20 + (19 + 1) = lo by omega) (Nat.le_of_ble_eq_true rfl) (Nat.le_of_ble_eq_true rfl) (c_78R) ?_
    intro v hh hq
    obtain ⟨rfl, ehh⟩ := hq
    rw [ehh]
    clear ehh
    refine ar_aload_n 18 d_83_17 rfl rfl ?_
    refine ar_getf 21 d_83_18 rfl (ci := 9) (k := 3) rfl (hF.at 7 rfl) rfl ?_
    refine ar_getf 24 d_83_21 rfl (ci := 6) (k := 6) rfl (hF.at 10 rfl) rfl ?_
    refine ar_sipush 27 (v := 960) d_83_24 rfl (by decide) ?_
    refine ar_ialdN 28 (e := 960) d_83_27 rfl (hF.at 16 rfl) (by omega) (by omega) ?_
    refine ar_icmp_le 107 31 d_83_28 (by decide) rfl (fun cc8 => ?_) (fun cc8 => ?_)
    · have hS9 : NS Z n nd nn gg C me f q u b uv h0 h D K A Y := ⟨hF, hN, hf, hn, hs, hp0, hu0⟩
      have hI9 : NI Z nn D := hI
      exact ar_ret d_83_107 rfl (⟨rfl, _, _, _, _, hS9, hI9, eq_ifF (by rw [er]; decide) (eq_ifT cc8 (rfl)), trivial⟩)
    · refine ar_aload_n 32 d_83_31 rfl rfl ?_
      refine ar_getf 35 d_83_32 rfl (ci := 9) (k := 3) rfl (hF.at 7 rfl) rfl ?_
      refine ar_aload_n 36 d_83_35 rfl rfl ?_
      refine ar_getf 39 d_83_36 rfl (ci := 2) (k := 8) rfl hN.mgc rfl ?_
      refine ar_iconst 40 (v := 0) d_83_39 rfl (by decide) ?_
      obtain ⟨eb, hgb⟩ := hm (by rw [ert]; exact nIm hrt)
      replace hF : ax_hs h [(n + 1 + 1 + 2 * q, .inr (2, [.int (u 0), .int (u 1), .int (u 2), .int (u 3), .int (u 4), .int (u 5), .int (u 6), .int (u 7), .ref (n + 1 + 1 + 2 * q + 1)])), (n + 1 + 1 + 2 * q + 1, .inl (0, 617, .inl b)), cNd n nd me D, cDk nd D, cAr nd 2 35840 D, cAr nd 3 4096 D, cAr nd 4 32 D, cAr nd 5 280 D, cAr nd 6 280 D, cLd n nd me D A, cAr nd 8 16 D, cAr nd 9 280 D, cTb nd gg D K, cAr nd 11 48 D, cAr nd 12 48 D, cAr nd 13 48 D, cAr nd 14 2400 D, cAr nd 15 512 D, cAr nd 16 961 D, cAr nd 17 961 D, cWk nd D, cWa nd D, cAr nd 20 612 D, cAr nd 21 1152 D, cRk n nn gg C, cOr n nn gg f] := hF.msg (far (n := n) (nd := nd) rfl hnd) hN.lq ⟨hN.mgc, hN.mbc⟩
      refine ar_call (r := []) (na := 0) (kd := 0) (cm := 84) (fr2 := fr - 1) (lo2 := lo - 24) 43 d_83_40 (ar_hoV (as := [.ref (n + 1 + 1 + 2 * q + 1), .int 0]) rfl rfl rfl (hF.at 12 rfl)) rfl (by omega) (show lo - 24 + (19 + 5) = lo by omega) (Nat.le_of_ble_eq_true rfl) (Nat.le_of_ble_eq_true rfl) (c_84E (p := 0) (t := rt) (by omega) (by omega) (by decide) (by omega) (fun f hf => (hI.2.1.2.2.2.1 f hf).2) hrt (eb.trans ert) ((hgb rt hrt (eb.trans ert)).1 hr5) (hF.sub (F' := [cTb nd gg D K, cAr nd 11 48 D, cAr nd 12 48 D, cAr nd 15 512 D, cAr nd 16 961 D, cAr nd 17 961 D, (n + 1 + 1 + 2 * q + 1, .inl (0, 617, .inl b))]) [12, 13, 14, 17, 18, 19, 1] rfl rfl) rfl rfl (by omega)) ?_
      intro v hp_9 hq
      obtain ⟨rfl, cf, hcf, hT1, qF, qn, qs, qf⟩ := hq
      have qF : ax_hs hp_9 [(nd + 10, .inr (6, [.int (nI gg), .ref (nd + 11), .ref (nd + 12), .ref (nd + 13), .ref (nd + 14), .ref (nd + 15), .ref (nd + 16), .ref (nd + 17), .long 0, .int (nI cf), .int (b (0 + 16))])), (nd + 11, .inl (0, 48, .inl (rrJ b 0 (ax_fill (D 11) 0 48 (-1)) cf))), (nd + 12, .inl (0, 48, .inl (ax_fill (D 12) 0 48 0))), (nd + 15, .inl (0, 512, .inl (rrO b 0 (ax_fill (D 15) 0 512 (-1)) cf))), (nd + 16, .inl (0, 961, .inl (rrV b 0 (upd (ax_fill (D 16) 0 961 (-1)) 960 ((b (0 + 1)) - (b (0 + 1)) / 512 * 512)) cf))), (nd + 17, .inl (0, 961, .inl (ax_fill (D 17) 0 961 0))), (n + 1 + 1 + 2 * q + 1, .inl (0, 617, .inl b))] := qF
      replace hF : ax_hs hp_9 [(n + 1 + 1 + 2 * q, .inr (2, [.int (u 0), .int (u 1), .int (u 2), .int (u 3), .int (u 4), .int (u 5), .int (u 6), .int (u 7), .ref (n + 1 + 1 + 2 * q + 1)])), cNd n nd me D, cDk nd D, cAr nd 2 35840 D, cAr nd 3 4096 D, cAr nd 4 32 D, cAr nd 5 280 D, cAr nd 6 280 D, cLd n nd me D A, cAr nd 8 16 D, cAr nd 9 280 D, cAr nd 13 48 D, cAr nd 14 2400 D, cWk nd D, cWa nd D, cAr nd 20 612 D, cAr nd 21 1152 D, cRk n nn gg C, cOr n nn gg f, (nd + 10, .inr (6, [.int (nI gg), .ref (nd + 11), .ref (nd + 12), .ref (nd + 13), .ref (nd + 14), .ref (nd + 15), .ref (nd + 16), .ref (nd + 17), .long 0, .int (nI cf), .int (b (0 + 16))])), (nd + 11, .inl (0, 48, .inl (rrJ b 0 (ax_fill (D 11) 0 48 (-1)) cf))), (nd + 12, .inl (0, 48, .inl (ax_fill (D 12) 0 48 0))), (nd + 15, .inl (0, 512, .inl (rrO b 0 (ax_fill (D 15) 0 512 (-1)) cf))), (nd + 16, .inl (0, 961, .inl (rrV b 0 (upd (ax_fill (D 16) 0 961 (-1)) 960 ((b (0 + 1)) - (b (0 + 1)) / 512 * 512)) cf))), (nd + 17, .inl (0, 961, .inl (ax_fill (D 17) 0 961 0))), (n + 1 + 1 + 2 * q + 1, .inl (0, 617, .inl b))] := ax_hs.call (rest := [(n + 1 + 1 + 2 * q, .inr (2, [.int (u 0), .int (u 1), .int (u 2), .int (u 3), .int (u 4), .int (u 5), .int (u 6), .int (u 7), .ref (n + 1 + 1 + 2 * q + 1)])), cNd n nd me D, cDk nd D, cAr nd 2 35840 D, cAr nd 3 4096 D, cAr nd 4 32 D, cAr nd 5 280 D, cAr nd 6 280 D, cLd n nd me D A, cAr nd 8 16 D, cAr nd 9 280 D, cAr nd 13 48 D, cAr nd 14 2400 D, cWk nd D, cWa nd D, cAr nd 20 612 D, cAr nd 21 1152 D, cRk n nn gg C, cOr n nn gg f]) [12, 13, 14, 17, 18, 19, 1] [0, 2, 3, 4, 5, 6, 7, 8, 9, 10, 11, 15, 16, 20, 21, 22, 23, 24, 25] hF qf qF rfl rfl rfl [12, 13, 14, 17, 18, 19] rfl rfl [12, 13, 14, 17, 18, 19, 1] (news := []) rfl rfl (fun _ z => absurd z List.not_mem_nil) rfl
      replace hF := hF.sub (F' := [(n + 1 + 1 + 2 * q, .inr (2, [.int (u 0), .int (u 1), .int (u 2), .int (u 3), .int (u 4), .int (u 5), .int (u 6), .int (u 7), .ref (n + 1 + 1 + 2 * q + 1)])), (n + 1 + 1 + 2 * q + 1, .inl (0, 617, .inl b)), cNd n nd me D, cDk nd D, cAr nd 2 35840 D, cAr nd 3 4096 D, cAr nd 4 32 D, cAr nd 5 280 D, cAr nd 6 280 D, cLd n nd me D A, cAr nd 8 16 D, cAr nd 9 280 D, (nd + 10, .inr (6, [.int (nI gg), .ref (nd + 11), .ref (nd + 12), .ref (nd + 13), .ref (nd + 14), .ref (nd + 15), .ref (nd + 16), .ref (nd + 17), .long 0, .int (nI cf), .int (b (0 + 16))])), (nd + 11, .inl (0, 48, .inl (rrJ b 0 (ax_fill (D 11) 0 48 (-1)) cf))), (nd + 12, .inl (0, 48, .inl (ax_fill (D 12) 0 48 0))), cAr nd 13 48 D, cAr nd 14 2400 D, (nd + 15, .inl (0, 512, .inl (rrO b 0 (ax_fill (D 15) 0 512 (-1)) cf))), (nd + 16, .inl (0, 961, .inl (rrV b 0 (upd (ax_fill (D 16) 0 961 (-1)) 960 ((b (0 + 1)) - (b (0 + 1)) / 512 * 512)) cf))), (nd + 17, .inl (0, 961, .inl (ax_fill (D 17) 0 961 0))), cWk nd D, cWa nd D, cAr nd 20 612 D, cAr nd 21 1152 D, cRk n nn gg C, cOr n nn gg f]) [0, 25, 1, 2, 3, 4, 5, 6, 7, 8, 9, 10, 19, 20, 21, 11, 12, 22, 23, 24, 13, 14, 15, 16, 17, 18] rfl rfl
      replace hN := hN.fr qf (fun x hx z => by simp only [List.mem_cons, List.not_mem_nil, or_false] at z; unfold NTA at hx; omega)
      replace hf := hf.trC qf (fun x _ z => Or.inr (by simp only [List.mem_cons, List.not_mem_nil, or_false] at z; omega))
      replace hn : hp_9.1 = h0.1 := by omega
      replace hs : hp_9.2.1 = h0.2.1 := by omega
      clear qF qn qs qf
      replace hF := hF.sub (F' := [cNd n nd me D, cDk nd D, cAr nd 2 35840 D, cAr nd 3 4096 D, cAr nd 4 32 D, cAr nd 5 280 D, cAr nd 6 280 D, cLd n nd me D A, cAr nd 8 16 D, cAr nd 9 280 D, (nd + 10, .inr (6, [.int (nI gg), .ref (nd + 11), .ref (nd + 12), .ref (nd + 13), .ref (nd + 14), .ref (nd + 15), .ref (nd + 16), .ref (nd + 17), .long 0, .int (nI cf), .int (b (0 + 16))])), (nd + 11, .inl (0, 48, .inl (rrJ b 0 (ax_fill (D 11) 0 48 (-1)) cf))), (nd + 12, .inl (0, 48, .inl (ax_fill (D 12) 0 48 0))), cAr nd 13 48 D, cAr nd 14 2400 D, (nd + 15, .inl (0, 512, .inl (rrO b 0 (ax_fill (D 15) 0 512 (-1)) cf))), (nd + 16, .inl (0, 961, .inl (rrV b 0 (upd (ax_fill (D 16) 0 961 (-1)) 960 ((b (0 + 1)) - (b (0 + 1)) / 512 * 512)) cf))), (nd + 17, .inl (0, 961, .inl (ax_fill (D 17) 0 961 0))), cWk nd D, cWa nd D, cAr nd 20 612 D, cAr nd 21 1152 D, cRk n nn gg C, cOr n nn gg f]) [2, 3, 4, 5, 6, 7, 8, 9, 10, 11, 12, 13, 14, 15, 16, 17, 18, 19, 20, 21, 22, 23, 24, 25] rfl rfl
      refine ar_aload_n 44 d_83_43 rfl rfl ?_
      refine ar_getf 47 d_83_44 rfl (ci := 9) (k := 3) rfl (hF.at 7 rfl) rfl ?_
      refine ar_getf 50 d_83_47 rfl (ci := 6) (k := 7) rfl (hF.at 10 rfl) rfl ?_
      refine ar_sipush 53 (v := 960) d_83_50 rfl (by decide) ?_
      refine ar_iconst 54 (v := 1) d_83_53 rfl (by decide) ?_
      refine ar_aload_n 55 d_83_54 rfl rfl ?_
      refine ar_getf 58 d_83_55 rfl (ci := 2) (k := 1) rfl hN.mgc rfl ?_
      refine ar_ishl 59 d_83_58 rfl ?_
      refine ar_iastN 60 (e := 960) d_83_59 rfl (hF.at 17 rfl) (by omega) (by omega) ?_
      replace hF : ax_hs (ax_put hp_9 (nd + 17) (.inl (0, 961, .inl (upd (ax_fill (D 17) 0 961 0) 960 (1 <<< ((u 1) &&& 31)))))) [cNd n nd me D, cDk nd D, cAr nd 2 35840 D, cAr nd 3 4096 D, cAr nd 4 32 D, cAr nd 5 280 D, cAr nd 6 280 D, cLd n nd me D A, cAr nd 8 16 D, cAr nd 9 280 D, (nd + 10, .inr (6, [.int (nI gg), .ref (nd + 11), .ref (nd + 12), .ref (nd + 13), .ref (nd + 14), .ref (nd + 15), .ref (nd + 16), .ref (nd + 17), .long 0, .int (nI cf), .int (b (0 + 16))])), (nd + 11, .inl (0, 48, .inl (rrJ b 0 (ax_fill (D 11) 0 48 (-1)) cf))), (nd + 12, .inl (0, 48, .inl (ax_fill (D 12) 0 48 0))), cAr nd 13 48 D, cAr nd 14 2400 D, (nd + 15, .inl (0, 512, .inl (rrO b 0 (ax_fill (D 15) 0 512 (-1)) cf))), (nd + 16, .inl (0, 961, .inl (rrV b 0 (upd (ax_fill (D 16) 0 961 (-1)) 960 ((b (0 + 1)) - (b (0 + 1)) / 512 * 512)) cf))), (nd + 17, .inl (0, 961, .inl (upd (ax_fill (D 17) 0 961 0) 960 (1 <<< ((u 1) &&& 31))))), cWk nd D, cWa nd D, cAr nd 20 612 D, cAr nd 21 1152 D, cRk n nn gg C, cOr n nn gg f] := hF.put 17 _ rfl rfl
      replace hf := hf.put (a := nd + 17) (c := .inl (0, 961, .inl (upd (ax_fill (D 17) 0 961 0) 960 (1 <<< ((u 1) &&& 31))))) (Or.inr (by omega))
      replace hN := hN.put (a := nd + 17) (c := .inl (0, 961, .inl (upd (ax_fill (D 17) 0 961 0) 960 (1 <<< ((u 1) &&& 31))))) (by omega)
      replace hn : (ax_put hp_9 (nd + 17) (.inl (0, 961, .inl (upd (ax_fill (D 17) 0 961 0) 960 (1 <<< ((u 1) &&& 31)))))).1 = h0.1 := hn
      replace hs : (ax_put hp_9 (nd + 17) (.inl (0, 961, .inl (upd (ax_fill (D 17) 0 961 0) 960 (1 <<< ((u 1) &&& 31)))))).2.1 = h0.2.1 := hs
      generalize ax_put hp_9 (nd + 17) (.inl (0, 961, .inl (upd (ax_fill (D 17) 0 961 0) 960 (1 <<< ((u 1) &&& 31))))) = hp_10 at hF hf hN hn hs ⊢
      refine ar_aload_n 61 d_83_60 rfl rfl ?_
      refine ar_getf 64 d_83_61 rfl (ci := 9) (k := 4) rfl (hF.at 7 rfl) rfl ?_
      refine ar_aload_n 65 d_83_64 rfl rfl ?_
      refine ar_getf 68 d_83_65 rfl (ci := 9) (k := 4) rfl (hF.at 7 rfl) rfl ?_
      refine ar_call (r := [.ref (nd + 18)]) (na := 0) (kd := 0) (cm := 71) (fr2 := fr - 1) (lo2 := lo - 20) 71 d_83_68 (ar_hoV (as := []) rfl rfl rfl (hF.at 18 rfl)) rfl (by omega) (show lo - 20 + (19 + 1) = lo by omega) (Nat.le_of_ble_eq_true rfl) (Nat.le_of_ble_eq_true rfl) (c_71E (hF.at 18 rfl)) ?_
      intro v hh hq
      obtain ⟨rfl, ehh⟩ := hq
      rw [ehh]
      clear ehh
      by_cases hws : D 18 3 ≤ 1
      · refine ar_top (x' := 0) (if_pos hws) ?_
        refine ar_if_eq 78 74 d_83_71 (by decide) rfl (fun _ => ?_) (fun c => absurd (by decide) c)
        refine ar_aload_n 79 d_83_78 rfl rfl ?_
        refine ar_getf 82 d_83_79 rfl (ci := 9) (k := 4) rfl (hF.at 7 rfl) rfl ?_
        refine ar_getf 85 d_83_82 rfl (ci := 10) (k := 3) rfl (hF.at 18 rfl) rfl ?_
        refine ar_putf 88 [.ref (nd + 10), .ref (nd + 19), .ref (nd + 21), .int (D 18 3), .int (D 18 4), .int (D 18 5), .int (D 18 6), .int (D 18 7), .int (D 18 8), .int (D 18 9), .int (D 18 10), .int (D 18 11), .int (D 18 12), .int (D 18 13), .int (D 18 14)] d_83_85 rfl (ci := 10) (k := 3) rfl rfl (hF.at 18 rfl) (Nat.le_of_ble_eq_true rfl) rfl rfl rfl ?_
        replace hF : ax_hs (ax_put hp_10 (nd + 18) (.inr (10, [.ref (nd + 10), .ref (nd + 19), .ref (nd + 21), .int (D 18 3), .int (D 18 4), .int (D 18 5), .int (D 18 6), .int (D 18 7), .int (D 18 8), .int (D 18 9), .int (D 18 10), .int (D 18 11), .int (D 18 12), .int (D 18 13), .int (D 18 14)]))) [cNd n nd me D, cDk nd D, cAr nd 2 35840 D, cAr nd 3 4096 D, cAr nd 4 32 D, cAr nd 5 280 D, cAr nd 6 280 D, cLd n nd me D A, cAr nd 8 16 D, cAr nd 9 280 D, (nd + 10, .inr (6, [.int (nI gg), .ref (nd + 11), .ref (nd + 12), .ref (nd + 13), .ref (nd + 14), .ref (nd + 15), .ref (nd + 16), .ref (nd + 17), .long 0, .int (nI cf), .int (b (0 + 16))])), (nd + 11, .inl (0, 48, .inl (rrJ b 0 (ax_fill (D 11) 0 48 (-1)) cf))), (nd + 12, .inl (0, 48, .inl (ax_fill (D 12) 0 48 0))), cAr nd 13 48 D, cAr nd 14 2400 D, (nd + 15, .inl (0, 512, .inl (rrO b 0 (ax_fill (D 15) 0 512 (-1)) cf))), (nd + 16, .inl (0, 961, .inl (rrV b 0 (upd (ax_fill (D 16) 0 961 (-1)) 960 ((b (0 + 1)) - (b (0 + 1)) / 512 * 512)) cf))), (nd + 17, .inl (0, 961, .inl (upd (ax_fill (D 17) 0 961 0) 960 (1 <<< ((u 1) &&& 31))))), cWk nd D, cWa nd D, cAr nd 20 612 D, cAr nd 21 1152 D, cRk n nn gg C, cOr n nn gg f] := hF.put 18 _ rfl rfl
        replace hf := hf.put (a := nd + 18) (c := .inr (10, [.ref (nd + 10), .ref (nd + 19), .ref (nd + 21), .int (D 18 3), .int (D 18 4), .int (D 18 5), .int (D 18 6), .int (D 18 7), .int (D 18 8), .int (D 18 9), .int (D 18 10), .int (D 18 11), .int (D 18 12), .int (D 18 13), .int (D 18 14)])) (Or.inr (by omega))
        replace hN := hN.put (a := nd + 18) (c := .inr (10, [.ref (nd + 10), .ref (nd + 19), .ref (nd + 21), .int (D 18 3), .int (D 18 4), .int (D 18 5), .int (D 18 6), .int (D 18 7), .int (D 18 8), .int (D 18 9), .int (D 18 10), .int (D 18 11), .int (D 18 12), .int (D 18 13), .int (D 18 14)])) (by omega)
        replace hn : (ax_put hp_10 (nd + 18) (.inr (10, [.ref (nd + 10), .ref (nd + 19), .ref (nd + 21), .int (D 18 3), .int (D 18 4), .int (D 18 5), .int (D 18 6), .int (D 18 7), .int (D 18 8), .int (D 18 9), .int (D 18 10), .int (D 18 11), .int (D 18 12), .int (D 18 13), .int (D 18 14)]))).1 = h0.1 := hn
        replace hs : (ax_put hp_10 (nd + 18) (.inr (10, [.ref (nd + 10), .ref (nd + 19), .ref (nd + 21), .int (D 18 3), .int (D 18 4), .int (D 18 5), .int (D 18 6), .int (D 18 7), .int (D 18 8), .int (D 18 9), .int (D 18 10), .int (D 18 11), .int (D 18 12), .int (D 18 13), .int (D 18 14)]))).2.1 = h0.2.1 := hs
        generalize ax_put hp_10 (nd + 18) (.inr (10, [.ref (nd + 10), .ref (nd + 19), .ref (nd + 21), .int (D 18 3), .int (D 18 4), .int (D 18 5), .int (D 18 6), .int (D 18 7), .int (D 18 8), .int (D 18 9), .int (D 18 10), .int (D 18 11), .int (D 18 12), .int (D 18 13), .int (D 18 14)])) = hp_11 at hF hf hN hn hs ⊢
        refine ar_aload_n 89 d_83_88 rfl rfl ?_
        refine ar_iconst 90 (v := 0) d_83_89 rfl (by decide) ?_
        refine ar_putf 93 [.int me, .ref (n + 264), .ref n, .ref (nd + 10), .ref (nd + 18), .ref (nd + 8), .ref (nd + 9), .int (D 7 7), .int (D 7 8), .int (D 7 9), .int 0, .long A, .int (D 7 12), .int (D 7 13), .int (D 7 14)] d_83_90 rfl (ci := 9) (k := 10) rfl rfl (hF.at 7 rfl) (Nat.le_of_ble_eq_true rfl) rfl rfl rfl ?_
        replace hF : ax_hs (ax_put hp_11 (nd + 7) (.inr (9, [.int me, .ref (n + 264), .ref n, .ref (nd + 10), .ref (nd + 18), .ref (nd + 8), .ref (nd + 9), .int (D 7 7), .int (D 7 8), .int (D 7 9), .int 0, .long A, .int (D 7 12), .int (D 7 13), .int (D 7 14)]))) [cNd n nd me D, cDk nd D, cAr nd 2 35840 D, cAr nd 3 4096 D, cAr nd 4 32 D, cAr nd 5 280 D, cAr nd 6 280 D, (nd + 7, .inr (9, [.int me, .ref (n + 264), .ref n, .ref (nd + 10), .ref (nd + 18), .ref (nd + 8), .ref (nd + 9), .int (D 7 7), .int (D 7 8), .int (D 7 9), .int 0, .long A, .int (D 7 12), .int (D 7 13), .int (D 7 14)])), cAr nd 8 16 D, cAr nd 9 280 D, (nd + 10, .inr (6, [.int (nI gg), .ref (nd + 11), .ref (nd + 12), .ref (nd + 13), .ref (nd + 14), .ref (nd + 15), .ref (nd + 16), .ref (nd + 17), .long 0, .int (nI cf), .int (b (0 + 16))])), (nd + 11, .inl (0, 48, .inl (rrJ b 0 (ax_fill (D 11) 0 48 (-1)) cf))), (nd + 12, .inl (0, 48, .inl (ax_fill (D 12) 0 48 0))), cAr nd 13 48 D, cAr nd 14 2400 D, (nd + 15, .inl (0, 512, .inl (rrO b 0 (ax_fill (D 15) 0 512 (-1)) cf))), (nd + 16, .inl (0, 961, .inl (rrV b 0 (upd (ax_fill (D 16) 0 961 (-1)) 960 ((b (0 + 1)) - (b (0 + 1)) / 512 * 512)) cf))), (nd + 17, .inl (0, 961, .inl (upd (ax_fill (D 17) 0 961 0) 960 (1 <<< ((u 1) &&& 31))))), cWk nd D, cWa nd D, cAr nd 20 612 D, cAr nd 21 1152 D, cRk n nn gg C, cOr n nn gg f] := hF.put 7 _ rfl rfl
        replace hf := hf.put (a := nd + 7) (c := .inr (9, [.int me, .ref (n + 264), .ref n, .ref (nd + 10), .ref (nd + 18), .ref (nd + 8), .ref (nd + 9), .int (D 7 7), .int (D 7 8), .int (D 7 9), .int 0, .long A, .int (D 7 12), .int (D 7 13), .int (D 7 14)])) (Or.inr (by omega))
        replace hN := hN.put (a := nd + 7) (c := .inr (9, [.int me, .ref (n + 264), .ref n, .ref (nd + 10), .ref (nd + 18), .ref (nd + 8), .ref (nd + 9), .int (D 7 7), .int (D 7 8), .int (D 7 9), .int 0, .long A, .int (D 7 12), .int (D 7 13), .int (D 7 14)])) (by omega)
        replace hn : (ax_put hp_11 (nd + 7) (.inr (9, [.int me, .ref (n + 264), .ref n, .ref (nd + 10), .ref (nd + 18), .ref (nd + 8), .ref (nd + 9), .int (D 7 7), .int (D 7 8), .int (D 7 9), .int 0, .long A, .int (D 7 12), .int (D 7 13), .int (D 7 14)]))).1 = h0.1 := hn
        replace hs : (ax_put hp_11 (nd + 7) (.inr (9, [.int me, .ref (n + 264), .ref n, .ref (nd + 10), .ref (nd + 18), .ref (nd + 8), .ref (nd + 9), .int (D 7 7), .int (D 7 8), .int (D 7 9), .int 0, .long A, .int (D 7 12), .int (D 7 13), .int (D 7 14)]))).2.1 = h0.2.1 := hs
        generalize ax_put hp_11 (nd + 7) (.inr (9, [.int me, .ref (n + 264), .ref n, .ref (nd + 10), .ref (nd + 18), .ref (nd + 8), .ref (nd + 9), .int (D 7 7), .int (D 7 8), .int (D 7 9), .int 0, .long A, .int (D 7 12), .int (D 7 13), .int (D 7 14)])) = hp_12 at hF hf hN hn hs ⊢
        refine ar_aload_n 94 d_83_93 rfl rfl ?_
        refine ar_lconst 95 (v := 0) d_83_94 rfl (by decide) ?_
        refine ar_putf 98 [.int me, .ref (n + 264), .ref n, .ref (nd + 10), .ref (nd + 18), .ref (nd + 8), .ref (nd + 9), .int (D 7 7), .int (D 7 8), .int (D 7 9), .int 0, .long 0, .int (D 7 12), .int (D 7 13), .int (D 7 14)] d_83_95 rfl (ci := 9) (k := 11) rfl rfl (hF.at 7 rfl) (Nat.le_of_ble_eq_true rfl) rfl rfl rfl ?_
        replace hF : ax_hs (ax_put hp_12 (nd + 7) (.inr (9, [.int me, .ref (n + 264), .ref n, .ref (nd + 10), .ref (nd + 18), .ref (nd + 8), .ref (nd + 9), .int (D 7 7), .int (D 7 8), .int (D 7 9), .int 0, .long 0, .int (D 7 12), .int (D 7 13), .int (D 7 14)]))) [cNd n nd me D, cDk nd D, cAr nd 2 35840 D, cAr nd 3 4096 D, cAr nd 4 32 D, cAr nd 5 280 D, cAr nd 6 280 D, (nd + 7, .inr (9, [.int me, .ref (n + 264), .ref n, .ref (nd + 10), .ref (nd + 18), .ref (nd + 8), .ref (nd + 9), .int (D 7 7), .int (D 7 8), .int (D 7 9), .int 0, .long 0, .int (D 7 12), .int (D 7 13), .int (D 7 14)])), cAr nd 8 16 D, cAr nd 9 280 D, (nd + 10, .inr (6, [.int (nI gg), .ref (nd + 11), .ref (nd + 12), .ref (nd + 13), .ref (nd + 14), .ref (nd + 15), .ref (nd + 16), .ref (nd + 17), .long 0, .int (nI cf), .int (b (0 + 16))])), (nd + 11, .inl (0, 48, .inl (rrJ b 0 (ax_fill (D 11) 0 48 (-1)) cf))), (nd + 12, .inl (0, 48, .inl (ax_fill (D 12) 0 48 0))), cAr nd 13 48 D, cAr nd 14 2400 D, (nd + 15, .inl (0, 512, .inl (rrO b 0 (ax_fill (D 15) 0 512 (-1)) cf))), (nd + 16, .inl (0, 961, .inl (rrV b 0 (upd (ax_fill (D 16) 0 961 (-1)) 960 ((b (0 + 1)) - (b (0 + 1)) / 512 * 512)) cf))), (nd + 17, .inl (0, 961, .inl (upd (ax_fill (D 17) 0 961 0) 960 (1 <<< ((u 1) &&& 31))))), cWk nd D, cWa nd D, cAr nd 20 612 D, cAr nd 21 1152 D, cRk n nn gg C, cOr n nn gg f] := hF.put 7 _ rfl rfl
        replace hf := hf.put (a := nd + 7) (c := .inr (9, [.int me, .ref (n + 264), .ref n, .ref (nd + 10), .ref (nd + 18), .ref (nd + 8), .ref (nd + 9), .int (D 7 7), .int (D 7 8), .int (D 7 9), .int 0, .long 0, .int (D 7 12), .int (D 7 13), .int (D 7 14)])) (Or.inr (by omega))
        replace hN := hN.put (a := nd + 7) (c := .inr (9, [.int me, .ref (n + 264), .ref n, .ref (nd + 10), .ref (nd + 18), .ref (nd + 8), .ref (nd + 9), .int (D 7 7), .int (D 7 8), .int (D 7 9), .int 0, .long 0, .int (D 7 12), .int (D 7 13), .int (D 7 14)])) (by omega)
        replace hn : (ax_put hp_12 (nd + 7) (.inr (9, [.int me, .ref (n + 264), .ref n, .ref (nd + 10), .ref (nd + 18), .ref (nd + 8), .ref (nd + 9), .int (D 7 7), .int (D 7 8), .int (D 7 9), .int 0, .long 0, .int (D 7 12), .int (D 7 13), .int (D 7 14)]))).1 = h0.1 := hn
        replace hs : (ax_put hp_12 (nd + 7) (.inr (9, [.int me, .ref (n + 264), .ref n, .ref (nd + 10), .ref (nd + 18), .ref (nd + 8), .ref (nd + 9), .int (D 7 7), .int (D 7 8), .int (D 7 9), .int 0, .long 0, .int (D 7 12), .int (D 7 13), .int (D 7 14)]))).2.1 = h0.2.1 := hs
        generalize ax_put hp_12 (nd + 7) (.inr (9, [.int me, .ref (n + 264), .ref n, .ref (nd + 10), .ref (nd + 18), .ref (nd + 8), .ref (nd + 9), .int (D 7 7), .int (D 7 8), .int (D 7 9), .int 0, .long 0, .int (D 7 12), .int (D 7 13), .int (D 7 14)])) = hp_13 at hF hf hN hn hs ⊢
        refine ar_aload_n 99 d_83_98 rfl rfl ?_
        refine ar_iconst 100 (v := 0) d_83_99 rfl (by decide) ?_
        refine ar_putf 103 [.int me, .ref (n + 264), .ref n, .ref (nd + 10), .ref (nd + 18), .ref (nd + 8), .ref (nd + 9), .int (D 7 7), .int (D 7 8), .int (D 7 9), .int 0, .long 0, .int (D 7 12), .int (D 7 13), .int 0] d_83_100 rfl (ci := 9) (k := 14) rfl rfl (hF.at 7 rfl) (Nat.le_of_ble_eq_true rfl) rfl rfl rfl ?_
        replace hF : ax_hs (ax_put hp_13 (nd + 7) (.inr (9, [.int me, .ref (n + 264), .ref n, .ref (nd + 10), .ref (nd + 18), .ref (nd + 8), .ref (nd + 9), .int (D 7 7), .int (D 7 8), .int (D 7 9), .int 0, .long 0, .int (D 7 12), .int (D 7 13), .int 0]))) [cNd n nd me D, cDk nd D, cAr nd 2 35840 D, cAr nd 3 4096 D, cAr nd 4 32 D, cAr nd 5 280 D, cAr nd 6 280 D, (nd + 7, .inr (9, [.int me, .ref (n + 264), .ref n, .ref (nd + 10), .ref (nd + 18), .ref (nd + 8), .ref (nd + 9), .int (D 7 7), .int (D 7 8), .int (D 7 9), .int 0, .long 0, .int (D 7 12), .int (D 7 13), .int 0])), cAr nd 8 16 D, cAr nd 9 280 D, (nd + 10, .inr (6, [.int (nI gg), .ref (nd + 11), .ref (nd + 12), .ref (nd + 13), .ref (nd + 14), .ref (nd + 15), .ref (nd + 16), .ref (nd + 17), .long 0, .int (nI cf), .int (b (0 + 16))])), (nd + 11, .inl (0, 48, .inl (rrJ b 0 (ax_fill (D 11) 0 48 (-1)) cf))), (nd + 12, .inl (0, 48, .inl (ax_fill (D 12) 0 48 0))), cAr nd 13 48 D, cAr nd 14 2400 D, (nd + 15, .inl (0, 512, .inl (rrO b 0 (ax_fill (D 15) 0 512 (-1)) cf))), (nd + 16, .inl (0, 961, .inl (rrV b 0 (upd (ax_fill (D 16) 0 961 (-1)) 960 ((b (0 + 1)) - (b (0 + 1)) / 512 * 512)) cf))), (nd + 17, .inl (0, 961, .inl (upd (ax_fill (D 17) 0 961 0) 960 (1 <<< ((u 1) &&& 31))))), cWk nd D, cWa nd D, cAr nd 20 612 D, cAr nd 21 1152 D, cRk n nn gg C, cOr n nn gg f] := hF.put 7 _ rfl rfl
        replace hf := hf.put (a := nd + 7) (c := .inr (9, [.int me, .ref (n + 264), .ref n, .ref (nd + 10), .ref (nd + 18), .ref (nd + 8), .ref (nd + 9), .int (D 7 7), .int (D 7 8), .int (D 7 9), .int 0, .long 0, .int (D 7 12), .int (D 7 13), .int 0])) (Or.inr (by omega))
        replace hN := hN.put (a := nd + 7) (c := .inr (9, [.int me, .ref (n + 264), .ref n, .ref (nd + 10), .ref (nd + 18), .ref (nd + 8), .ref (nd + 9), .int (D 7 7), .int (D 7 8), .int (D 7 9), .int 0, .long 0, .int (D 7 12), .int (D 7 13), .int 0])) (by omega)
        replace hn : (ax_put hp_13 (nd + 7) (.inr (9, [.int me, .ref (n + 264), .ref n, .ref (nd + 10), .ref (nd + 18), .ref (nd + 8), .ref (nd + 9), .int (D 7 7), .int (D 7 8), .int (D 7 9), .int 0, .long 0, .int (D 7 12), .int (D 7 13), .int 0]))).1 = h0.1 := hn
        replace hs : (ax_put hp_13 (nd + 7) (.inr (9, [.int me, .ref (n + 264), .ref n, .ref (nd + 10), .ref (nd + 18), .ref (nd + 8), .ref (nd + 9), .int (D 7 7), .int (D 7 8), .int (D 7 9), .int 0, .long 0, .int (D 7 12), .int (D 7 13), .int 0]))).2.1 = h0.2.1 := hs
        generalize ax_put hp_13 (nd + 7) (.inr (9, [.int me, .ref (n + 264), .ref n, .ref (nd + 10), .ref (nd + 18), .ref (nd + 8), .ref (nd + 9), .int (D 7 7), .int (D 7 8), .int (D 7 9), .int 0, .long 0, .int (D 7 12), .int (D 7 13), .int 0])) = hp_14 at hF hf hN hn hs ⊢
        refine ar_aload_n 104 d_83_103 rfl rfl ?_
        have hS1 : NS Z n nd nn gg C me f q u b uv h0 hp_14 (va_up (va_up (va_up (va_up (va_up (va_up (va_up D 7 (upd (upd (D 7) 10 0) 14 0)) 10 (upd (upd (D 10) 9 (nI cf)) 10 (b (0 + 16)))) 11 (rrJ b 0 (ax_fill (D 11) 0 48 (-1)) cf)) 12 (ax_fill (D 12) 0 48 0)) 15 (rrO b 0 (ax_fill (D 15) 0 512 (-1)) cf)) 16 (rrV b 0 (upd (ax_fill (D 16) 0 961 (-1)) 960 ((b (0 + 1)) - (b (0 + 1)) / 512 * 512)) cf)) 17 (upd (ax_fill (D 17) 0 961 0) 960 (1 <<< ((u 1) &&& 31)))) 0 0 Y := ⟨hF, hN, hf, hn, hs, hp0, hu0⟩
        have hI1 : NI Z nn (va_up (va_up (va_up (va_up (va_up (va_up (va_up D 7 (upd (upd (D 7) 10 0) 14 0)) 10 (upd (upd (D 10) 9 (nI cf)) 10 (b (0 + 16)))) 11 (rrJ b 0 (ax_fill (D 11) 0 48 (-1)) cf)) 12 (ax_fill (D 12) 0 48 0)) 15 (rrO b 0 (ax_fill (D 15) 0 512 (-1)) cf)) 16 (rrV b 0 (upd (ax_fill (D 16) 0 961 (-1)) 960 ((b (0 + 1)) - (b (0 + 1)) / 512 * 512)) cf)) 17 (upd (ax_fill (D 17) 0 961 0) 960 (1 <<< ((u 1) &&& 31)))) := ⟨hI.1, hT1, hI.2.2.1.tab (fun z => absurd hws (by rw [show D 18 3 = 2 from z]; decide)), hI.2.2.2⟩
        refine ar_call (r := []) (na := 0) (kd := 0) (cm := 35) (fr2 := fr - 1) (lo2 := lo - 21) 107 d_83_104 (ar_hoV (as := []) rfl rfl rfl (hF.at 7 rfl)) rfl (by omega) (show lo - 21 + (19 + 2) = lo by omega) (Nat.le_of_ble_eq_true rfl) (Nat.le_of_ble_eq_true rfl) (s_35 (by omega) (by omega) hC0 hS1 hI1) ?_
        intro v hp_15 hq
        obtain ⟨rfl, D15, K15, A15, Y15, hS2, hI2, hE15, -⟩ := hq
        clear hS1 hI1 hF hN hf hn hs hp0 hu0
        obtain ⟨hF, hN, hf, hn, hs, hp0, hu0⟩ := hS2
        replace hF : ax_hs hp_15 [cNd n nd me D15, cDk nd D15, cAr nd 2 35840 D15, cAr nd 3 4096 D15, cAr nd 4 32 D15, cAr nd 5 280 D15, cAr nd 6 280 D15, cLd n nd me D15 A15, cAr nd 8 16 D15, cAr nd 9 280 D15, cTb nd gg D15 K15, cAr nd 11 48 D15, cAr nd 12 48 D15, cAr nd 13 48 D15, cAr nd 14 2400 D15, cAr nd 15 512 D15, cAr nd 16 961 D15, cAr nd 17 961 D15, cWk nd D15, cWa nd D15, cAr nd 20 612 D15, cAr nd 21 1152 D15, cRk n nn gg C, cOr n nn gg f] := hF
        have hI15 := hI2
        clear hI2
        have hS9 : NS Z n nd nn gg C me f q u b uv h0 hp_15 D15 K15 A15 Y15 := ⟨hF, hN, hf, hn, hs, hp0, hu0⟩
        have hI9 : NI Z nn D15 := hI15
        exact ar_ret d_83_107 rfl (⟨rfl, _, _, _, _, hS9, hI9, eq_ifF (by rw [er]; decide) (eq_ifF cc8 (bnN_eq hcf (eq_ifT hws (bnS_eq hE15 (rfl))))), trivial⟩)
      · refine ar_top (x' := 1) (if_neg hws) ?_
        refine ar_if_eq 78 74 d_83_71 (by decide) rfl (fun c => absurd c (by decide)) (fun _ => ?_)
        refine ar_iconst 75 (v := 1) d_83_74 rfl (by decide) ?_
        refine ar_goto 85 d_83_75 (by decide) ?_
        refine ar_putf 88 [.ref (nd + 10), .ref (nd + 19), .ref (nd + 21), .int 1, .int (D 18 4), .int (D 18 5), .int (D 18 6), .int (D 18 7), .int (D 18 8), .int (D 18 9), .int (D 18 10), .int (D 18 11), .int (D 18 12), .int (D 18 13), .int (D 18 14)] d_83_85 rfl (ci := 10) (k := 3) rfl rfl (hF.at 18 rfl) (Nat.le_of_ble_eq_true rfl) rfl rfl rfl ?_
        replace hF : ax_hs (ax_put hp_10 (nd + 18) (.inr (10, [.ref (nd + 10), .ref (nd + 19), .ref (nd + 21), .int 1, .int (D 18 4), .int (D 18 5), .int (D 18 6), .int (D 18 7), .int (D 18 8), .int (D 18 9), .int (D 18 10), .int (D 18 11), .int (D 18 12), .int (D 18 13), .int (D 18 14)]))) [cNd n nd me D, cDk nd D, cAr nd 2 35840 D, cAr nd 3 4096 D, cAr nd 4 32 D, cAr nd 5 280 D, cAr nd 6 280 D, cLd n nd me D A, cAr nd 8 16 D, cAr nd 9 280 D, (nd + 10, .inr (6, [.int (nI gg), .ref (nd + 11), .ref (nd + 12), .ref (nd + 13), .ref (nd + 14), .ref (nd + 15), .ref (nd + 16), .ref (nd + 17), .long 0, .int (nI cf), .int (b (0 + 16))])), (nd + 11, .inl (0, 48, .inl (rrJ b 0 (ax_fill (D 11) 0 48 (-1)) cf))), (nd + 12, .inl (0, 48, .inl (ax_fill (D 12) 0 48 0))), cAr nd 13 48 D, cAr nd 14 2400 D, (nd + 15, .inl (0, 512, .inl (rrO b 0 (ax_fill (D 15) 0 512 (-1)) cf))), (nd + 16, .inl (0, 961, .inl (rrV b 0 (upd (ax_fill (D 16) 0 961 (-1)) 960 ((b (0 + 1)) - (b (0 + 1)) / 512 * 512)) cf))), (nd + 17, .inl (0, 961, .inl (upd (ax_fill (D 17) 0 961 0) 960 (1 <<< ((u 1) &&& 31))))), (nd + 18, .inr (10, [.ref (nd + 10), .ref (nd + 19), .ref (nd + 21), .int 1, .int (D 18 4), .int (D 18 5), .int (D 18 6), .int (D 18 7), .int (D 18 8), .int (D 18 9), .int (D 18 10), .int (D 18 11), .int (D 18 12), .int (D 18 13), .int (D 18 14)])), cWa nd D, cAr nd 20 612 D, cAr nd 21 1152 D, cRk n nn gg C, cOr n nn gg f] := hF.put 18 _ rfl rfl
        replace hf := hf.put (a := nd + 18) (c := .inr (10, [.ref (nd + 10), .ref (nd + 19), .ref (nd + 21), .int 1, .int (D 18 4), .int (D 18 5), .int (D 18 6), .int (D 18 7), .int (D 18 8), .int (D 18 9), .int (D 18 10), .int (D 18 11), .int (D 18 12), .int (D 18 13), .int (D 18 14)])) (Or.inr (by omega))
        replace hN := hN.put (a := nd + 18) (c := .inr (10, [.ref (nd + 10), .ref (nd + 19), .ref (nd + 21), .int 1, .int (D 18 4), .int (D 18 5), .int (D 18 6), .int (D 18 7), .int (D 18 8), .int (D 18 9), .int (D 18 10), .int (D 18 11), .int (D 18 12), .int (D 18 13), .int (D 18 14)])) (by omega)
        replace hn : (ax_put hp_10 (nd + 18) (.inr (10, [.ref (nd + 10), .ref (nd + 19), .ref (nd + 21), .int 1, .int (D 18 4), .int (D 18 5), .int (D 18 6), .int (D 18 7), .int (D 18 8), .int (D 18 9), .int (D 18 10), .int (D 18 11), .int (D 18 12), .int (D 18 13), .int (D 18 14)]))).1 = h0.1 := hn
        replace hs : (ax_put hp_10 (nd + 18) (.inr (10, [.ref (nd + 10), .ref (nd + 19), .ref (nd + 21), .int 1, .int (D 18 4), .int (D 18 5), .int (D 18 6), .int (D 18 7), .int (D 18 8), .int (D 18 9), .int (D 18 10), .int (D 18 11), .int (D 18 12), .int (D 18 13), .int (D 18 14)]))).2.1 = h0.2.1 := hs
        generalize ax_put hp_10 (nd + 18) (.inr (10, [.ref (nd + 10), .ref (nd + 19), .ref (nd + 21), .int 1, .int (D 18 4), .int (D 18 5), .int (D 18 6), .int (D 18 7), .int (D 18 8), .int (D 18 9), .int (D 18 10), .int (D 18 11), .int (D 18 12), .int (D 18 13), .int (D 18 14)])) = hp_16 at hF hf hN hn hs ⊢
        refine ar_aload_n 89 d_83_88 rfl rfl ?_
        refine ar_iconst 90 (v := 0) d_83_89 rfl (by decide) ?_
        refine ar_putf 93 [.int me, .ref (n + 264), .ref n, .ref (nd + 10), .ref (nd + 18), .ref (nd + 8), .ref (nd + 9), .int (D 7 7), .int (D 7 8), .int (D 7 9), .int 0, .long A, .int (D 7 12), .int (D 7 13), .int (D 7 14)] d_83_90 rfl (ci := 9) (k := 10) rfl rfl (hF.at 7 rfl) (Nat.le_of_ble_eq_true rfl) rfl rfl rfl ?_
        replace hF : ax_hs (ax_put hp_16 (nd + 7) (.inr (9, [.int me, .ref (n + 264), .ref n, .ref (nd + 10), .ref (nd + 18), .ref (nd + 8), .ref (nd + 9), .int (D 7 7), .int (D 7 8), .int (D 7 9), .int 0, .long A, .int (D 7 12), .int (D 7 13), .int (D 7 14)]))) [cNd n nd me D, cDk nd D, cAr nd 2 35840 D, cAr nd 3 4096 D, cAr nd 4 32 D, cAr nd 5 280 D, cAr nd 6 280 D, (nd + 7, .inr (9, [.int me, .ref (n + 264), .ref n, .ref (nd + 10), .ref (nd + 18), .ref (nd + 8), .ref (nd + 9), .int (D 7 7), .int (D 7 8), .int (D 7 9), .int 0, .long A, .int (D 7 12), .int (D 7 13), .int (D 7 14)])), cAr nd 8 16 D, cAr nd 9 280 D, (nd + 10, .inr (6, [.int (nI gg), .ref (nd + 11), .ref (nd + 12), .ref (nd + 13), .ref (nd + 14), .ref (nd + 15), .ref (nd + 16), .ref (nd + 17), .long 0, .int (nI cf), .int (b (0 + 16))])), (nd + 11, .inl (0, 48, .inl (rrJ b 0 (ax_fill (D 11) 0 48 (-1)) cf))), (nd + 12, .inl (0, 48, .inl (ax_fill (D 12) 0 48 0))), cAr nd 13 48 D, cAr nd 14 2400 D, (nd + 15, .inl (0, 512, .inl (rrO b 0 (ax_fill (D 15) 0 512 (-1)) cf))), (nd + 16, .inl (0, 961, .inl (rrV b 0 (upd (ax_fill (D 16) 0 961 (-1)) 960 ((b (0 + 1)) - (b (0 + 1)) / 512 * 512)) cf))), (nd + 17, .inl (0, 961, .inl (upd (ax_fill (D 17) 0 961 0) 960 (1 <<< ((u 1) &&& 31))))), (nd + 18, .inr (10, [.ref (nd + 10), .ref (nd + 19), .ref (nd + 21), .int 1, .int (D 18 4), .int (D 18 5), .int (D 18 6), .int (D 18 7), .int (D 18 8), .int (D 18 9), .int (D 18 10), .int (D 18 11), .int (D 18 12), .int (D 18 13), .int (D 18 14)])), cWa nd D, cAr nd 20 612 D, cAr nd 21 1152 D, cRk n nn gg C, cOr n nn gg f] := hF.put 7 _ rfl rfl
        replace hf := hf.put (a := nd + 7) (c := .inr (9, [.int me, .ref (n + 264), .ref n, .ref (nd + 10), .ref (nd + 18), .ref (nd + 8), .ref (nd + 9), .int (D 7 7), .int (D 7 8), .int (D 7 9), .int 0, .long A, .int (D 7 12), .int (D 7 13), .int (D 7 14)])) (Or.inr (by omega))
        replace hN := hN.put (a := nd + 7) (c := .inr (9, [.int me, .ref (n + 264), .ref n, .ref (nd + 10), .ref (nd + 18), .ref (nd + 8), .ref (nd + 9), .int (D 7 7), .int (D 7 8), .int (D 7 9), .int 0, .long A, .int (D 7 12), .int (D 7 13), .int (D 7 14)])) (by omega)
        replace hn : (ax_put hp_16 (nd + 7) (.inr (9, [.int me, .ref (n + 264), .ref n, .ref (nd + 10), .ref (nd + 18), .ref (nd + 8), .ref (nd + 9), .int (D 7 7), .int (D 7 8), .int (D 7 9), .int 0, .long A, .int (D 7 12), .int (D 7 13), .int (D 7 14)]))).1 = h0.1 := hn
        replace hs : (ax_put hp_16 (nd + 7) (.inr (9, [.int me, .ref (n + 264), .ref n, .ref (nd + 10), .ref (nd + 18), .ref (nd + 8), .ref (nd + 9), .int (D 7 7), .int (D 7 8), .int (D 7 9), .int 0, .long A, .int (D 7 12), .int (D 7 13), .int (D 7 14)]))).2.1 = h0.2.1 := hs
        generalize ax_put hp_16 (nd + 7) (.inr (9, [.int me, .ref (n + 264), .ref n, .ref (nd + 10), .ref (nd + 18), .ref (nd + 8), .ref (nd + 9), .int (D 7 7), .int (D 7 8), .int (D 7 9), .int 0, .long A, .int (D 7 12), .int (D 7 13), .int (D 7 14)])) = hp_17 at hF hf hN hn hs ⊢
        refine ar_aload_n 94 d_83_93 rfl rfl ?_
        refine ar_lconst 95 (v := 0) d_83_94 rfl (by decide) ?_
        refine ar_putf 98 [.int me, .ref (n + 264), .ref n, .ref (nd + 10), .ref (nd + 18), .ref (nd + 8), .ref (nd + 9), .int (D 7 7), .int (D 7 8), .int (D 7 9), .int 0, .long 0, .int (D 7 12), .int (D 7 13), .int (D 7 14)] d_83_95 rfl (ci := 9) (k := 11) rfl rfl (hF.at 7 rfl) (Nat.le_of_ble_eq_true rfl) rfl rfl rfl ?_
        replace hF : ax_hs (ax_put hp_17 (nd + 7) (.inr (9, [.int me, .ref (n + 264), .ref n, .ref (nd + 10), .ref (nd + 18), .ref (nd + 8), .ref (nd + 9), .int (D 7 7), .int (D 7 8), .int (D 7 9), .int 0, .long 0, .int (D 7 12), .int (D 7 13), .int (D 7 14)]))) [cNd n nd me D, cDk nd D, cAr nd 2 35840 D, cAr nd 3 4096 D, cAr nd 4 32 D, cAr nd 5 280 D, cAr nd 6 280 D, (nd + 7, .inr (9, [.int me, .ref (n + 264), .ref n, .ref (nd + 10), .ref (nd + 18), .ref (nd + 8), .ref (nd + 9), .int (D 7 7), .int (D 7 8), .int (D 7 9), .int 0, .long 0, .int (D 7 12), .int (D 7 13), .int (D 7 14)])), cAr nd 8 16 D, cAr nd 9 280 D, (nd + 10, .inr (6, [.int (nI gg), .ref (nd + 11), .ref (nd + 12), .ref (nd + 13), .ref (nd + 14), .ref (nd + 15), .ref (nd + 16), .ref (nd + 17), .long 0, .int (nI cf), .int (b (0 + 16))])), (nd + 11, .inl (0, 48, .inl (rrJ b 0 (ax_fill (D 11) 0 48 (-1)) cf))), (nd + 12, .inl (0, 48, .inl (ax_fill (D 12) 0 48 0))), cAr nd 13 48 D, cAr nd 14 2400 D, (nd + 15, .inl (0, 512, .inl (rrO b 0 (ax_fill (D 15) 0 512 (-1)) cf))), (nd + 16, .inl (0, 961, .inl (rrV b 0 (upd (ax_fill (D 16) 0 961 (-1)) 960 ((b (0 + 1)) - (b (0 + 1)) / 512 * 512)) cf))), (nd + 17, .inl (0, 961, .inl (upd (ax_fill (D 17) 0 961 0) 960 (1 <<< ((u 1) &&& 31))))), (nd + 18, .inr (10, [.ref (nd + 10), .ref (nd + 19), .ref (nd + 21), .int 1, .int (D 18 4), .int (D 18 5), .int (D 18 6), .int (D 18 7), .int (D 18 8), .int (D 18 9), .int (D 18 10), .int (D 18 11), .int (D 18 12), .int (D 18 13), .int (D 18 14)])), cWa nd D, cAr nd 20 612 D, cAr nd 21 1152 D, cRk n nn gg C, cOr n nn gg f] := hF.put 7 _ rfl rfl
        replace hf := hf.put (a := nd + 7) (c := .inr (9, [.int me, .ref (n + 264), .ref n, .ref (nd + 10), .ref (nd + 18), .ref (nd + 8), .ref (nd + 9), .int (D 7 7), .int (D 7 8), .int (D 7 9), .int 0, .long 0, .int (D 7 12), .int (D 7 13), .int (D 7 14)])) (Or.inr (by omega))
        replace hN := hN.put (a := nd + 7) (c := .inr (9, [.int me, .ref (n + 264), .ref n, .ref (nd + 10), .ref (nd + 18), .ref (nd + 8), .ref (nd + 9), .int (D 7 7), .int (D 7 8), .int (D 7 9), .int 0, .long 0, .int (D 7 12), .int (D 7 13), .int (D 7 14)])) (by omega)
        replace hn : (ax_put hp_17 (nd + 7) (.inr (9, [.int me, .ref (n + 264), .ref n, .ref (nd + 10), .ref (nd + 18), .ref (nd + 8), .ref (nd + 9), .int (D 7 7), .int (D 7 8), .int (D 7 9), .int 0, .long 0, .int (D 7 12), .int (D 7 13), .int (D 7 14)]))).1 = h0.1 := hn
        replace hs : (ax_put hp_17 (nd + 7) (.inr (9, [.int me, .ref (n + 264), .ref n, .ref (nd + 10), .ref (nd + 18), .ref (nd + 8), .ref (nd + 9), .int (D 7 7), .int (D 7 8), .int (D 7 9), .int 0, .long 0, .int (D 7 12), .int (D 7 13), .int (D 7 14)]))).2.1 = h0.2.1 := hs
        generalize ax_put hp_17 (nd + 7) (.inr (9, [.int me, .ref (n + 264), .ref n, .ref (nd + 10), .ref (nd + 18), .ref (nd + 8), .ref (nd + 9), .int (D 7 7), .int (D 7 8), .int (D 7 9), .int 0, .long 0, .int (D 7 12), .int (D 7 13), .int (D 7 14)])) = hp_18 at hF hf hN hn hs ⊢
        refine ar_aload_n 99 d_83_98 rfl rfl ?_
        refine ar_iconst 100 (v := 0) d_83_99 rfl (by decide) ?_
        refine ar_putf 103 [.int me, .ref (n + 264), .ref n, .ref (nd + 10), .ref (nd + 18), .ref (nd + 8), .ref (nd + 9), .int (D 7 7), .int (D 7 8), .int (D 7 9), .int 0, .long 0, .int (D 7 12), .int (D 7 13), .int 0] d_83_100 rfl (ci := 9) (k := 14) rfl rfl (hF.at 7 rfl) (Nat.le_of_ble_eq_true rfl) rfl rfl rfl ?_
        replace hF : ax_hs (ax_put hp_18 (nd + 7) (.inr (9, [.int me, .ref (n + 264), .ref n, .ref (nd + 10), .ref (nd + 18), .ref (nd + 8), .ref (nd + 9), .int (D 7 7), .int (D 7 8), .int (D 7 9), .int 0, .long 0, .int (D 7 12), .int (D 7 13), .int 0]))) [cNd n nd me D, cDk nd D, cAr nd 2 35840 D, cAr nd 3 4096 D, cAr nd 4 32 D, cAr nd 5 280 D, cAr nd 6 280 D, (nd + 7, .inr (9, [.int me, .ref (n + 264), .ref n, .ref (nd + 10), .ref (nd + 18), .ref (nd + 8), .ref (nd + 9), .int (D 7 7), .int (D 7 8), .int (D 7 9), .int 0, .long 0, .int (D 7 12), .int (D 7 13), .int 0])), cAr nd 8 16 D, cAr nd 9 280 D, (nd + 10, .inr (6, [.int (nI gg), .ref (nd + 11), .ref (nd + 12), .ref (nd + 13), .ref (nd + 14), .ref (nd + 15), .ref (nd + 16), .ref (nd + 17), .long 0, .int (nI cf), .int (b (0 + 16))])), (nd + 11, .inl (0, 48, .inl (rrJ b 0 (ax_fill (D 11) 0 48 (-1)) cf))), (nd + 12, .inl (0, 48, .inl (ax_fill (D 12) 0 48 0))), cAr nd 13 48 D, cAr nd 14 2400 D, (nd + 15, .inl (0, 512, .inl (rrO b 0 (ax_fill (D 15) 0 512 (-1)) cf))), (nd + 16, .inl (0, 961, .inl (rrV b 0 (upd (ax_fill (D 16) 0 961 (-1)) 960 ((b (0 + 1)) - (b (0 + 1)) / 512 * 512)) cf))), (nd + 17, .inl (0, 961, .inl (upd (ax_fill (D 17) 0 961 0) 960 (1 <<< ((u 1) &&& 31))))), (nd + 18, .inr (10, [.ref (nd + 10), .ref (nd + 19), .ref (nd + 21), .int 1, .int (D 18 4), .int (D 18 5), .int (D 18 6), .int (D 18 7), .int (D 18 8), .int (D 18 9), .int (D 18 10), .int (D 18 11), .int (D 18 12), .int (D 18 13), .int (D 18 14)])), cWa nd D, cAr nd 20 612 D, cAr nd 21 1152 D, cRk n nn gg C, cOr n nn gg f] := hF.put 7 _ rfl rfl
        replace hf := hf.put (a := nd + 7) (c := .inr (9, [.int me, .ref (n + 264), .ref n, .ref (nd + 10), .ref (nd + 18), .ref (nd + 8), .ref (nd + 9), .int (D 7 7), .int (D 7 8), .int (D 7 9), .int 0, .long 0, .int (D 7 12), .int (D 7 13), .int 0])) (Or.inr (by omega))
        replace hN := hN.put (a := nd + 7) (c := .inr (9, [.int me, .ref (n + 264), .ref n, .ref (nd + 10), .ref (nd + 18), .ref (nd + 8), .ref (nd + 9), .int (D 7 7), .int (D 7 8), .int (D 7 9), .int 0, .long 0, .int (D 7 12), .int (D 7 13), .int 0])) (by omega)
        replace hn : (ax_put hp_18 (nd + 7) (.inr (9, [.int me, .ref (n + 264), .ref n, .ref (nd + 10), .ref (nd + 18), .ref (nd + 8), .ref (nd + 9), .int (D 7 7), .int (D 7 8), .int (D 7 9), .int 0, .long 0, .int (D 7 12), .int (D 7 13), .int 0]))).1 = h0.1 := hn
        replace hs : (ax_put hp_18 (nd + 7) (.inr (9, [.int me, .ref (n + 264), .ref n, .ref (nd + 10), .ref (nd + 18), .ref (nd + 8), .ref (nd + 9), .int (D 7 7), .int (D 7 8), .int (D 7 9), .int 0, .long 0, .int (D 7 12), .int (D 7 13), .int 0]))).2.1 = h0.2.1 := hs
        generalize ax_put hp_18 (nd + 7) (.inr (9, [.int me, .ref (n + 264), .ref n, .ref (nd + 10), .ref (nd + 18), .ref (nd + 8), .ref (nd + 9), .int (D 7 7), .int (D 7 8), .int (D 7 9), .int 0, .long 0, .int (D 7 12), .int (D 7 13), .int 0])) = hp_19 at hF hf hN hn hs ⊢
        refine ar_aload_n 104 d_83_103 rfl rfl ?_
        have hS1 : NS Z n nd nn gg C me f q u b uv h0 hp_19 (va_up (va_up (va_up (va_up (va_up (va_up (va_up (va_up D 7 (upd (upd (D 7) 10 0) 14 0)) 10 (upd (upd (D 10) 9 (nI cf)) 10 (b (0 + 16)))) 11 (rrJ b 0 (ax_fill (D 11) 0 48 (-1)) cf)) 12 (ax_fill (D 12) 0 48 0)) 15 (rrO b 0 (ax_fill (D 15) 0 512 (-1)) cf)) 16 (rrV b 0 (upd (ax_fill (D 16) 0 961 (-1)) 960 ((b (0 + 1)) - (b (0 + 1)) / 512 * 512)) cf)) 17 (upd (ax_fill (D 17) 0 961 0) 960 (1 <<< ((u 1) &&& 31)))) 18 (upd (D 18) 3 1)) 0 0 Y := ⟨hF, hN, hf, hn, hs, hp0, hu0⟩
        have hI1 : NI Z nn (va_up (va_up (va_up (va_up (va_up (va_up (va_up (va_up D 7 (upd (upd (D 7) 10 0) 14 0)) 10 (upd (upd (D 10) 9 (nI cf)) 10 (b (0 + 16)))) 11 (rrJ b 0 (ax_fill (D 11) 0 48 (-1)) cf)) 12 (ax_fill (D 12) 0 48 0)) 15 (rrO b 0 (ax_fill (D 15) 0 512 (-1)) cf)) 16 (rrV b 0 (upd (ax_fill (D 16) 0 961 (-1)) 960 ((b (0 + 1)) - (b (0 + 1)) / 512 * 512)) cf)) 17 (upd (ax_fill (D 17) 0 961 0) 960 (1 <<< ((u 1) &&& 31)))) 18 (upd (D 18) 3 1)) := ⟨hI.1, hT1, WI.wait rfl hI.2.2.1.1 hI.2.2.1.2.2.1 (hI.2.2.1.2.2.2.1 (fun z => hws (by rw [show D 18 3 = 0 from z]; decide))) hI.2.2.1.2.2.2.2.2.2.2, hI.2.2.2⟩
        refine ar_call (r := []) (na := 0) (kd := 0) (cm := 35) (fr2 := fr - 1) (lo2 := lo - 21) 107 d_83_104 (ar_hoV (as := []) rfl rfl rfl (hF.at 7 rfl)) rfl (by omega) (show lo - 21 + (19 + 2) = lo by omega) (Nat.le_of_ble_eq_true rfl) (Nat.le_of_ble_eq_true rfl) (s_35 (by omega) (by omega) hC0 hS1 hI1) ?_
        intro v hp_20 hq
        obtain ⟨rfl, D20, K20, A20, Y20, hS2, hI2, hE20, -⟩ := hq
        clear hS1 hI1 hF hN hf hn hs hp0 hu0
        obtain ⟨hF, hN, hf, hn, hs, hp0, hu0⟩ := hS2
        replace hF : ax_hs hp_20 [cNd n nd me D20, cDk nd D20, cAr nd 2 35840 D20, cAr nd 3 4096 D20, cAr nd 4 32 D20, cAr nd 5 280 D20, cAr nd 6 280 D20, cLd n nd me D20 A20, cAr nd 8 16 D20, cAr nd 9 280 D20, cTb nd gg D20 K20, cAr nd 11 48 D20, cAr nd 12 48 D20, cAr nd 13 48 D20, cAr nd 14 2400 D20, cAr nd 15 512 D20, cAr nd 16 961 D20, cAr nd 17 961 D20, cWk nd D20, cWa nd D20, cAr nd 20 612 D20, cAr nd 21 1152 D20, cRk n nn gg C, cOr n nn gg f] := hF
        have hI20 := hI2
        clear hI2
        have hS9 : NS Z n nd nn gg C me f q u b uv h0 hp_20 D20 K20 A20 Y20 := ⟨hF, hN, hf, hn, hs, hp0, hu0⟩
        have hI9 : NI Z nn D20 := hI20
        exact ar_ret d_83_107 rfl (⟨rfl, _, _, _, _, hS9, hI9, eq_ifF (by rw [er]; decide) (eq_ifF cc8 (bnN_eq hcf (eq_ifF hws (bnS_eq hE20 (rfl))))), trivial⟩)
def F_68 (nn gg : Nat) (C me : Int32) (f u b : Nat → Int32) (D : Nat → Nat → Int32) (K A : Int64) (Y : List Mg)  : St :=
  bnN ((u 7).toNatClampNeg) (fun l =>
    if (u 5) < (D 18 4) then
      (D, K, A, Y)
    else
      if ¬ (u 5) = (D 18 4) then
        if (D 18 3) ≤ 1 then
          (va_up (va_up (va_up D 18 (upd (upd (upd (D 18) 3 1) 4 (u 5)) 6 (u 6))) 19 (upd (upd (upd (upd (upd (upd (D 19) 0 (b 0)) 1 (b 1)) 2 (b 2)) 3 (b 3)) 4 (b 4)) 5 (nI l))) 20 (va_cpy b (D 20) 5 0 (100 + (l + 3) / 4)), K, A, Y)
        else
          (D, K, A, Y)
      else
        if ¬ (D 18 3) = 0 then
          (D, K, A, Y)
        else
          if (D 18 3) ≤ 1 then
            (va_up (va_up (va_up D 18 (upd (upd (upd (D 18) 3 1) 4 (u 5)) 6 (u 6))) 19 (upd (upd (upd (upd (upd (upd (D 19) 0 (b 0)) 1 (b 1)) 2 (b 2)) 3 (b 3)) 4 (b 4)) 5 (nI l))) 20 (va_cpy b (D 20) 5 0 (100 + (l + 3) / 4)), K, A, Y)
          else
            (D, K, A, Y))
set_option maxRecDepth 100000 in
theorem s_68 {L : Nat} {xs : Nat → Int32} {fr lo : Nat} {Z : ZT} {n nd nn gg : Nat} {C me : Int32} {f : Nat → Int32} {q : Nat} {u b : Nat → Int32} {uv : Int32} {h0 h : ax_H} {D : Nat → Nat → Int32} {K A : Int64} {Y : List Mg}  (hfr : 3 ≤ fr) (hlo : 80 ≤ lo) (hC : CS n nd nn gg f) (hS : NS Z n nd nn gg C me f q u b uv h0 h D K A Y) (hI : NI Z nn D) (hA : AQ (b 0) (b 1) (b 2) (b 3) (b 4) (u 7)) (ho : opC Z (u 5) (b 0)) : ax_M L xs 68 fr lo [.ref (nd + 18), .ref (n + 1 + 1 + 2 * q)] h (fun r h' => r = none ∧ PS Z n nd nn gg C me f q u b uv h0 h' (fun D' K' A' Y' => (D', K', A', Y') = F_68 nn gg C me f u b D K A Y ∧ True)) := by
  have hC0 := hC
  show ax_A (ax_step L xs) ((68, 0, fr, lo), [(0, .ref (nd + 18)), (1, .ref (n + 1 + 1 + 2 * q))], [], h) _
  obtain ⟨hnd, hn0, hnn3, hnn, hgg1, hgg, hRg⟩ := hC
  obtain ⟨hF, hN, hf, hn, hs, hp0, hu0⟩ := hS
  replace hF : ax_hs h [cNd n nd me D, cDk nd D, cAr nd 2 35840 D, cAr nd 3 4096 D, cAr nd 4 32 D, cAr nd 5 280 D, cAr nd 6 280 D, cLd n nd me D A, cAr nd 8 16 D, cAr nd 9 280 D, cTb nd gg D K, cAr nd 11 48 D, cAr nd 12 48 D, cAr nd 13 48 D, cAr nd 14 2400 D, cAr nd 15 512 D, cAr nd 16 961 D, cAr nd 17 961 D, cWk nd D, cWa nd D, cAr nd 20 612 D, cAr nd 21 1152 D, cRk n nn gg C, cOr n nn gg f] := hF
  obtain ⟨l, hl, el⟩ := hA.2.2.2.2.2
  refine ar_aload_n 1 d_68_0 rfl rfl ?_
  refine ar_getf 4 d_68_1 rfl (ci := 2) (k := 5) rfl hN.mgc rfl ?_
  refine ar_aload_n 5 d_68_4 rfl rfl ?_
  refine ar_getf 8 d_68_5 rfl (ci := 10) (k := 4) rfl (hF.at 18 rfl) rfl ?_
  refine ar_icmp_lt 37 11 d_68_8 (by decide) rfl (fun cc1 => ?_) (fun cc1 => ?_)
  · have hS9 : NS Z n nd nn gg C me f q u b uv h0 h D K A Y := ⟨hF, hN, hf, hn, hs, hp0, hu0⟩
    have hI9 : NI Z nn D := hI
    exact ar_ret d_68_37 rfl (⟨rfl, _, _, _, _, hS9, hI9, bnN_eq (cl_eq hl el) (eq_ifT cc1 (rfl)), trivial⟩)
  · refine ar_aload_n 12 d_68_11 rfl rfl ?_
    refine ar_getf 15 d_68_12 rfl (ci := 2) (k := 5) rfl hN.mgc rfl ?_
    refine ar_aload_n 16 d_68_15 rfl rfl ?_
    refine ar_getf 19 d_68_16 rfl (ci := 10) (k := 4) rfl (hF.at 18 rfl) rfl ?_
    refine ar_icmp_ne 29 22 d_68_19 (by decide) rfl (fun cc2 => ?_) (fun cc2 => ?_)
    · refine ar_aload_n 30 d_68_29 rfl rfl ?_
      refine ar_getf 33 d_68_30 rfl (ci := 10) (k := 3) rfl (hF.at 18 rfl) rfl ?_
      refine ar_iconst 34 (v := 1) d_68_33 rfl (by decide) ?_
      refine ar_icmp_le 38 37 d_68_34 (by decide) rfl (fun cc3 => ?_) (fun cc3 => ?_)
      · refine ar_aload_n 39 d_68_38 rfl rfl ?_
        refine ar_iconst 40 (v := 1) d_68_39 rfl (by decide) ?_
        refine ar_putf 43 [.ref (nd + 10), .ref (nd + 19), .ref (nd + 21), .int 1, .int (D 18 4), .int (D 18 5), .int (D 18 6), .int (D 18 7), .int (D 18 8), .int (D 18 9), .int (D 18 10), .int (D 18 11), .int (D 18 12), .int (D 18 13), .int (D 18 14)] d_68_40 rfl (ci := 10) (k := 3) rfl rfl (hF.at 18 rfl) (Nat.le_of_ble_eq_true rfl) rfl rfl rfl ?_
        replace hF : ax_hs (ax_put h (nd + 18) (.inr (10, [.ref (nd + 10), .ref (nd + 19), .ref (nd + 21), .int 1, .int (D 18 4), .int (D 18 5), .int (D 18 6), .int (D 18 7), .int (D 18 8), .int (D 18 9), .int (D 18 10), .int (D 18 11), .int (D 18 12), .int (D 18 13), .int (D 18 14)]))) [cNd n nd me D, cDk nd D, cAr nd 2 35840 D, cAr nd 3 4096 D, cAr nd 4 32 D, cAr nd 5 280 D, cAr nd 6 280 D, cLd n nd me D A, cAr nd 8 16 D, cAr nd 9 280 D, cTb nd gg D K, cAr nd 11 48 D, cAr nd 12 48 D, cAr nd 13 48 D, cAr nd 14 2400 D, cAr nd 15 512 D, cAr nd 16 961 D, cAr nd 17 961 D, (nd + 18, .inr (10, [.ref (nd + 10), .ref (nd + 19), .ref (nd + 21), .int 1, .int (D 18 4), .int (D 18 5), .int (D 18 6), .int (D 18 7), .int (D 18 8), .int (D 18 9), .int (D 18 10), .int (D 18 11), .int (D 18 12), .int (D 18 13), .int (D 18 14)])), cWa nd D, cAr nd 20 612 D, cAr nd 21 1152 D, cRk n nn gg C, cOr n nn gg f] := hF.put 18 _ rfl rfl
        replace hf := hf.put (a := nd + 18) (c := .inr (10, [.ref (nd + 10), .ref (nd + 19), .ref (nd + 21), .int 1, .int (D 18 4), .int (D 18 5), .int (D 18 6), .int (D 18 7), .int (D 18 8), .int (D 18 9), .int (D 18 10), .int (D 18 11), .int (D 18 12), .int (D 18 13), .int (D 18 14)])) (Or.inr (by omega))
        replace hN := hN.put (a := nd + 18) (c := .inr (10, [.ref (nd + 10), .ref (nd + 19), .ref (nd + 21), .int 1, .int (D 18 4), .int (D 18 5), .int (D 18 6), .int (D 18 7), .int (D 18 8), .int (D 18 9), .int (D 18 10), .int (D 18 11), .int (D 18 12), .int (D 18 13), .int (D 18 14)])) (by omega)
        replace hn : (ax_put h (nd + 18) (.inr (10, [.ref (nd + 10), .ref (nd + 19), .ref (nd + 21), .int 1, .int (D 18 4), .int (D 18 5), .int (D 18 6), .int (D 18 7), .int (D 18 8), .int (D 18 9), .int (D 18 10), .int (D 18 11), .int (D 18 12), .int (D 18 13), .int (D 18 14)]))).1 = h0.1 := hn
        replace hs : (ax_put h (nd + 18) (.inr (10, [.ref (nd + 10), .ref (nd + 19), .ref (nd + 21), .int 1, .int (D 18 4), .int (D 18 5), .int (D 18 6), .int (D 18 7), .int (D 18 8), .int (D 18 9), .int (D 18 10), .int (D 18 11), .int (D 18 12), .int (D 18 13), .int (D 18 14)]))).2.1 = h0.2.1 := hs
        generalize ax_put h (nd + 18) (.inr (10, [.ref (nd + 10), .ref (nd + 19), .ref (nd + 21), .int 1, .int (D 18 4), .int (D 18 5), .int (D 18 6), .int (D 18 7), .int (D 18 8), .int (D 18 9), .int (D 18 10), .int (D 18 11), .int (D 18 12), .int (D 18 13), .int (D 18 14)])) = hp_4 at hF hf hN hn hs ⊢
        refine ar_aload_n 44 d_68_43 rfl rfl ?_
        refine ar_aload_n 45 d_68_44 rfl rfl ?_
        refine ar_getf 48 d_68_45 rfl (ci := 2) (k := 5) rfl hN.mgc rfl ?_
        refine ar_putf 51 [.ref (nd + 10), .ref (nd + 19), .ref (nd + 21), .int 1, .int (u 5), .int (D 18 5), .int (D 18 6), .int (D 18 7), .int (D 18 8), .int (D 18 9), .int (D 18 10), .int (D 18 11), .int (D 18 12), .int (D 18 13), .int (D 18 14)] d_68_48 rfl (ci := 10) (k := 4) rfl rfl (hF.at 18 rfl) (Nat.le_of_ble_eq_true rfl) rfl rfl rfl ?_
        replace hF : ax_hs (ax_put hp_4 (nd + 18) (.inr (10, [.ref (nd + 10), .ref (nd + 19), .ref (nd + 21), .int 1, .int (u 5), .int (D 18 5), .int (D 18 6), .int (D 18 7), .int (D 18 8), .int (D 18 9), .int (D 18 10), .int (D 18 11), .int (D 18 12), .int (D 18 13), .int (D 18 14)]))) [cNd n nd me D, cDk nd D, cAr nd 2 35840 D, cAr nd 3 4096 D, cAr nd 4 32 D, cAr nd 5 280 D, cAr nd 6 280 D, cLd n nd me D A, cAr nd 8 16 D, cAr nd 9 280 D, cTb nd gg D K, cAr nd 11 48 D, cAr nd 12 48 D, cAr nd 13 48 D, cAr nd 14 2400 D, cAr nd 15 512 D, cAr nd 16 961 D, cAr nd 17 961 D, (nd + 18, .inr (10, [.ref (nd + 10), .ref (nd + 19), .ref (nd + 21), .int 1, .int (u 5), .int (D 18 5), .int (D 18 6), .int (D 18 7), .int (D 18 8), .int (D 18 9), .int (D 18 10), .int (D 18 11), .int (D 18 12), .int (D 18 13), .int (D 18 14)])), cWa nd D, cAr nd 20 612 D, cAr nd 21 1152 D, cRk n nn gg C, cOr n nn gg f] := hF.put 18 _ rfl rfl
        replace hf := hf.put (a := nd + 18) (c := .inr (10, [.ref (nd + 10), .ref (nd + 19), .ref (nd + 21), .int 1, .int (u 5), .int (D 18 5), .int (D 18 6), .int (D 18 7), .int (D 18 8), .int (D 18 9), .int (D 18 10), .int (D 18 11), .int (D 18 12), .int (D 18 13), .int (D 18 14)])) (Or.inr (by omega))
        replace hN := hN.put (a := nd + 18) (c := .inr (10, [.ref (nd + 10), .ref (nd + 19), .ref (nd + 21), .int 1, .int (u 5), .int (D 18 5), .int (D 18 6), .int (D 18 7), .int (D 18 8), .int (D 18 9), .int (D 18 10), .int (D 18 11), .int (D 18 12), .int (D 18 13), .int (D 18 14)])) (by omega)
        replace hn : (ax_put hp_4 (nd + 18) (.inr (10, [.ref (nd + 10), .ref (nd + 19), .ref (nd + 21), .int 1, .int (u 5), .int (D 18 5), .int (D 18 6), .int (D 18 7), .int (D 18 8), .int (D 18 9), .int (D 18 10), .int (D 18 11), .int (D 18 12), .int (D 18 13), .int (D 18 14)]))).1 = h0.1 := hn
        replace hs : (ax_put hp_4 (nd + 18) (.inr (10, [.ref (nd + 10), .ref (nd + 19), .ref (nd + 21), .int 1, .int (u 5), .int (D 18 5), .int (D 18 6), .int (D 18 7), .int (D 18 8), .int (D 18 9), .int (D 18 10), .int (D 18 11), .int (D 18 12), .int (D 18 13), .int (D 18 14)]))).2.1 = h0.2.1 := hs
        generalize ax_put hp_4 (nd + 18) (.inr (10, [.ref (nd + 10), .ref (nd + 19), .ref (nd + 21), .int 1, .int (u 5), .int (D 18 5), .int (D 18 6), .int (D 18 7), .int (D 18 8), .int (D 18 9), .int (D 18 10), .int (D 18 11), .int (D 18 12), .int (D 18 13), .int (D 18 14)])) = hp_5 at hF hf hN hn hs ⊢
        refine ar_aload_n 52 d_68_51 rfl rfl ?_
        refine ar_aload_n 53 d_68_52 rfl rfl ?_
        refine ar_getf 56 d_68_53 rfl (ci := 2) (k := 6) rfl hN.mgc rfl ?_
        refine ar_putf 59 [.ref (nd + 10), .ref (nd + 19), .ref (nd + 21), .int 1, .int (u 5), .int (D 18 5), .int (u 6), .int (D 18 7), .int (D 18 8), .int (D 18 9), .int (D 18 10), .int (D 18 11), .int (D 18 12), .int (D 18 13), .int (D 18 14)] d_68_56 rfl (ci := 10) (k := 6) rfl rfl (hF.at 18 rfl) (Nat.le_of_ble_eq_true rfl) rfl rfl rfl ?_
        replace hF : ax_hs (ax_put hp_5 (nd + 18) (.inr (10, [.ref (nd + 10), .ref (nd + 19), .ref (nd + 21), .int 1, .int (u 5), .int (D 18 5), .int (u 6), .int (D 18 7), .int (D 18 8), .int (D 18 9), .int (D 18 10), .int (D 18 11), .int (D 18 12), .int (D 18 13), .int (D 18 14)]))) [cNd n nd me D, cDk nd D, cAr nd 2 35840 D, cAr nd 3 4096 D, cAr nd 4 32 D, cAr nd 5 280 D, cAr nd 6 280 D, cLd n nd me D A, cAr nd 8 16 D, cAr nd 9 280 D, cTb nd gg D K, cAr nd 11 48 D, cAr nd 12 48 D, cAr nd 13 48 D, cAr nd 14 2400 D, cAr nd 15 512 D, cAr nd 16 961 D, cAr nd 17 961 D, (nd + 18, .inr (10, [.ref (nd + 10), .ref (nd + 19), .ref (nd + 21), .int 1, .int (u 5), .int (D 18 5), .int (u 6), .int (D 18 7), .int (D 18 8), .int (D 18 9), .int (D 18 10), .int (D 18 11), .int (D 18 12), .int (D 18 13), .int (D 18 14)])), cWa nd D, cAr nd 20 612 D, cAr nd 21 1152 D, cRk n nn gg C, cOr n nn gg f] := hF.put 18 _ rfl rfl
        replace hf := hf.put (a := nd + 18) (c := .inr (10, [.ref (nd + 10), .ref (nd + 19), .ref (nd + 21), .int 1, .int (u 5), .int (D 18 5), .int (u 6), .int (D 18 7), .int (D 18 8), .int (D 18 9), .int (D 18 10), .int (D 18 11), .int (D 18 12), .int (D 18 13), .int (D 18 14)])) (Or.inr (by omega))
        replace hN := hN.put (a := nd + 18) (c := .inr (10, [.ref (nd + 10), .ref (nd + 19), .ref (nd + 21), .int 1, .int (u 5), .int (D 18 5), .int (u 6), .int (D 18 7), .int (D 18 8), .int (D 18 9), .int (D 18 10), .int (D 18 11), .int (D 18 12), .int (D 18 13), .int (D 18 14)])) (by omega)
        replace hn : (ax_put hp_5 (nd + 18) (.inr (10, [.ref (nd + 10), .ref (nd + 19), .ref (nd + 21), .int 1, .int (u 5), .int (D 18 5), .int (u 6), .int (D 18 7), .int (D 18 8), .int (D 18 9), .int (D 18 10), .int (D 18 11), .int (D 18 12), .int (D 18 13), .int (D 18 14)]))).1 = h0.1 := hn
        replace hs : (ax_put hp_5 (nd + 18) (.inr (10, [.ref (nd + 10), .ref (nd + 19), .ref (nd + 21), .int 1, .int (u 5), .int (D 18 5), .int (u 6), .int (D 18 7), .int (D 18 8), .int (D 18 9), .int (D 18 10), .int (D 18 11), .int (D 18 12), .int (D 18 13), .int (D 18 14)]))).2.1 = h0.2.1 := hs
        generalize ax_put hp_5 (nd + 18) (.inr (10, [.ref (nd + 10), .ref (nd + 19), .ref (nd + 21), .int 1, .int (u 5), .int (D 18 5), .int (u 6), .int (D 18 7), .int (D 18 8), .int (D 18 9), .int (D 18 10), .int (D 18 11), .int (D 18 12), .int (D 18 13), .int (D 18 14)])) = hp_6 at hF hf hN hn hs ⊢
        refine ar_aload_n 60 d_68_59 rfl rfl ?_
        refine ar_getf 63 d_68_60 rfl (ci := 10) (k := 1) rfl (hF.at 18 rfl) rfl ?_
        refine ar_aload_n 64 d_68_63 rfl rfl ?_
        replace hF : ax_hs hp_6 [(n + 1 + 1 + 2 * q, .inr (2, [.int (u 0), .int (u 1), .int (u 2), .int (u 3), .int (u 4), .int (u 5), .int (u 6), .int (u 7), .ref (n + 1 + 1 + 2 * q + 1)])), (n + 1 + 1 + 2 * q + 1, .inl (0, 617, .inl b)), cNd n nd me D, cDk nd D, cAr nd 2 35840 D, cAr nd 3 4096 D, cAr nd 4 32 D, cAr nd 5 280 D, cAr nd 6 280 D, cLd n nd me D A, cAr nd 8 16 D, cAr nd 9 280 D, cTb nd gg D K, cAr nd 11 48 D, cAr nd 12 48 D, cAr nd 13 48 D, cAr nd 14 2400 D, cAr nd 15 512 D, cAr nd 16 961 D, cAr nd 17 961 D, (nd + 18, .inr (10, [.ref (nd + 10), .ref (nd + 19), .ref (nd + 21), .int 1, .int (u 5), .int (D 18 5), .int (u 6), .int (D 18 7), .int (D 18 8), .int (D 18 9), .int (D 18 10), .int (D 18 11), .int (D 18 12), .int (D 18 13), .int (D 18 14)])), cWa nd D, cAr nd 20 612 D, cAr nd 21 1152 D, cRk n nn gg C, cOr n nn gg f] := hF.msg (far (n := n) (nd := nd) rfl hnd) hN.lq ⟨hN.mgc, hN.mbc⟩
        rw [el] at hF
        refine ar_call (r := []) (na := 0) (kd := 0) (cm := 69) (fr2 := fr - 1) (lo2 := lo - 21) 67 d_68_64 (ar_hoV (as := [.ref (n + 1 + 1 + 2 * q)]) rfl rfl rfl (hF.at 21 rfl)) rfl (by omega) (show lo - 21 + (19 + 2) = lo by omega) (Nat.le_of_ble_eq_true rfl) (Nat.le_of_ble_eq_true rfl) (c_69 (by omega) (by omega) (l := l) (by omega) (hF.sub (F' := [cWa nd D, cAr nd 20 612 D, (n + 1 + 1 + 2 * q, .inr (2, [.int (u 0), .int (u 1), .int (u 2), .int (u 3), .int (u 4), .int (u 5), .int (u 6), .int (nI l), .ref (n + 1 + 1 + 2 * q + 1)])), (n + 1 + 1 + 2 * q + 1, .inl (0, 617, .inl b))]) [21, 22, 0, 1] rfl rfl) rfl rfl (by omega)) ?_
        intro v hp_7 hq
        obtain ⟨rfl, qF, qn, qs, qf⟩ := hq
        have qF : ax_hs hp_7 [(nd + 19, .inr (5, [.int (b 0), .int (b 1), .int (b 2), .int (b 3), .int (b 4), .int (nI l), .int (D 19 6), .ref (nd + 20)])), (nd + 20, .inl (0, 612, .inl (va_cpy b (D 20) 5 0 (100 + (l + 3) / 4)))), (n + 1 + 1 + 2 * q, .inr (2, [.int (u 0), .int (u 1), .int (u 2), .int (u 3), .int (u 4), .int (u 5), .int (u 6), .int (nI l), .ref (n + 1 + 1 + 2 * q + 1)])), (n + 1 + 1 + 2 * q + 1, .inl (0, 617, .inl b))] := qF
        replace hF : ax_hs hp_7 [cNd n nd me D, cDk nd D, cAr nd 2 35840 D, cAr nd 3 4096 D, cAr nd 4 32 D, cAr nd 5 280 D, cAr nd 6 280 D, cLd n nd me D A, cAr nd 8 16 D, cAr nd 9 280 D, cTb nd gg D K, cAr nd 11 48 D, cAr nd 12 48 D, cAr nd 13 48 D, cAr nd 14 2400 D, cAr nd 15 512 D, cAr nd 16 961 D, cAr nd 17 961 D, (nd + 18, .inr (10, [.ref (nd + 10), .ref (nd + 19), .ref (nd + 21), .int 1, .int (u 5), .int (D 18 5), .int (u 6), .int (D 18 7), .int (D 18 8), .int (D 18 9), .int (D 18 10), .int (D 18 11), .int (D 18 12), .int (D 18 13), .int (D 18 14)])), cAr nd 21 1152 D, cRk n nn gg C, cOr n nn gg f, (nd + 19, .inr (5, [.int (b 0), .int (b 1), .int (b 2), .int (b 3), .int (b 4), .int (nI l), .int (D 19 6), .ref (nd + 20)])), (nd + 20, .inl (0, 612, .inl (va_cpy b (D 20) 5 0 (100 + (l + 3) / 4)))), (n + 1 + 1 + 2 * q, .inr (2, [.int (u 0), .int (u 1), .int (u 2), .int (u 3), .int (u 4), .int (u 5), .int (u 6), .int (nI l), .ref (n + 1 + 1 + 2 * q + 1)])), (n + 1 + 1 + 2 * q + 1, .inl (0, 617, .inl b))] := ax_hs.call (rest := [cNd n nd me D, cDk nd D, cAr nd 2 35840 D, cAr nd 3 4096 D, cAr nd 4 32 D, cAr nd 5 280 D, cAr nd 6 280 D, cLd n nd me D A, cAr nd 8 16 D, cAr nd 9 280 D, cTb nd gg D K, cAr nd 11 48 D, cAr nd 12 48 D, cAr nd 13 48 D, cAr nd 14 2400 D, cAr nd 15 512 D, cAr nd 16 961 D, cAr nd 17 961 D, (nd + 18, .inr (10, [.ref (nd + 10), .ref (nd + 19), .ref (nd + 21), .int 1, .int (u 5), .int (D 18 5), .int (u 6), .int (D 18 7), .int (D 18 8), .int (D 18 9), .int (D 18 10), .int (D 18 11), .int (D 18 12), .int (D 18 13), .int (D 18 14)])), cAr nd 21 1152 D, cRk n nn gg C, cOr n nn gg f]) [21, 22, 0, 1] [2, 3, 4, 5, 6, 7, 8, 9, 10, 11, 12, 13, 14, 15, 16, 17, 18, 19, 20, 23, 24, 25] hF qf qF rfl rfl rfl [21, 22] rfl rfl [21, 22, 0, 1] (news := []) rfl rfl (fun _ z => absurd z List.not_mem_nil) rfl
        replace hF := hF.sub (F' := [(n + 1 + 1 + 2 * q, .inr (2, [.int (u 0), .int (u 1), .int (u 2), .int (u 3), .int (u 4), .int (u 5), .int (u 6), .int (nI l), .ref (n + 1 + 1 + 2 * q + 1)])), (n + 1 + 1 + 2 * q + 1, .inl (0, 617, .inl b)), cNd n nd me D, cDk nd D, cAr nd 2 35840 D, cAr nd 3 4096 D, cAr nd 4 32 D, cAr nd 5 280 D, cAr nd 6 280 D, cLd n nd me D A, cAr nd 8 16 D, cAr nd 9 280 D, cTb nd gg D K, cAr nd 11 48 D, cAr nd 12 48 D, cAr nd 13 48 D, cAr nd 14 2400 D, cAr nd 15 512 D, cAr nd 16 961 D, cAr nd 17 961 D, (nd + 18, .inr (10, [.ref (nd + 10), .ref (nd + 19), .ref (nd + 21), .int 1, .int (u 5), .int (D 18 5), .int (u 6), .int (D 18 7), .int (D 18 8), .int (D 18 9), .int (D 18 10), .int (D 18 11), .int (D 18 12), .int (D 18 13), .int (D 18 14)])), (nd + 19, .inr (5, [.int (b 0), .int (b 1), .int (b 2), .int (b 3), .int (b 4), .int (nI l), .int (D 19 6), .ref (nd + 20)])), (nd + 20, .inl (0, 612, .inl (va_cpy b (D 20) 5 0 (100 + (l + 3) / 4)))), cAr nd 21 1152 D, cRk n nn gg C, cOr n nn gg f]) [24, 25, 0, 1, 2, 3, 4, 5, 6, 7, 8, 9, 10, 11, 12, 13, 14, 15, 16, 17, 18, 22, 23, 19, 20, 21] rfl rfl
        replace hN := hN.fr qf (fun x hx z => by simp only [List.mem_cons, List.not_mem_nil, or_false] at z; unfold NTA at hx; omega)
        replace hf := hf.trC qf (fun x _ z => Or.inr (by simp only [List.mem_cons, List.not_mem_nil, or_false] at z; omega))
        replace hn : hp_7.1 = h0.1 := by omega
        replace hs : hp_7.2.1 = h0.2.1 := by omega
        clear qF qn qs qf
        replace hF := hF.sub (F' := [cNd n nd me D, cDk nd D, cAr nd 2 35840 D, cAr nd 3 4096 D, cAr nd 4 32 D, cAr nd 5 280 D, cAr nd 6 280 D, cLd n nd me D A, cAr nd 8 16 D, cAr nd 9 280 D, cTb nd gg D K, cAr nd 11 48 D, cAr nd 12 48 D, cAr nd 13 48 D, cAr nd 14 2400 D, cAr nd 15 512 D, cAr nd 16 961 D, cAr nd 17 961 D, (nd + 18, .inr (10, [.ref (nd + 10), .ref (nd + 19), .ref (nd + 21), .int 1, .int (u 5), .int (D 18 5), .int (u 6), .int (D 18 7), .int (D 18 8), .int (D 18 9), .int (D 18 10), .int (D 18 11), .int (D 18 12), .int (D 18 13), .int (D 18 14)])), (nd + 19, .inr (5, [.int (b 0), .int (b 1), .int (b 2), .int (b 3), .int (b 4), .int (nI l), .int (D 19 6), .ref (nd + 20)])), (nd + 20, .inl (0, 612, .inl (va_cpy b (D 20) 5 0 (100 + (l + 3) / 4)))), cAr nd 21 1152 D, cRk n nn gg C, cOr n nn gg f]) [2, 3, 4, 5, 6, 7, 8, 9, 10, 11, 12, 13, 14, 15, 16, 17, 18, 19, 20, 21, 22, 23, 24, 25] rfl rfl
        have hS9 : NS Z n nd nn gg C me f q u b uv h0 hp_7 (va_up (va_up (va_up D 18 (upd (upd (upd (D 18) 3 1) 4 (u 5)) 6 (u 6))) 19 (upd (upd (upd (upd (upd (upd (D 19) 0 (b 0)) 1 (b 1)) 2 (b 2)) 3 (b 3)) 4 (b 4)) 5 (nI l))) 20 (va_cpy b (D 20) 5 0 (100 + (l + 3) / 4))) K A Y := ⟨hF, hN, hf, hn, hs, hp0, hu0⟩
        have hI9 : NI Z nn (va_up (va_up (va_up D 18 (upd (upd (upd (D 18) 3 1) 4 (u 5)) 6 (u 6))) 19 (upd (upd (upd (upd (upd (upd (D 19) 0 (b 0)) 1 (b 1)) 2 (b 2)) 3 (b 3)) 4 (b 4)) 5 (nI l))) 20 (va_cpy b (D 20) 5 0 (100 + (l + 3) / 4))) := ⟨hI.1, hI.2.1, WI.wait rfl (by have e := hA; rw [el] at e; exact e) hI.2.2.1.2.2.1 ho hI.2.2.1.2.2.2.2.2.2.2, hI.2.2.2⟩
        exact ar_ret d_68_67 rfl (⟨rfl, _, _, _, _, hS9, hI9, bnN_eq (cl_eq hl el) (eq_ifF cc1 (eq_ifT cc2 (eq_ifT cc3 (rfl)))), trivial⟩)
      · have hS9 : NS Z n nd nn gg C me f q u b uv h0 h D K A Y := ⟨hF, hN, hf, hn, hs, hp0, hu0⟩
        have hI9 : NI Z nn D := hI
        exact ar_ret d_68_37 rfl (⟨rfl, _, _, _, _, hS9, hI9, bnN_eq (cl_eq hl el) (eq_ifF cc1 (eq_ifT cc2 (eq_ifF cc3 (rfl)))), trivial⟩)
    · refine ar_aload_n 23 d_68_22 rfl rfl ?_
      refine ar_getf 26 d_68_23 rfl (ci := 10) (k := 3) rfl (hF.at 18 rfl) rfl ?_
      refine ar_if_ne 37 29 d_68_26 (by decide) rfl (fun cc8 => ?_) (fun cc8 => ?_)
      · have hS9 : NS Z n nd nn gg C me f q u b uv h0 h D K A Y := ⟨hF, hN, hf, hn, hs, hp0, hu0⟩
        have hI9 : NI Z nn D := hI
        exact ar_ret d_68_37 rfl (⟨rfl, _, _, _, _, hS9, hI9, bnN_eq (cl_eq hl el) (eq_ifF cc1 (eq_ifF cc2 (eq_ifT cc8 (rfl)))), trivial⟩)
      · refine ar_aload_n 30 d_68_29 rfl rfl ?_
        refine ar_getf 33 d_68_30 rfl (ci := 10) (k := 3) rfl (hF.at 18 rfl) rfl ?_
        refine ar_iconst 34 (v := 1) d_68_33 rfl (by decide) ?_
        refine ar_icmp_le 38 37 d_68_34 (by decide) rfl (fun cc9 => ?_) (fun cc9 => ?_)
        · refine ar_aload_n 39 d_68_38 rfl rfl ?_
          refine ar_iconst 40 (v := 1) d_68_39 rfl (by decide) ?_
          refine ar_putf 43 [.ref (nd + 10), .ref (nd + 19), .ref (nd + 21), .int 1, .int (D 18 4), .int (D 18 5), .int (D 18 6), .int (D 18 7), .int (D 18 8), .int (D 18 9), .int (D 18 10), .int (D 18 11), .int (D 18 12), .int (D 18 13), .int (D 18 14)] d_68_40 rfl (ci := 10) (k := 3) rfl rfl (hF.at 18 rfl) (Nat.le_of_ble_eq_true rfl) rfl rfl rfl ?_
          replace hF : ax_hs (ax_put h (nd + 18) (.inr (10, [.ref (nd + 10), .ref (nd + 19), .ref (nd + 21), .int 1, .int (D 18 4), .int (D 18 5), .int (D 18 6), .int (D 18 7), .int (D 18 8), .int (D 18 9), .int (D 18 10), .int (D 18 11), .int (D 18 12), .int (D 18 13), .int (D 18 14)]))) [cNd n nd me D, cDk nd D, cAr nd 2 35840 D, cAr nd 3 4096 D, cAr nd 4 32 D, cAr nd 5 280 D, cAr nd 6 280 D, cLd n nd me D A, cAr nd 8 16 D, cAr nd 9 280 D, cTb nd gg D K, cAr nd 11 48 D, cAr nd 12 48 D, cAr nd 13 48 D, cAr nd 14 2400 D, cAr nd 15 512 D, cAr nd 16 961 D, cAr nd 17 961 D, (nd + 18, .inr (10, [.ref (nd + 10), .ref (nd + 19), .ref (nd + 21), .int 1, .int (D 18 4), .int (D 18 5), .int (D 18 6), .int (D 18 7), .int (D 18 8), .int (D 18 9), .int (D 18 10), .int (D 18 11), .int (D 18 12), .int (D 18 13), .int (D 18 14)])), cWa nd D, cAr nd 20 612 D, cAr nd 21 1152 D, cRk n nn gg C, cOr n nn gg f] := hF.put 18 _ rfl rfl
          replace hf := hf.put (a := nd + 18) (c := .inr (10, [.ref (nd + 10), .ref (nd + 19), .ref (nd + 21), .int 1, .int (D 18 4), .int (D 18 5), .int (D 18 6), .int (D 18 7), .int (D 18 8), .int (D 18 9), .int (D 18 10), .int (D 18 11), .int (D 18 12), .int (D 18 13), .int (D 18 14)])) (Or.inr (by omega))
          replace hN := hN.put (a := nd + 18) (c := .inr (10, [.ref (nd + 10), .ref (nd + 19), .ref (nd + 21), .int 1, .int (D 18 4), .int (D 18 5), .int (D 18 6), .int (D 18 7), .int (D 18 8), .int (D 18 9), .int (D 18 10), .int (D 18 11), .int (D 18 12), .int (D 18 13), .int (D 18 14)])) (by omega)
          replace hn : (ax_put h (nd + 18) (.inr (10, [.ref (nd + 10), .ref (nd + 19), .ref (nd + 21), .int 1, .int (D 18 4), .int (D 18 5), .int (D 18 6), .int (D 18 7), .int (D 18 8), .int (D 18 9), .int (D 18 10), .int (D 18 11), .int (D 18 12), .int (D 18 13), .int (D 18 14)]))).1 = h0.1 := hn
          replace hs : (ax_put h (nd + 18) (.inr (10, [.ref (nd + 10), .ref (nd + 19), .ref (nd + 21), .int 1, .int (D 18 4), .int (D 18 5), .int (D 18 6), .int (D 18 7), .int (D 18 8), .int (D 18 9), .int (D 18 10), .int (D 18 11), .int (D 18 12), .int (D 18 13), .int (D 18 14)]))).2.1 = h0.2.1 := hs
          generalize ax_put h (nd + 18) (.inr (10, [.ref (nd + 10), .ref (nd + 19), .ref (nd + 21), .int 1, .int (D 18 4), .int (D 18 5), .int (D 18 6), .int (D 18 7), .int (D 18 8), .int (D 18 9), .int (D 18 10), .int (D 18 11), .int (D 18 12), .int (D 18 13), .int (D 18 14)])) = hp_10 at hF hf hN hn hs ⊢
          refine ar_aload_n 44 d_68_43 rfl rfl ?_
          refine ar_aload_n 45 d_68_44 rfl rfl ?_
          refine ar_getf 48 d_68_45 rfl (ci := 2) (k := 5) rfl hN.mgc rfl ?_
          refine ar_putf 51 [.ref (nd + 10), .ref (nd + 19), .ref (nd + 21), .int 1, .int (u 5), .int (D 18 5), .int (D 18 6), .int (D 18 7), .int (D 18 8), .int (D 18 9), .int (D 18 10), .int (D 18 11), .int (D 18 12), .int (D 18 13), .int (D 18 14)] d_68_48 rfl (ci := 10) (k := 4) rfl rfl (hF.at 18 rfl) (Nat.le_of_ble_eq_true rfl) rfl rfl rfl ?_
          replace hF : ax_hs (ax_put hp_10 (nd + 18) (.inr (10, [.ref (nd + 10), .ref (nd + 19), .ref (nd + 21), .int 1, .int (u 5), .int (D 18 5), .int (D 18 6), .int (D 18 7), .int (D 18 8), .int (D 18 9), .int (D 18 10), .int (D 18 11), .int (D 18 12), .int (D 18 13), .int (D 18 14)]))) [cNd n nd me D, cDk nd D, cAr nd 2 35840 D, cAr nd 3 4096 D, cAr nd 4 32 D, cAr nd 5 280 D, cAr nd 6 280 D, cLd n nd me D A, cAr nd 8 16 D, cAr nd 9 280 D, cTb nd gg D K, cAr nd 11 48 D, cAr nd 12 48 D, cAr nd 13 48 D, cAr nd 14 2400 D, cAr nd 15 512 D, cAr nd 16 961 D, cAr nd 17 961 D, (nd + 18, .inr (10, [.ref (nd + 10), .ref (nd + 19), .ref (nd + 21), .int 1, .int (u 5), .int (D 18 5), .int (D 18 6), .int (D 18 7), .int (D 18 8), .int (D 18 9), .int (D 18 10), .int (D 18 11), .int (D 18 12), .int (D 18 13), .int (D 18 14)])), cWa nd D, cAr nd 20 612 D, cAr nd 21 1152 D, cRk n nn gg C, cOr n nn gg f] := hF.put 18 _ rfl rfl
          replace hf := hf.put (a := nd + 18) (c := .inr (10, [.ref (nd + 10), .ref (nd + 19), .ref (nd + 21), .int 1, .int (u 5), .int (D 18 5), .int (D 18 6), .int (D 18 7), .int (D 18 8), .int (D 18 9), .int (D 18 10), .int (D 18 11), .int (D 18 12), .int (D 18 13), .int (D 18 14)])) (Or.inr (by omega))
          replace hN := hN.put (a := nd + 18) (c := .inr (10, [.ref (nd + 10), .ref (nd + 19), .ref (nd + 21), .int 1, .int (u 5), .int (D 18 5), .int (D 18 6), .int (D 18 7), .int (D 18 8), .int (D 18 9), .int (D 18 10), .int (D 18 11), .int (D 18 12), .int (D 18 13), .int (D 18 14)])) (by omega)
          replace hn : (ax_put hp_10 (nd + 18) (.inr (10, [.ref (nd + 10), .ref (nd + 19), .ref (nd + 21), .int 1, .int (u 5), .int (D 18 5), .int (D 18 6), .int (D 18 7), .int (D 18 8), .int (D 18 9), .int (D 18 10), .int (D 18 11), .int (D 18 12), .int (D 18 13), .int (D 18 14)]))).1 = h0.1 := hn
          replace hs : (ax_put hp_10 (nd + 18) (.inr (10, [.ref (nd + 10), .ref (nd + 19), .ref (nd + 21), .int 1, .int (u 5), .int (D 18 5), .int (D 18 6), .int (D 18 7), .int (D 18 8), .int (D 18 9), .int (D 18 10), .int (D 18 11), .int (D 18 12), .int (D 18 13), .int (D 18 14)]))).2.1 = h0.2.1 := hs
          generalize ax_put hp_10 (nd + 18) (.inr (10, [.ref (nd + 10), .ref (nd + 19), .ref (nd + 21), .int 1, .int (u 5), .int (D 18 5), .int (D 18 6), .int (D 18 7), .int (D 18 8), .int (D 18 9), .int (D 18 10), .int (D 18 11), .int (D 18 12), .int (D 18 13), .int (D 18 14)])) = hp_11 at hF hf hN hn hs ⊢
          refine ar_aload_n 52 d_68_51 rfl rfl ?_
          refine ar_aload_n 53 d_68_52 rfl rfl ?_
          refine ar_getf 56 d_68_53 rfl (ci := 2) (k := 6) rfl hN.mgc rfl ?_
          refine ar_putf 59 [.ref (nd + 10), .ref (nd + 19), .ref (nd + 21), .int 1, .int (u 5), .int (D 18 5), .int (u 6), .int (D 18 7), .int (D 18 8), .int (D 18 9), .int (D 18 10), .int (D 18 11), .int (D 18 12), .int (D 18 13), .int (D 18 14)] d_68_56 rfl (ci := 10) (k := 6) rfl rfl (hF.at 18 rfl) (Nat.le_of_ble_eq_true rfl) rfl rfl rfl ?_
          replace hF : ax_hs (ax_put hp_11 (nd + 18) (.inr (10, [.ref (nd + 10), .ref (nd + 19), .ref (nd + 21), .int 1, .int (u 5), .int (D 18 5), .int (u 6), .int (D 18 7), .int (D 18 8), .int (D 18 9), .int (D 18 10), .int (D 18 11), .int (D 18 12), .int (D 18 13), .int (D 18 14)]))) [cNd n nd me D, cDk nd D, cAr nd 2 35840 D, cAr nd 3 4096 D, cAr nd 4 32 D, cAr nd 5 280 D, cAr nd 6 280 D, cLd n nd me D A, cAr nd 8 16 D, cAr nd 9 280 D, cTb nd gg D K, cAr nd 11 48 D, cAr nd 12 48 D, cAr nd 13 48 D, cAr nd 14 2400 D, cAr nd 15 512 D, cAr nd 16 961 D, cAr nd 17 961 D, (nd + 18, .inr (10, [.ref (nd + 10), .ref (nd + 19), .ref (nd + 21), .int 1, .int (u 5), .int (D 18 5), .int (u 6), .int (D 18 7), .int (D 18 8), .int (D 18 9), .int (D 18 10), .int (D 18 11), .int (D 18 12), .int (D 18 13), .int (D 18 14)])), cWa nd D, cAr nd 20 612 D, cAr nd 21 1152 D, cRk n nn gg C, cOr n nn gg f] := hF.put 18 _ rfl rfl
          replace hf := hf.put (a := nd + 18) (c := .inr (10, [.ref (nd + 10), .ref (nd + 19), .ref (nd + 21), .int 1, .int (u 5), .int (D 18 5), .int (u 6), .int (D 18 7), .int (D 18 8), .int (D 18 9), .int (D 18 10), .int (D 18 11), .int (D 18 12), .int (D 18 13), .int (D 18 14)])) (Or.inr (by omega))
          replace hN := hN.put (a := nd + 18) (c := .inr (10, [.ref (nd + 10), .ref (nd + 19), .ref (nd + 21), .int 1, .int (u 5), .int (D 18 5), .int (u 6), .int (D 18 7), .int (D 18 8), .int (D 18 9), .int (D 18 10), .int (D 18 11), .int (D 18 12), .int (D 18 13), .int (D 18 14)])) (by omega)
          replace hn : (ax_put hp_11 (nd + 18) (.inr (10, [.ref (nd + 10), .ref (nd + 19), .ref (nd + 21), .int 1, .int (u 5), .int (D 18 5), .int (u 6), .int (D 18 7), .int (D 18 8), .int (D 18 9), .int (D 18 10), .int (D 18 11), .int (D 18 12), .int (D 18 13), .int (D 18 14)]))).1 = h0.1 := hn
          replace hs : (ax_put hp_11 (nd + 18) (.inr (10, [.ref (nd + 10), .ref (nd + 19), .ref (nd + 21), .int 1, .int (u 5), .int (D 18 5), .int (u 6), .int (D 18 7), .int (D 18 8), .int (D 18 9), .int (D 18 10), .int (D 18 11), .int (D 18 12), .int (D 18 13), .int (D 18 14)]))).2.1 = h0.2.1 := hs
          generalize ax_put hp_11 (nd + 18) (.inr (10, [.ref (nd + 10), .ref (nd + 19), .ref (nd + 21), .int 1, .int (u 5), .int (D 18 5), .int (u 6), .int (D 18 7), .int (D 18 8), .int (D 18 9), .int (D 18 10), .int (D 18 11), .int (D 18 12), .int (D 18 13), .int (D 18 14)])) = hp_12 at hF hf hN hn hs ⊢
          refine ar_aload_n 60 d_68_59 rfl rfl ?_
          refine ar_getf 63 d_68_60 rfl (ci := 10) (k := 1) rfl (hF.at 18 rfl) rfl ?_
          refine ar_aload_n 64 d_68_63 rfl rfl ?_
          replace hF : ax_hs hp_12 [(n + 1 + 1 + 2 * q, .inr (2, [.int (u 0), .int (u 1), .int (u 2), .int (u 3), .int (u 4), .int (u 5), .int (u 6), .int (u 7), .ref (n + 1 + 1 + 2 * q + 1)])), (n + 1 + 1 + 2 * q + 1, .inl (0, 617, .inl b)), cNd n nd me D, cDk nd D, cAr nd 2 35840 D, cAr nd 3 4096 D, cAr nd 4 32 D, cAr nd 5 280 D, cAr nd 6 280 D, cLd n nd me D A, cAr nd 8 16 D, cAr nd 9 280 D, cTb nd gg D K, cAr nd 11 48 D, cAr nd 12 48 D, cAr nd 13 48 D, cAr nd 14 2400 D, cAr nd 15 512 D, cAr nd 16 961 D, cAr nd 17 961 D, (nd + 18, .inr (10, [.ref (nd + 10), .ref (nd + 19), .ref (nd + 21), .int 1, .int (u 5), .int (D 18 5), .int (u 6), .int (D 18 7), .int (D 18 8), .int (D 18 9), .int (D 18 10), .int (D 18 11), .int (D 18 12), .int (D 18 13), .int (D 18 14)])), cWa nd D, cAr nd 20 612 D, cAr nd 21 1152 D, cRk n nn gg C, cOr n nn gg f] := hF.msg (far (n := n) (nd := nd) rfl hnd) hN.lq ⟨hN.mgc, hN.mbc⟩
          rw [el] at hF
          refine ar_call (r := []) (na := 0) (kd := 0) (cm := 69) (fr2 := fr - 1) (lo2 := lo - 21) 67 d_68_64 (ar_hoV (as := [.ref (n + 1 + 1 + 2 * q)]) rfl rfl rfl (hF.at 21 rfl)) rfl (by omega) (show lo - 21 + (19 + 2) = lo by omega) (Nat.le_of_ble_eq_true rfl) (Nat.le_of_ble_eq_true rfl) (c_69 (by omega) (by omega) (l := l) (by omega) (hF.sub (F' := [cWa nd D, cAr nd 20 612 D, (n + 1 + 1 + 2 * q, .inr (2, [.int (u 0), .int (u 1), .int (u 2), .int (u 3), .int (u 4), .int (u 5), .int (u 6), .int (nI l), .ref (n + 1 + 1 + 2 * q + 1)])), (n + 1 + 1 + 2 * q + 1, .inl (0, 617, .inl b))]) [21, 22, 0, 1] rfl rfl) rfl rfl (by omega)) ?_
          intro v hp_13 hq
          obtain ⟨rfl, qF, qn, qs, qf⟩ := hq
          have qF : ax_hs hp_13 [(nd + 19, .inr (5, [.int (b 0), .int (b 1), .int (b 2), .int (b 3), .int (b 4), .int (nI l), .int (D 19 6), .ref (nd + 20)])), (nd + 20, .inl (0, 612, .inl (va_cpy b (D 20) 5 0 (100 + (l + 3) / 4)))), (n + 1 + 1 + 2 * q, .inr (2, [.int (u 0), .int (u 1), .int (u 2), .int (u 3), .int (u 4), .int (u 5), .int (u 6), .int (nI l), .ref (n + 1 + 1 + 2 * q + 1)])), (n + 1 + 1 + 2 * q + 1, .inl (0, 617, .inl b))] := qF
          replace hF : ax_hs hp_13 [cNd n nd me D, cDk nd D, cAr nd 2 35840 D, cAr nd 3 4096 D, cAr nd 4 32 D, cAr nd 5 280 D, cAr nd 6 280 D, cLd n nd me D A, cAr nd 8 16 D, cAr nd 9 280 D, cTb nd gg D K, cAr nd 11 48 D, cAr nd 12 48 D, cAr nd 13 48 D, cAr nd 14 2400 D, cAr nd 15 512 D, cAr nd 16 961 D, cAr nd 17 961 D, (nd + 18, .inr (10, [.ref (nd + 10), .ref (nd + 19), .ref (nd + 21), .int 1, .int (u 5), .int (D 18 5), .int (u 6), .int (D 18 7), .int (D 18 8), .int (D 18 9), .int (D 18 10), .int (D 18 11), .int (D 18 12), .int (D 18 13), .int (D 18 14)])), cAr nd 21 1152 D, cRk n nn gg C, cOr n nn gg f, (nd + 19, .inr (5, [.int (b 0), .int (b 1), .int (b 2), .int (b 3), .int (b 4), .int (nI l), .int (D 19 6), .ref (nd + 20)])), (nd + 20, .inl (0, 612, .inl (va_cpy b (D 20) 5 0 (100 + (l + 3) / 4)))), (n + 1 + 1 + 2 * q, .inr (2, [.int (u 0), .int (u 1), .int (u 2), .int (u 3), .int (u 4), .int (u 5), .int (u 6), .int (nI l), .ref (n + 1 + 1 + 2 * q + 1)])), (n + 1 + 1 + 2 * q + 1, .inl (0, 617, .inl b))] := ax_hs.call (rest := [cNd n nd me D, cDk nd D, cAr nd 2 35840 D, cAr nd 3 4096 D, cAr nd 4 32 D, cAr nd 5 280 D, cAr nd 6 280 D, cLd n nd me D A, cAr nd 8 16 D, cAr nd 9 280 D, cTb nd gg D K, cAr nd 11 48 D, cAr nd 12 48 D, cAr nd 13 48 D, cAr nd 14 2400 D, cAr nd 15 512 D, cAr nd 16 961 D, cAr nd 17 961 D, (nd + 18, .inr (10, [.ref (nd + 10), .ref (nd + 19), .ref (nd + 21), .int 1, .int (u 5), .int (D 18 5), .int (u 6), .int (D 18 7), .int (D 18 8), .int (D 18 9), .int (D 18 10), .int (D 18 11), .int (D 18 12), .int (D 18 13), .int (D 18 14)])), cAr nd 21 1152 D, cRk n nn gg C, cOr n nn gg f]) [21, 22, 0, 1] [2, 3, 4, 5, 6, 7, 8, 9, 10, 11, 12, 13, 14, 15, 16, 17, 18, 19, 20, 23, 24, 25] hF qf qF rfl rfl rfl [21, 22] rfl rfl [21, 22, 0, 1] (news := []) rfl rfl (fun _ z => absurd z List.not_mem_nil) rfl
          replace hF := hF.sub (F' := [(n + 1 + 1 + 2 * q, .inr (2, [.int (u 0), .int (u 1), .int (u 2), .int (u 3), .int (u 4), .int (u 5), .int (u 6), .int (nI l), .ref (n + 1 + 1 + 2 * q + 1)])), (n + 1 + 1 + 2 * q + 1, .inl (0, 617, .inl b)), cNd n nd me D, cDk nd D, cAr nd 2 35840 D, cAr nd 3 4096 D, cAr nd 4 32 D, cAr nd 5 280 D, cAr nd 6 280 D, cLd n nd me D A, cAr nd 8 16 D, cAr nd 9 280 D, cTb nd gg D K, cAr nd 11 48 D, cAr nd 12 48 D, cAr nd 13 48 D, cAr nd 14 2400 D, cAr nd 15 512 D, cAr nd 16 961 D, cAr nd 17 961 D, (nd + 18, .inr (10, [.ref (nd + 10), .ref (nd + 19), .ref (nd + 21), .int 1, .int (u 5), .int (D 18 5), .int (u 6), .int (D 18 7), .int (D 18 8), .int (D 18 9), .int (D 18 10), .int (D 18 11), .int (D 18 12), .int (D 18 13), .int (D 18 14)])), (nd + 19, .inr (5, [.int (b 0), .int (b 1), .int (b 2), .int (b 3), .int (b 4), .int (nI l), .int (D 19 6), .ref (nd + 20)])), (nd + 20, .inl (0, 612, .inl (va_cpy b (D 20) 5 0 (100 + (l + 3) / 4)))), cAr nd 21 1152 D, cRk n nn gg C, cOr n nn gg f]) [24, 25, 0, 1, 2, 3, 4, 5, 6, 7, 8, 9, 10, 11, 12, 13, 14, 15, 16, 17, 18, 22, 23, 19, 20, 21] rfl rfl
          replace hN := hN.fr qf (fun x hx z => by simp only [List.mem_cons, List.not_mem_nil, or_false] at z; unfold NTA at hx; omega)
          replace hf := hf.trC qf (fun x _ z => Or.inr (by simp only [List.mem_cons, List.not_mem_nil, or_false] at z; omega))
          replace hn : hp_13.1 = h0.1 := by omega
          replace hs : hp_13.2.1 = h0.2.1 := by omega
          clear qF qn qs qf
          replace hF := hF.sub (F' := [cNd n nd me D, cDk nd D, cAr nd 2 35840 D, cAr nd 3 4096 D, cAr nd 4 32 D, cAr nd 5 280 D, cAr nd 6 280 D, cLd n nd me D A, cAr nd 8 16 D, cAr nd 9 280 D, cTb nd gg D K, cAr nd 11 48 D, cAr nd 12 48 D, cAr nd 13 48 D, cAr nd 14 2400 D, cAr nd 15 512 D, cAr nd 16 961 D, cAr nd 17 961 D, (nd + 18, .inr (10, [.ref (nd + 10), .ref (nd + 19), .ref (nd + 21), .int 1, .int (u 5), .int (D 18 5), .int (u 6), .int (D 18 7), .int (D 18 8), .int (D 18 9), .int (D 18 10), .int (D 18 11), .int (D 18 12), .int (D 18 13), .int (D 18 14)])), (nd + 19, .inr (5, [.int (b 0), .int (b 1), .int (b 2), .int (b 3), .int (b 4), .int (nI l), .int (D 19 6), .ref (nd + 20)])), (nd + 20, .inl (0, 612, .inl (va_cpy b (D 20) 5 0 (100 + (l + 3) / 4)))), cAr nd 21 1152 D, cRk n nn gg C, cOr n nn gg f]) [2, 3, 4, 5, 6, 7, 8, 9, 10, 11, 12, 13, 14, 15, 16, 17, 18, 19, 20, 21, 22, 23, 24, 25] rfl rfl
          have hS9 : NS Z n nd nn gg C me f q u b uv h0 hp_13 (va_up (va_up (va_up D 18 (upd (upd (upd (D 18) 3 1) 4 (u 5)) 6 (u 6))) 19 (upd (upd (upd (upd (upd (upd (D 19) 0 (b 0)) 1 (b 1)) 2 (b 2)) 3 (b 3)) 4 (b 4)) 5 (nI l))) 20 (va_cpy b (D 20) 5 0 (100 + (l + 3) / 4))) K A Y := ⟨hF, hN, hf, hn, hs, hp0, hu0⟩
          have hI9 : NI Z nn (va_up (va_up (va_up D 18 (upd (upd (upd (D 18) 3 1) 4 (u 5)) 6 (u 6))) 19 (upd (upd (upd (upd (upd (upd (D 19) 0 (b 0)) 1 (b 1)) 2 (b 2)) 3 (b 3)) 4 (b 4)) 5 (nI l))) 20 (va_cpy b (D 20) 5 0 (100 + (l + 3) / 4))) := ⟨hI.1, hI.2.1, WI.wait rfl (by have e := hA; rw [el] at e; exact e) hI.2.2.1.2.2.1 ho hI.2.2.1.2.2.2.2.2.2.2, hI.2.2.2⟩
          exact ar_ret d_68_67 rfl (⟨rfl, _, _, _, _, hS9, hI9, bnN_eq (cl_eq hl el) (eq_ifF cc1 (eq_ifF cc2 (eq_ifF cc8 (eq_ifT cc9 (rfl))))), trivial⟩)
        · have hS9 : NS Z n nd nn gg C me f q u b uv h0 h D K A Y := ⟨hF, hN, hf, hn, hs, hp0, hu0⟩
          have hI9 : NI Z nn D := hI
          exact ar_ret d_68_37 rfl (⟨rfl, _, _, _, _, hS9, hI9, bnN_eq (cl_eq hl el) (eq_ifF cc1 (eq_ifF cc2 (eq_ifF cc8 (eq_ifF cc9 (rfl))))), trivial⟩)
def F_67 (nn gg : Nat) (C me : Int32) (f u b : Nat → Int32) (D : Nat → Nat → Int32) (K A : Int64) (Y : List Mg)  : St :=
  if ¬ (u 0) = 2 then
    if u 0 = 5 then
      bnS (F_70 nn gg C me f u b (va_up D 7 (upd (D 7) 9 ((D 7 9) ||| (1 <<< ((u 1) &&& 31))))) K A Y) (fun D3 K3 A3 Y3 =>
        (D3, K3, A3, Y3))
    else
      if u 0 = 6 then
        (va_up D 7 (upd (D 7) 9 ((D 7 9) ||| (1 <<< ((u 1) &&& 31)))), K, A, Y)
      else
        if u 0 = 7 then
          bnS (F_83 nn gg C me f u b (va_up D 7 (upd (D 7) 9 ((D 7 9) ||| (1 <<< ((u 1) &&& 31))))) K A Y) (fun D4 K4 A4 Y4 =>
            (D4, K4, A4, Y4))
        else
          if u 0 = 8 then
            bnS (F_90 nn gg C me f u b (va_up D 7 (upd (D 7) 9 ((D 7 9) ||| (1 <<< ((u 1) &&& 31))))) K A Y) (fun D5 K5 A5 Y5 =>
              (D5, K5, A5, Y5))
          else
            if u 0 = 9 then
              (va_up D 7 (upd (D 7) 9 ((D 7 9) ||| (1 <<< ((u 1) &&& 31)))), K, A, Y)
            else
              if u 0 = 10 then
                (va_up D 7 (upd (D 7) 9 ((D 7 9) ||| (1 <<< ((u 1) &&& 31)))), K, A, Y)
              else
                if u 0 = 11 then
                  bnS (F_89 nn gg C me f u b (va_up D 7 (upd (D 7) 9 ((D 7 9) ||| (1 <<< ((u 1) &&& 31))))) K A Y) (fun D6 K6 A6 Y6 =>
                    (D6, K6, A6, Y6))
                else
                  (va_up D 7 (upd (D 7) 9 ((D 7 9) ||| (1 <<< ((u 1) &&& 31)))), K, A, Y)
  else
    bnS (F_68 nn gg C me f u b D K A Y) (fun D1 K1 A1 Y1 =>
      (D1, K1, A1, Y1))
set_option maxRecDepth 100000 in
theorem s_67 {L : Nat} {xs : Nat → Int32} {fr lo : Nat} {Z : ZT} {n nd nn gg : Nat} {C me : Int32} {f : Nat → Int32} {q : Nat} {u b : Nat → Int32} {uv : Int32} {h0 h : ax_H} {D : Nat → Nat → Int32} {K A : Int64} {Y : List Mg}  (hfr : 5 ≤ fr) (hlo : 160 ≤ lo) (hC : CS n nd nn gg f) (hS : NS Z n nd nn gg C me f q u b uv h0 h D K A Y) (hI : NI Z nn D) (hm : MI Z (u, b)) : ax_M L xs 67 fr lo [.ref (nd + 7), .ref (n + 1 + 1 + 2 * q)] h (fun r h' => r = none ∧ PS Z n nd nn gg C me f q u b uv h0 h' (fun D' K' A' Y' => (D', K', A', Y') = F_67 nn gg C me f u b D K A Y ∧ True)) := by
  have hC0 := hC
  show ax_A (ax_step L xs) ((67, 0, fr, lo), [(0, .ref (nd + 7)), (1, .ref (n + 1 + 1 + 2 * q))], [], h) _
  obtain ⟨hnd, hn0, hnn3, hnn, hgg1, hgg, hRg⟩ := hC
  obtain ⟨hF, hN, hf, hn, hs, hp0, hu0⟩ := hS
  replace hF : ax_hs h [cNd n nd me D, cDk nd D, cAr nd 2 35840 D, cAr nd 3 4096 D, cAr nd 4 32 D, cAr nd 5 280 D, cAr nd 6 280 D, cLd n nd me D A, cAr nd 8 16 D, cAr nd 9 280 D, cTb nd gg D K, cAr nd 11 48 D, cAr nd 12 48 D, cAr nd 13 48 D, cAr nd 14 2400 D, cAr nd 15 512 D, cAr nd 16 961 D, cAr nd 17 961 D, cWk nd D, cWa nd D, cAr nd 20 612 D, cAr nd 21 1152 D, cRk n nn gg C, cOr n nn gg f] := hF
  refine ar_aload_n 1 d_67_0 rfl rfl ?_
  refine ar_getf 4 d_67_1 rfl (ci := 2) (k := 0) rfl hN.mgc rfl ?_
  refine ar_iconst 5 (v := 2) d_67_4 rfl (by decide) ?_
  refine ar_icmp_ne 17 8 d_67_5 (by decide) rfl (fun c2 => ?_) (fun c2 => ?_)
  · refine ar_aload_n 18 d_67_17 rfl rfl ?_
    refine ar_dup 19 d_67_18 rfl rfl ?_
    refine ar_getf 22 d_67_19 rfl (ci := 9) (k := 9) rfl (hF.at 7 rfl) rfl ?_
    refine ar_iconst 23 (v := 1) d_67_22 rfl (by decide) ?_
    refine ar_aload_n 24 d_67_23 rfl rfl ?_
    refine ar_getf 27 d_67_24 rfl (ci := 2) (k := 1) rfl hN.mgc rfl ?_
    refine ar_ishl 28 d_67_27 rfl ?_
    refine ar_ior 29 d_67_28 rfl ?_
    refine ar_putf 32 [.int me, .ref (n + 264), .ref n, .ref (nd + 10), .ref (nd + 18), .ref (nd + 8), .ref (nd + 9), .int (D 7 7), .int (D 7 8), .int ((D 7 9) ||| (1 <<< ((u 1) &&& 31))), .int (D 7 10), .long A, .int (D 7 12), .int (D 7 13), .int (D 7 14)] d_67_29 rfl (ci := 9) (k := 9) rfl rfl (hF.at 7 rfl) (Nat.le_of_ble_eq_true rfl) rfl rfl rfl ?_
    replace hF : ax_hs (ax_put h (nd + 7) (.inr (9, [.int me, .ref (n + 264), .ref n, .ref (nd + 10), .ref (nd + 18), .ref (nd + 8), .ref (nd + 9), .int (D 7 7), .int (D 7 8), .int ((D 7 9) ||| (1 <<< ((u 1) &&& 31))), .int (D 7 10), .long A, .int (D 7 12), .int (D 7 13), .int (D 7 14)]))) [cNd n nd me D, cDk nd D, cAr nd 2 35840 D, cAr nd 3 4096 D, cAr nd 4 32 D, cAr nd 5 280 D, cAr nd 6 280 D, (nd + 7, .inr (9, [.int me, .ref (n + 264), .ref n, .ref (nd + 10), .ref (nd + 18), .ref (nd + 8), .ref (nd + 9), .int (D 7 7), .int (D 7 8), .int ((D 7 9) ||| (1 <<< ((u 1) &&& 31))), .int (D 7 10), .long A, .int (D 7 12), .int (D 7 13), .int (D 7 14)])), cAr nd 8 16 D, cAr nd 9 280 D, cTb nd gg D K, cAr nd 11 48 D, cAr nd 12 48 D, cAr nd 13 48 D, cAr nd 14 2400 D, cAr nd 15 512 D, cAr nd 16 961 D, cAr nd 17 961 D, cWk nd D, cWa nd D, cAr nd 20 612 D, cAr nd 21 1152 D, cRk n nn gg C, cOr n nn gg f] := hF.put 7 _ rfl rfl
    replace hf := hf.put (a := nd + 7) (c := .inr (9, [.int me, .ref (n + 264), .ref n, .ref (nd + 10), .ref (nd + 18), .ref (nd + 8), .ref (nd + 9), .int (D 7 7), .int (D 7 8), .int ((D 7 9) ||| (1 <<< ((u 1) &&& 31))), .int (D 7 10), .long A, .int (D 7 12), .int (D 7 13), .int (D 7 14)])) (Or.inr (by omega))
    replace hN := hN.put (a := nd + 7) (c := .inr (9, [.int me, .ref (n + 264), .ref n, .ref (nd + 10), .ref (nd + 18), .ref (nd + 8), .ref (nd + 9), .int (D 7 7), .int (D 7 8), .int ((D 7 9) ||| (1 <<< ((u 1) &&& 31))), .int (D 7 10), .long A, .int (D 7 12), .int (D 7 13), .int (D 7 14)])) (by omega)
    replace hn : (ax_put h (nd + 7) (.inr (9, [.int me, .ref (n + 264), .ref n, .ref (nd + 10), .ref (nd + 18), .ref (nd + 8), .ref (nd + 9), .int (D 7 7), .int (D 7 8), .int ((D 7 9) ||| (1 <<< ((u 1) &&& 31))), .int (D 7 10), .long A, .int (D 7 12), .int (D 7 13), .int (D 7 14)]))).1 = h0.1 := hn
    replace hs : (ax_put h (nd + 7) (.inr (9, [.int me, .ref (n + 264), .ref n, .ref (nd + 10), .ref (nd + 18), .ref (nd + 8), .ref (nd + 9), .int (D 7 7), .int (D 7 8), .int ((D 7 9) ||| (1 <<< ((u 1) &&& 31))), .int (D 7 10), .long A, .int (D 7 12), .int (D 7 13), .int (D 7 14)]))).2.1 = h0.2.1 := hs
    generalize ax_put h (nd + 7) (.inr (9, [.int me, .ref (n + 264), .ref n, .ref (nd + 10), .ref (nd + 18), .ref (nd + 8), .ref (nd + 9), .int (D 7 7), .int (D 7 8), .int ((D 7 9) ||| (1 <<< ((u 1) &&& 31))), .int (D 7 10), .long A, .int (D 7 12), .int (D 7 13), .int (D 7 14)])) = hp_2 at hF hf hN hn hs ⊢
    refine ar_aload_n 33 d_67_32 rfl rfl ?_
    refine ar_getf 36 d_67_33 rfl (ci := 2) (k := 0) rfl hN.mgc rfl ?_
    by_cases hk : u 0 = 5
    · refine ar_tabIn 80 d_67_36 (by rw [hk]; decide) (by rw [hk]; rfl) (by decide) ?_
      refine ar_aload_n 81 d_67_80 rfl rfl ?_
      refine ar_aload_n 82 d_67_81 rfl rfl ?_
      have hS1 : NS Z n nd nn gg C me f q u b uv h0 hp_2 (va_up D 7 (upd (D 7) 9 ((D 7 9) ||| (1 <<< ((u 1) &&& 31))))) K A Y := ⟨hF, hN, hf, hn, hs, hp0, hu0⟩
      have hI1 : NI Z nn (va_up D 7 (upd (D 7) 9 ((D 7 9) ||| (1 <<< ((u 1) &&& 31))))) := hI
      refine ar_call (r := []) (na := 0) (kd := 0) (cm := 70) (fr2 := fr - 1) (lo2 := lo - 27) 85 d_67_82 (ar_hoV (as := [.ref (n + 1 + 1 + 2 * q)]) rfl rfl rfl (hF.at 7 rfl)) rfl (by omega) (show lo - 27 + (19 + 8) = lo by omega) (Nat.le_of_ble_eq_true rfl) (Nat.le_of_ble_eq_true rfl) (s_70 (by omega) (by omega) hC0 hS1 hI1 (hm.1 (Or.inl hk))) ?_
      intro v hp_3 hq
      obtain ⟨rfl, D3, K3, A3, Y3, hS2, hI2, hE3, -⟩ := hq
      clear hS1 hI1 hF hN hf hn hs hp0 hu0
      obtain ⟨hF, hN, hf, hn, hs, hp0, hu0⟩ := hS2
      replace hF : ax_hs hp_3 [cNd n nd me D3, cDk nd D3, cAr nd 2 35840 D3, cAr nd 3 4096 D3, cAr nd 4 32 D3, cAr nd 5 280 D3, cAr nd 6 280 D3, cLd n nd me D3 A3, cAr nd 8 16 D3, cAr nd 9 280 D3, cTb nd gg D3 K3, cAr nd 11 48 D3, cAr nd 12 48 D3, cAr nd 13 48 D3, cAr nd 14 2400 D3, cAr nd 15 512 D3, cAr nd 16 961 D3, cAr nd 17 961 D3, cWk nd D3, cWa nd D3, cAr nd 20 612 D3, cAr nd 21 1152 D3, cRk n nn gg C, cOr n nn gg f] := hF
      have hI3 := hI2
      clear hI2
      refine ar_goto 112 d_67_85 (by decide) ?_
      have hS9 : NS Z n nd nn gg C me f q u b uv h0 hp_3 D3 K3 A3 Y3 := ⟨hF, hN, hf, hn, hs, hp0, hu0⟩
      have hI9 : NI Z nn D3 := hI3
      exact ar_ret d_67_112 rfl (⟨rfl, _, _, _, _, hS9, hI9, eq_ifT c2 (eq_ifT hk (bnS_eq hE3 (rfl))), trivial⟩)
    · have n5 := hk
      clear hk
      by_cases hk : u 0 = 6
      · refine ar_tabIn 112 d_67_36 (by rw [hk]; decide) (by rw [hk]; rfl) (by decide) ?_
        have hS9 : NS Z n nd nn gg C me f q u b uv h0 hp_2 (va_up D 7 (upd (D 7) 9 ((D 7 9) ||| (1 <<< ((u 1) &&& 31))))) K A Y := ⟨hF, hN, hf, hn, hs, hp0, hu0⟩
        have hI9 : NI Z nn (va_up D 7 (upd (D 7) 9 ((D 7 9) ||| (1 <<< ((u 1) &&& 31))))) := hI
        exact ar_ret d_67_112 rfl (⟨rfl, _, _, _, _, hS9, hI9, eq_ifT c2 (eq_ifF n5 (eq_ifT hk (rfl))), trivial⟩)
      · have n6 := hk
        clear hk
        by_cases hk : u 0 = 7
        · refine ar_tabIn 88 d_67_36 (by rw [hk]; decide) (by rw [hk]; rfl) (by decide) ?_
          refine ar_aload_n 89 d_67_88 rfl rfl ?_
          refine ar_aload_n 90 d_67_89 rfl rfl ?_
          have hS1 : NS Z n nd nn gg C me f q u b uv h0 hp_2 (va_up D 7 (upd (D 7) 9 ((D 7 9) ||| (1 <<< ((u 1) &&& 31))))) K A Y := ⟨hF, hN, hf, hn, hs, hp0, hu0⟩
          have hI1 : NI Z nn (va_up D 7 (upd (D 7) 9 ((D 7 9) ||| (1 <<< ((u 1) &&& 31))))) := hI
          refine ar_call (r := []) (na := 0) (kd := 0) (cm := 83) (fr2 := fr - 1) (lo2 := lo - 23) 93 d_67_90 (ar_hoV (as := [.ref (n + 1 + 1 + 2 * q)]) rfl rfl rfl (hF.at 7 rfl)) rfl (by omega) (show lo - 23 + (19 + 4) = lo by omega) (Nat.le_of_ble_eq_true rfl) (Nat.le_of_ble_eq_true rfl) (s_83 (by omega) (by omega) hC0 hS1 hI1 (hm.2.2.1 (Or.inl hk))) ?_
          intro v hp_4 hq
          obtain ⟨rfl, D4, K4, A4, Y4, hS2, hI2, hE4, -⟩ := hq
          clear hS1 hI1 hF hN hf hn hs hp0 hu0
          obtain ⟨hF, hN, hf, hn, hs, hp0, hu0⟩ := hS2
          replace hF : ax_hs hp_4 [cNd n nd me D4, cDk nd D4, cAr nd 2 35840 D4, cAr nd 3 4096 D4, cAr nd 4 32 D4, cAr nd 5 280 D4, cAr nd 6 280 D4, cLd n nd me D4 A4, cAr nd 8 16 D4, cAr nd 9 280 D4, cTb nd gg D4 K4, cAr nd 11 48 D4, cAr nd 12 48 D4, cAr nd 13 48 D4, cAr nd 14 2400 D4, cAr nd 15 512 D4, cAr nd 16 961 D4, cAr nd 17 961 D4, cWk nd D4, cWa nd D4, cAr nd 20 612 D4, cAr nd 21 1152 D4, cRk n nn gg C, cOr n nn gg f] := hF
          have hI4 := hI2
          clear hI2
          refine ar_goto 112 d_67_93 (by decide) ?_
          have hS9 : NS Z n nd nn gg C me f q u b uv h0 hp_4 D4 K4 A4 Y4 := ⟨hF, hN, hf, hn, hs, hp0, hu0⟩
          have hI9 : NI Z nn D4 := hI4
          exact ar_ret d_67_112 rfl (⟨rfl, _, _, _, _, hS9, hI9, eq_ifT c2 (eq_ifF n5 (eq_ifF n6 (eq_ifT hk (bnS_eq hE4 (rfl))))), trivial⟩)
        · have n7 := hk
          clear hk
          by_cases hk : u 0 = 8
          · refine ar_tabIn 104 d_67_36 (by rw [hk]; decide) (by rw [hk]; rfl) (by decide) ?_
            refine ar_aload_n 105 d_67_104 rfl rfl ?_
            refine ar_aload_n 106 d_67_105 rfl rfl ?_
            have hS1 : NS Z n nd nn gg C me f q u b uv h0 hp_2 (va_up D 7 (upd (D 7) 9 ((D 7 9) ||| (1 <<< ((u 1) &&& 31))))) K A Y := ⟨hF, hN, hf, hn, hs, hp0, hu0⟩
            have hI1 : NI Z nn (va_up D 7 (upd (D 7) 9 ((D 7 9) ||| (1 <<< ((u 1) &&& 31))))) := hI
            refine ar_call (r := []) (na := 0) (kd := 0) (cm := 90) (fr2 := fr - 1) (lo2 := lo - 22) 109 d_67_106 (ar_hoV (as := [.ref (n + 1 + 1 + 2 * q)]) rfl rfl rfl (hF.at 7 rfl)) rfl (by omega) (show lo - 22 + (19 + 3) = lo by omega) (Nat.le_of_ble_eq_true rfl) (Nat.le_of_ble_eq_true rfl) (s_90 (by omega) (by omega) hC0 hS1 hI1) ?_
            intro v hp_5 hq
            obtain ⟨rfl, D5, K5, A5, Y5, hS2, hI2, hE5, -⟩ := hq
            clear hS1 hI1 hF hN hf hn hs hp0 hu0
            obtain ⟨hF, hN, hf, hn, hs, hp0, hu0⟩ := hS2
            replace hF : ax_hs hp_5 [cNd n nd me D5, cDk nd D5, cAr nd 2 35840 D5, cAr nd 3 4096 D5, cAr nd 4 32 D5, cAr nd 5 280 D5, cAr nd 6 280 D5, cLd n nd me D5 A5, cAr nd 8 16 D5, cAr nd 9 280 D5, cTb nd gg D5 K5, cAr nd 11 48 D5, cAr nd 12 48 D5, cAr nd 13 48 D5, cAr nd 14 2400 D5, cAr nd 15 512 D5, cAr nd 16 961 D5, cAr nd 17 961 D5, cWk nd D5, cWa nd D5, cAr nd 20 612 D5, cAr nd 21 1152 D5, cRk n nn gg C, cOr n nn gg f] := hF
            have hI5 := hI2
            clear hI2
            refine ar_goto 112 d_67_109 (by decide) ?_
            have hS9 : NS Z n nd nn gg C me f q u b uv h0 hp_5 D5 K5 A5 Y5 := ⟨hF, hN, hf, hn, hs, hp0, hu0⟩
            have hI9 : NI Z nn D5 := hI5
            exact ar_ret d_67_112 rfl (⟨rfl, _, _, _, _, hS9, hI9, eq_ifT c2 (eq_ifF n5 (eq_ifF n6 (eq_ifF n7 (eq_ifT hk (bnS_eq hE5 (rfl)))))), trivial⟩)
          · have n8 := hk
            clear hk
            by_cases hk : u 0 = 9
            · refine ar_tabIn 112 d_67_36 (by rw [hk]; decide) (by rw [hk]; rfl) (by decide) ?_
              have hS9 : NS Z n nd nn gg C me f q u b uv h0 hp_2 (va_up D 7 (upd (D 7) 9 ((D 7 9) ||| (1 <<< ((u 1) &&& 31))))) K A Y := ⟨hF, hN, hf, hn, hs, hp0, hu0⟩
              have hI9 : NI Z nn (va_up D 7 (upd (D 7) 9 ((D 7 9) ||| (1 <<< ((u 1) &&& 31))))) := hI
              exact ar_ret d_67_112 rfl (⟨rfl, _, _, _, _, hS9, hI9, eq_ifT c2 (eq_ifF n5 (eq_ifF n6 (eq_ifF n7 (eq_ifF n8 (eq_ifT hk (rfl)))))), trivial⟩)
            · have n9 := hk
              clear hk
              by_cases hk : u 0 = 10
              · refine ar_tabIn 112 d_67_36 (by rw [hk]; decide) (by rw [hk]; rfl) (by decide) ?_
                have hS9 : NS Z n nd nn gg C me f q u b uv h0 hp_2 (va_up D 7 (upd (D 7) 9 ((D 7 9) ||| (1 <<< ((u 1) &&& 31))))) K A Y := ⟨hF, hN, hf, hn, hs, hp0, hu0⟩
                have hI9 : NI Z nn (va_up D 7 (upd (D 7) 9 ((D 7 9) ||| (1 <<< ((u 1) &&& 31))))) := hI
                exact ar_ret d_67_112 rfl (⟨rfl, _, _, _, _, hS9, hI9, eq_ifT c2 (eq_ifF n5 (eq_ifF n6 (eq_ifF n7 (eq_ifF n8 (eq_ifF n9 (eq_ifT hk (rfl))))))), trivial⟩)
              · have n10 := hk
                clear hk
                by_cases hk : u 0 = 11
                · refine ar_tabIn 96 d_67_36 (by rw [hk]; decide) (by rw [hk]; rfl) (by decide) ?_
                  refine ar_aload_n 97 d_67_96 rfl rfl ?_
                  refine ar_aload_n 98 d_67_97 rfl rfl ?_
                  have hS1 : NS Z n nd nn gg C me f q u b uv h0 hp_2 (va_up D 7 (upd (D 7) 9 ((D 7 9) ||| (1 <<< ((u 1) &&& 31))))) K A Y := ⟨hF, hN, hf, hn, hs, hp0, hu0⟩
                  have hI1 : NI Z nn (va_up D 7 (upd (D 7) 9 ((D 7 9) ||| (1 <<< ((u 1) &&& 31))))) := hI
                  refine ar_call (r := []) (na := 0) (kd := 0) (cm := 89) (fr2 := fr - 1) (lo2 := lo - 23) 101 d_67_98 (ar_hoV (as := [.ref (n + 1 + 1 + 2 * q)]) rfl rfl rfl (hF.at 7 rfl)) rfl (by omega) (show lo - 23 + (19 + 4) = lo by omega) (Nat.le_of_ble_eq_true rfl) (Nat.le_of_ble_eq_true rfl) (s_89 (by omega) (by omega) hC0 hS1 hI1 (hm.1 (Or.inr (Or.inl hk)))) ?_
                  intro v hp_6 hq
                  obtain ⟨rfl, D6, K6, A6, Y6, hS2, hI2, hE6, -⟩ := hq
                  clear hS1 hI1 hF hN hf hn hs hp0 hu0
                  obtain ⟨hF, hN, hf, hn, hs, hp0, hu0⟩ := hS2
                  replace hF : ax_hs hp_6 [cNd n nd me D6, cDk nd D6, cAr nd 2 35840 D6, cAr nd 3 4096 D6, cAr nd 4 32 D6, cAr nd 5 280 D6, cAr nd 6 280 D6, cLd n nd me D6 A6, cAr nd 8 16 D6, cAr nd 9 280 D6, cTb nd gg D6 K6, cAr nd 11 48 D6, cAr nd 12 48 D6, cAr nd 13 48 D6, cAr nd 14 2400 D6, cAr nd 15 512 D6, cAr nd 16 961 D6, cAr nd 17 961 D6, cWk nd D6, cWa nd D6, cAr nd 20 612 D6, cAr nd 21 1152 D6, cRk n nn gg C, cOr n nn gg f] := hF
                  have hI6 := hI2
                  clear hI2
                  refine ar_goto 112 d_67_101 (by decide) ?_
                  have hS9 : NS Z n nd nn gg C me f q u b uv h0 hp_6 D6 K6 A6 Y6 := ⟨hF, hN, hf, hn, hs, hp0, hu0⟩
                  have hI9 : NI Z nn D6 := hI6
                  exact ar_ret d_67_112 rfl (⟨rfl, _, _, _, _, hS9, hI9, eq_ifT c2 (eq_ifF n5 (eq_ifF n6 (eq_ifF n7 (eq_ifF n8 (eq_ifF n9 (eq_ifF n10 (eq_ifT hk (bnS_eq hE6 (rfl))))))))), trivial⟩)
                · have n11 := hk
                  clear hk
                  refine ar_tabOut 112 d_67_36 (tsw57 n5 n6 n7 n8 n9 n10 n11) (by decide) ?_
                  have hS9 : NS Z n nd nn gg C me f q u b uv h0 hp_2 (va_up D 7 (upd (D 7) 9 ((D 7 9) ||| (1 <<< ((u 1) &&& 31))))) K A Y := ⟨hF, hN, hf, hn, hs, hp0, hu0⟩
                  have hI9 : NI Z nn (va_up D 7 (upd (D 7) 9 ((D 7 9) ||| (1 <<< ((u 1) &&& 31))))) := hI
                  exact ar_ret d_67_112 rfl (⟨rfl, _, _, _, _, hS9, hI9, eq_ifT c2 (eq_ifF n5 (eq_ifF n6 (eq_ifF n7 (eq_ifF n8 (eq_ifF n9 (eq_ifF n10 (eq_ifF n11 (rfl)))))))), trivial⟩)
  · have h2 : u 0 = 2 := Decidable.not_not.mp c2
    refine ar_aload_n 9 d_67_8 rfl rfl ?_
    refine ar_getf 12 d_67_9 rfl (ci := 9) (k := 4) rfl (hF.at 7 rfl) rfl ?_
    refine ar_aload_n 13 d_67_12 rfl rfl ?_
    have hS1 : NS Z n nd nn gg C me f q u b uv h0 h D K A Y := ⟨hF, hN, hf, hn, hs, hp0, hu0⟩
    have hI1 : NI Z nn D := hI
    refine ar_call (r := []) (na := 0) (kd := 0) (cm := 68) (fr2 := fr - 1) (lo2 := lo - 21) 16 d_67_13 (ar_hoV (as := [.ref (n + 1 + 1 + 2 * q)]) rfl rfl rfl (hF.at 18 rfl)) rfl (by omega) (show lo - 21 + (19 + 2) = lo by omega) (Nat.le_of_ble_eq_true rfl) (Nat.le_of_ble_eq_true rfl) (s_68 (by omega) (by omega) hC0 hS1 hI1 (hm.2.2.2 h2).1 (hm.2.2.2 h2).2) ?_
    intro v hp_1 hq
    obtain ⟨rfl, D1, K1, A1, Y1, hS2, hI2, hE1, -⟩ := hq
    clear hS1 hI1 hF hN hf hn hs hp0 hu0
    obtain ⟨hF, hN, hf, hn, hs, hp0, hu0⟩ := hS2
    replace hF : ax_hs hp_1 [cNd n nd me D1, cDk nd D1, cAr nd 2 35840 D1, cAr nd 3 4096 D1, cAr nd 4 32 D1, cAr nd 5 280 D1, cAr nd 6 280 D1, cLd n nd me D1 A1, cAr nd 8 16 D1, cAr nd 9 280 D1, cTb nd gg D1 K1, cAr nd 11 48 D1, cAr nd 12 48 D1, cAr nd 13 48 D1, cAr nd 14 2400 D1, cAr nd 15 512 D1, cAr nd 16 961 D1, cAr nd 17 961 D1, cWk nd D1, cWa nd D1, cAr nd 20 612 D1, cAr nd 21 1152 D1, cRk n nn gg C, cOr n nn gg f] := hF
    have hI1 := hI2
    clear hI2
    have hS9 : NS Z n nd nn gg C me f q u b uv h0 hp_1 D1 K1 A1 Y1 := ⟨hF, hN, hf, hn, hs, hp0, hu0⟩
    have hI9 : NI Z nn D1 := hI1
    exact ar_ret d_67_16 rfl (⟨rfl, _, _, _, _, hS9, hI9, eq_ifF c2 (bnS_eq hE1 (rfl)), trivial⟩)

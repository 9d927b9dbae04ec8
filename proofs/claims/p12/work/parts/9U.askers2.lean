/-! the TAPE, NAMES, begin, and what those who begin OPERATIONS hear, exactly -/

def fdE (E : Nat → Nat → Int32) (l : Nat) (a b c d e : Int32) : Nat → Nat → Int32 := va_up (va_up E 4 (upd (E 4) 3 (nI (l + 20)))) 5 (setW (setW (setW (setW (setW (E 5) l a) (l + 4) b) (l + 8) c) (l + 12) d) (l + 16) e)
theorem ek_37 {L : Nat} {xs : Nat → Int32} {fr lo : Nat} {s0 n nn gg : Nat} {C : Int32} {f : Nat → Int32} {q : Nat} {u b : Nat → Int32} {h0 h : ax_H} {E : Nat → Nat → Int32} {TK : Int64} {Q : Nat → Mg} {ms : List Mg} {l : Nat} {xa xb xc xd xe : Int32} (hfr : 2 ≤ fr) (hlo : 60 ≤ lo) (hC : CG s0 n nn gg f) (hS : AS s0 n nn gg C f q u b h0 h E TK Q ms) (e3 : E 4 3 = nI l) (hl : l ≤ 2048) : ax_M L xs 37 fr lo [.ref s0, .int xa, .int xb, .int xc, .int xd, .int xe] h (fun r h' => (2048 < l + 20 ∧ r = some (.int (-4)) ∧ AS s0 n nn gg C f q u b h0 h' E TK Q ms) ∨ (l + 20 ≤ 2048 ∧ r = some (.int (nI (l + 20))) ∧ AS s0 n nn gg C f q u b h0 h' (fdE E l xa xb xc xd xe) TK Q ms)) := by
  have hC0 := hC
  obtain ⟨hs0, hsn, hnn3, hnn, hgg1, hgg, hRg⟩ := hC
  have hS0 := hS
  obtain ⟨hF, hA, hN, hf, hn, hs, hp0⟩ := hS
  replace hF : ax_hs h [cSt s0 n E, cRk n nn gg C, cOr n nn gg f, cAs n E, cEr n 5 512 E, cEr n 6 100 E, cEr n 7 2 E, cAk n, cEr n 9 512 E, cNa n nn, cEr n 0 48 E, cEr n 1 961 E, cTs n gg E TK, cEr n 59 48 E, cEr n 60 48 E, cEr n 61 48 E, cEr n 62 2400 E, cEr n 63 512 E, cEr n 64 961 E, cEr n 65 961 E] := hF
  replace hF : ax_hs h [cSt s0 n E, cRk n nn gg C, cOr n nn gg f, (n + 266, .inr (4, [.ref (n + 264), .ref n, .ref (n + 267), .int (nI l), .ref (n + 268), .ref (n + 269), .ref (n + 270), .ref (n + 271), .int (E 4 8), .int (E 4 9), .int (E 4 10), .int (E 4 11), .int (E 4 12), .int (E 4 13), .int (E 4 14), .int (E 4 15)])), cEr n 5 512 E, cEr n 6 100 E, cEr n 7 2 E, cAk n, cEr n 9 512 E, cNa n nn, cEr n 0 48 E, cEr n 1 961 E, cTs n gg E TK, cEr n 59 48 E, cEr n 60 48 E, cEr n 61 48 E, cEr n 62 2400 E, cEr n 63 512 E, cEr n 64 961 E, cEr n 65 961 E] := by
    have e : ax_hs h [cSt s0 n E, cRk n nn gg C, cOr n nn gg f, (n + 266, .inr (4, [.ref (n + 264), .ref n, .ref (n + 267), .int (E 4 3), .ref (n + 268), .ref (n + 269), .ref (n + 270), .ref (n + 271), .int (E 4 8), .int (E 4 9), .int (E 4 10), .int (E 4 11), .int (E 4 12), .int (E 4 13), .int (E 4 14), .int (E 4 15)])), cEr n 5 512 E, cEr n 6 100 E, cEr n 7 2 E, cAk n, cEr n 9 512 E, cNa n nn, cEr n 0 48 E, cEr n 1 961 E, cTs n gg E TK, cEr n 59 48 E, cEr n 60 48 E, cEr n 61 48 E, cEr n 62 2400 E, cEr n 63 512 E, cEr n 64 961 E, cEr n 65 961 E] := hF
    rw [e3] at e
    exact e
  by_cases hc : 2048 < l + 20
  · refine ax_A.post (f_37F hc hl (hF.sub (F' := [cSt s0 n E, (n + 266, .inr (4, [.ref (n + 264), .ref n, .ref (n + 267), .int (nI l), .ref (n + 268), .ref (n + 269), .ref (n + 270), .ref (n + 271), .int (E 4 8), .int (E 4 9), .int (E 4 10), .int (E 4 11), .int (E 4 12), .int (E 4 13), .int (E 4 14), .int (E 4 15)])), cEr n 5 512 E]) [0, 3, 4] rfl rfl)) (fun r h' hq => ?_)
    obtain ⟨rfl, rfl⟩ := hq
    exact Or.inl ⟨hc, rfl, hS0⟩
  · refine ax_A.post (f_37 (l := l) hfr hlo (by omega) (hF.sub (F' := [cSt s0 n E, (n + 266, .inr (4, [.ref (n + 264), .ref n, .ref (n + 267), .int (nI l), .ref (n + 268), .ref (n + 269), .ref (n + 270), .ref (n + 271), .int (E 4 8), .int (E 4 9), .int (E 4 10), .int (E 4 11), .int (E 4 12), .int (E 4 13), .int (E 4 14), .int (E 4 15)])), cEr n 5 512 E]) [0, 3, 4] rfl rfl) rfl rfl (by omega)) (fun r hp_1 hq => ?_)
    obtain ⟨rfl, qF, qn, qs, qf⟩ := hq
    have qF : ax_hs hp_1 [cSt s0 n E, (n + 266, .inr (4, [.ref (n + 264), .ref n, .ref (n + 267), .int (nI (l + 20)), .ref (n + 268), .ref (n + 269), .ref (n + 270), .ref (n + 271), .int (E 4 8), .int (E 4 9), .int (E 4 10), .int (E 4 11), .int (E 4 12), .int (E 4 13), .int (E 4 14), .int (E 4 15)])), (n + 267, .inl (0, 512, .inl (setW (setW (setW (setW (setW (E 5) l xa) (l + 4) xb) (l + 8) xc) (l + 12) xd) (l + 16) xe)))] := qF
    replace hF : ax_hs hp_1 [cRk n nn gg C, cOr n nn gg f, cEr n 6 100 E, cEr n 7 2 E, cAk n, cEr n 9 512 E, cNa n nn, cEr n 0 48 E, cEr n 1 961 E, cTs n gg E TK, cEr n 59 48 E, cEr n 60 48 E, cEr n 61 48 E, cEr n 62 2400 E, cEr n 63 512 E, cEr n 64 961 E, cEr n 65 961 E, cSt s0 n E, (n + 266, .inr (4, [.ref (n + 264), .ref n, .ref (n + 267), .int (nI (l + 20)), .ref (n + 268), .ref (n + 269), .ref (n + 270), .ref (n + 271), .int (E 4 8), .int (E 4 9), .int (E 4 10), .int (E 4 11), .int (E 4 12), .int (E 4 13), .int (E 4 14), .int (E 4 15)])), (n + 267, .inl (0, 512, .inl (setW (setW (setW (setW (setW (E 5) l xa) (l + 4) xb) (l + 8) xc) (l + 12) xd) (l + 16) xe)))] := ax_hs.call (rest := [cRk n nn gg C, cOr n nn gg f, cEr n 6 100 E, cEr n 7 2 E, cAk n, cEr n 9 512 E, cNa n nn, cEr n 0 48 E, cEr n 1 961 E, cTs n gg E TK, cEr n 59 48 E, cEr n 60 48 E, cEr n 61 48 E, cEr n 62 2400 E, cEr n 63 512 E, cEr n 64 961 E, cEr n 65 961 E]) [0, 3, 4] [1, 2, 5, 6, 7, 8, 9, 10, 11, 12, 13, 14, 15, 16, 17, 18, 19] hF qf qF rfl rfl rfl [3, 4] rfl rfl [0, 3, 4] (news := []) rfl rfl (fun _ z => absurd z List.not_mem_nil) rfl
    replace hF := hF.sub (F' := [cSt s0 n E, cRk n nn gg C, cOr n nn gg f, (n + 266, .inr (4, [.ref (n + 264), .ref n, .ref (n + 267), .int (nI (l + 20)), .ref (n + 268), .ref (n + 269), .ref (n + 270), .ref (n + 271), .int (E 4 8), .int (E 4 9), .int (E 4 10), .int (E 4 11), .int (E 4 12), .int (E 4 13), .int (E 4 14), .int (E 4 15)])), (n + 267, .inl (0, 512, .inl (setW (setW (setW (setW (setW (E 5) l xa) (l + 4) xb) (l + 8) xc) (l + 12) xd) (l + 16) xe))), cEr n 6 100 E, cEr n 7 2 E, cAk n, cEr n 9 512 E, cNa n nn, cEr n 0 48 E, cEr n 1 961 E, cTs n gg E TK, cEr n 59 48 E, cEr n 60 48 E, cEr n 61 48 E, cEr n 62 2400 E, cEr n 63 512 E, cEr n 64 961 E, cEr n 65 961 E]) [17, 0, 1, 18, 19, 2, 3, 4, 5, 6, 7, 8, 9, 10, 11, 12, 13, 14, 15, 16] rfl rfl
    replace hN := hN.fr qf (fun x hx z => by simp only [List.mem_cons, List.not_mem_nil, or_false] at z; unfold NTA at hx; omega)
    replace hA := hA.fr qf (fun x hx z => by simp only [List.mem_cons, List.not_mem_nil, or_false] at z; omega)
    replace hf := hf.trC qf (fun x _ z => Or.inr (by simp only [List.mem_cons, List.not_mem_nil, or_false] at z; omega))
    replace hn : hp_1.1 = h0.1 := by omega
    replace hs : hp_1.2.1 = h0.2.1 := by omega
    clear qF qn qs qf
    have hS9 : AS s0 n nn gg C f q u b h0 hp_1 (va_up (va_up E 4 (upd (E 4) 3 (nI (l + 20)))) 5 (setW (setW (setW (setW (setW (E 5) l xa) (l + 4) xb) (l + 8) xc) (l + 12) xd) (l + 16) xe)) TK Q ms := ⟨hF, hA, hN, hf, hn, hs, hp0⟩
    exact Or.inr ⟨by omega, rfl, hS9⟩
theorem ek_40 {L : Nat} {xs : Nat → Int32} {fr lo : Nat} {s0 n nn gg : Nat} {C : Int32} {f : Nat → Int32} {q : Nat} {u b : Nat → Int32} {h0 h : ax_H} {E : Nat → Nat → Int32} {TK : Int64} {Q : Nat → Mg} {ms : List Mg} {x : Int32} (hfr : 0 ≤ fr) (hlo : 0 ≤ lo) (hC : CG s0 n nn gg f) (hS : AS s0 n nn gg C f q u b h0 h E TK Q ms) {l : Nat} (e3 : E 4 3 = nI l) (hl : l ≤ 2048) : ax_M L xs 40 fr lo [.ref s0, .int x] h (fun r h' => ((x < 0 ∨ nI l < x) ∧ r = some (.int (-1)) ∧ AS s0 n nn gg C f q u b h0 h' E TK Q ms) ∨ (¬ x < 0 ∧ x ≤ nI l ∧ r = some (.int x) ∧ AS s0 n nn gg C f q u b h0 h' (va_up E 4 (upd (E 4) 3 x)) TK Q ms)) := by
  have hC0 := hC
  show ax_A (ax_step L xs) ((40, 0, fr, lo), [(0, .ref s0), (1, .int x)], [], h) _
  obtain ⟨hs0, hsn, hnn3, hnn, hgg1, hgg, hRg⟩ := hC
  obtain ⟨hF, hA, hN, hf, hn, hs, hp0⟩ := hS
  replace hF : ax_hs h [cSt s0 n E, cRk n nn gg C, cOr n nn gg f, cAs n E, cEr n 5 512 E, cEr n 6 100 E, cEr n 7 2 E, cAk n, cEr n 9 512 E, cNa n nn, cEr n 0 48 E, cEr n 1 961 E, cTs n gg E TK, cEr n 59 48 E, cEr n 60 48 E, cEr n 61 48 E, cEr n 62 2400 E, cEr n 63 512 E, cEr n 64 961 E, cEr n 65 961 E] := hF
  refine ar_iload_n 1 d_40_0 rfl rfl ?_
  refine ar_if_lt 15 4 d_40_1 (by decide) rfl (fun c1 => ?_) (fun c1 => ?_)
  · refine ar_iconst 16 (v := -1) d_40_15 rfl (by decide) ?_
    have hS9 : AS s0 n nn gg C f q u b h0 h E TK Q ms := ⟨hF, hA, hN, hf, hn, hs, hp0⟩
    exact ar_iret d_40_16 rfl rfl (Or.inl ⟨Or.inl c1, rfl, hS9⟩)
  · refine ar_iload_n 5 d_40_4 rfl rfl ?_
    refine ar_aload_n 6 d_40_5 rfl rfl ?_
    refine ar_getf 9 d_40_6 rfl (ci := 0) (k := 2) rfl (hF.at 0 rfl) rfl ?_
    refine ar_getf 12 d_40_9 rfl (ci := 4) (k := 3) rfl (hF.at 3 rfl) rfl ?_
    refine ar_top (x' := nI l) (e3) ?_
    refine ar_icmp_le 17 15 d_40_12 (by decide) rfl (fun c2 => ?_) (fun c2 => ?_)
    · refine ar_aload_n 18 d_40_17 rfl rfl ?_
      refine ar_getf 21 d_40_18 rfl (ci := 0) (k := 2) rfl (hF.at 0 rfl) rfl ?_
      refine ar_iload_n 22 d_40_21 rfl rfl ?_
      refine ar_putf 25 [.ref (n + 264), .ref n, .ref (n + 267), .int x, .ref (n + 268), .ref (n + 269), .ref (n + 270), .ref (n + 271), .int (E 4 8), .int (E 4 9), .int (E 4 10), .int (E 4 11), .int (E 4 12), .int (E 4 13), .int (E 4 14), .int (E 4 15)] d_40_22 rfl (ci := 4) (k := 3) rfl rfl (hF.at 3 rfl) (Nat.le_of_ble_eq_true rfl) rfl rfl rfl ?_
      replace hF : ax_hs (ax_put h (n + 266) (.inr (4, [.ref (n + 264), .ref n, .ref (n + 267), .int x, .ref (n + 268), .ref (n + 269), .ref (n + 270), .ref (n + 271), .int (E 4 8), .int (E 4 9), .int (E 4 10), .int (E 4 11), .int (E 4 12), .int (E 4 13), .int (E 4 14), .int (E 4 15)]))) [cSt s0 n E, cRk n nn gg C, cOr n nn gg f, (n + 266, .inr (4, [.ref (n + 264), .ref n, .ref (n + 267), .int x, .ref (n + 268), .ref (n + 269), .ref (n + 270), .ref (n + 271), .int (E 4 8), .int (E 4 9), .int (E 4 10), .int (E 4 11), .int (E 4 12), .int (E 4 13), .int (E 4 14), .int (E 4 15)])), cEr n 5 512 E, cEr n 6 100 E, cEr n 7 2 E, cAk n, cEr n 9 512 E, cNa n nn, cEr n 0 48 E, cEr n 1 961 E, cTs n gg E TK, cEr n 59 48 E, cEr n 60 48 E, cEr n 61 48 E, cEr n 62 2400 E, cEr n 63 512 E, cEr n 64 961 E, cEr n 65 961 E] := hF.put 3 _ rfl rfl
      replace hf := hf.put (a := n + 266) (c := .inr (4, [.ref (n + 264), .ref n, .ref (n + 267), .int x, .ref (n + 268), .ref (n + 269), .ref (n + 270), .ref (n + 271), .int (E 4 8), .int (E 4 9), .int (E 4 10), .int (E 4 11), .int (E 4 12), .int (E 4 13), .int (E 4 14), .int (E 4 15)])) (Or.inr (by omega))
      replace hN := hN.put (a := n + 266) (c := .inr (4, [.ref (n + 264), .ref n, .ref (n + 267), .int x, .ref (n + 268), .ref (n + 269), .ref (n + 270), .ref (n + 271), .int (E 4 8), .int (E 4 9), .int (E 4 10), .int (E 4 11), .int (E 4 12), .int (E 4 13), .int (E 4 14), .int (E 4 15)])) (by omega)
      replace hA := hA.put (a := n + 266) (c := .inr (4, [.ref (n + 264), .ref n, .ref (n + 267), .int x, .ref (n + 268), .ref (n + 269), .ref (n + 270), .ref (n + 271), .int (E 4 8), .int (E 4 9), .int (E 4 10), .int (E 4 11), .int (E 4 12), .int (E 4 13), .int (E 4 14), .int (E 4 15)])) (by omega)
      replace hn : (ax_put h (n + 266) (.inr (4, [.ref (n + 264), .ref n, .ref (n + 267), .int x, .ref (n + 268), .ref (n + 269), .ref (n + 270), .ref (n + 271), .int (E 4 8), .int (E 4 9), .int (E 4 10), .int (E 4 11), .int (E 4 12), .int (E 4 13), .int (E 4 14), .int (E 4 15)]))).1 = h0.1 := hn
      replace hs : (ax_put h (n + 266) (.inr (4, [.ref (n + 264), .ref n, .ref (n + 267), .int x, .ref (n + 268), .ref (n + 269), .ref (n + 270), .ref (n + 271), .int (E 4 8), .int (E 4 9), .int (E 4 10), .int (E 4 11), .int (E 4 12), .int (E 4 13), .int (E 4 14), .int (E 4 15)]))).2.1 = h0.2.1 := hs
      generalize ax_put h (n + 266) (.inr (4, [.ref (n + 264), .ref n, .ref (n + 267), .int x, .ref (n + 268), .ref (n + 269), .ref (n + 270), .ref (n + 271), .int (E 4 8), .int (E 4 9), .int (E 4 10), .int (E 4 11), .int (E 4 12), .int (E 4 13), .int (E 4 14), .int (E 4 15)])) = hp_1 at hF hf hA hN hn hs ⊢
      refine ar_iload_n 26 d_40_25 rfl rfl ?_
      have hS9 : AS s0 n nn gg C f q u b h0 hp_1 (va_up E 4 (upd (E 4) 3 x)) TK Q ms := ⟨hF, hA, hN, hf, hn, hs, hp0⟩
      exact ar_iret d_40_26 rfl rfl (Or.inr ⟨c1, c2, rfl, hS9⟩)
    · refine ar_iconst 16 (v := -1) d_40_15 rfl (by decide) ?_
      have hS9 : AS s0 n nn gg C f q u b h0 h E TK Q ms := ⟨hF, hA, hN, hf, hn, hs, hp0⟩
      exact ar_iret d_40_16 rfl rfl (Or.inl ⟨Or.inr (Int32.not_le.mp c2), rfl, hS9⟩)
def nmE (E : Nat → Nat → Int32) (k l : Nat) : Nat → Nat → Int32 := va_up (va_up (va_up E 4 (upd (E 4) 3 0)) 6 (mvF (E 5) 0 (k * 200) l (ax_fill (E 6) (k * 50) ((k + 1) * 50) 0))) 7 (upd (E 7) k (nI l))
theorem mul200 : ∀ k, k < 2 → (nI k) * 200 = nI (k * 200) := by decide
set_option maxRecDepth 100000 in
theorem ek_42 {L : Nat} {xs : Nat → Int32} {fr lo : Nat} {s0 n nn gg : Nat} {C : Int32} {f : Nat → Int32} {q : Nat} {u b : Nat → Int32} {h0 h : ax_H} {E : Nat → Nat → Int32} {TK : Int64} {Q : Nat → Mg} {ms : List Mg}  (hfr : 2 ≤ fr) (hlo : 80 ≤ lo) (hC : CG s0 n nn gg f) (hS : AS s0 n nn gg C f q u b h0 h E TK Q ms) {l k : Nat} (e3 : E 4 3 = nI l) (hl : l ≤ 200) (hk : k < 2) : ax_M L xs 42 fr lo [.ref (n + 266), .int (nI k)] h (fun r h' => r = some (.int (nI l)) ∧ AS s0 n nn gg C f q u b h0 h' (nmE E k l) TK Q ms) := by
  have hC0 := hC
  show ax_A (ax_step L xs) ((42, 0, fr, lo), [(0, .ref (n + 266)), (1, .int (nI k))], [], h) _
  obtain ⟨hs0, hsn, hnn3, hnn, hgg1, hgg, hRg⟩ := hC
  obtain ⟨hF, hA, hN, hf, hn, hs, hp0⟩ := hS
  replace hF : ax_hs h [cSt s0 n E, cRk n nn gg C, cOr n nn gg f, cAs n E, cEr n 5 512 E, cEr n 6 100 E, cEr n 7 2 E, cAk n, cEr n 9 512 E, cNa n nn, cEr n 0 48 E, cEr n 1 961 E, cTs n gg E TK, cEr n 59 48 E, cEr n 60 48 E, cEr n 61 48 E, cEr n 62 2400 E, cEr n 63 512 E, cEr n 64 961 E, cEr n 65 961 E] := hF
  replace hF : ax_hs h [cSt s0 n E, cRk n nn gg C, cOr n nn gg f, (n + 266, .inr (4, [.ref (n + 264), .ref n, .ref (n + 267), .int (nI l), .ref (n + 268), .ref (n + 269), .ref (n + 270), .ref (n + 271), .int (E 4 8), .int (E 4 9), .int (E 4 10), .int (E 4 11), .int (E 4 12), .int (E 4 13), .int (E 4 14), .int (E 4 15)])), cEr n 5 512 E, cEr n 6 100 E, cEr n 7 2 E, cAk n, cEr n 9 512 E, cNa n nn, cEr n 0 48 E, cEr n 1 961 E, cTs n gg E TK, cEr n 59 48 E, cEr n 60 48 E, cEr n 61 48 E, cEr n 62 2400 E, cEr n 63 512 E, cEr n 64 961 E, cEr n 65 961 E] := by
    have e : ax_hs h [cSt s0 n E, cRk n nn gg C, cOr n nn gg f, (n + 266, .inr (4, [.ref (n + 264), .ref n, .ref (n + 267), .int (E 4 3), .ref (n + 268), .ref (n + 269), .ref (n + 270), .ref (n + 271), .int (E 4 8), .int (E 4 9), .int (E 4 10), .int (E 4 11), .int (E 4 12), .int (E 4 13), .int (E 4 14), .int (E 4 15)])), cEr n 5 512 E, cEr n 6 100 E, cEr n 7 2 E, cAk n, cEr n 9 512 E, cNa n nn, cEr n 0 48 E, cEr n 1 961 E, cTs n gg E TK, cEr n 59 48 E, cEr n 60 48 E, cEr n 61 48 E, cEr n 62 2400 E, cEr n 63 512 E, cEr n 64 961 E, cEr n 65 961 E] := hF
    rw [e3] at e
    exact e
  refine ar_aload_n 1 d_42_0 rfl rfl ?_
  refine ar_getf 4 d_42_1 rfl (ci := 4) (k := 4) rfl (hF.at 3 rfl) rfl ?_
  refine ar_iload_n 5 d_42_4 rfl rfl ?_
  refine ar_bipush 7 (v := 50) d_42_5 rfl (by decide) ?_
  refine ar_imul 8 d_42_7 rfl ?_
  refine ar_top (x' := nI (k * 50)) ((mul50 k hk).1) ?_
  refine ar_iload_n 9 d_42_8 rfl rfl ?_
  refine ar_iconst 10 (v := 1) d_42_9 rfl (by decide) ?_
  refine ar_iadd 11 d_42_10 rfl ?_
  refine ar_bipush 13 (v := 50) d_42_11 rfl (by decide) ?_
  refine ar_imul 14 d_42_13 rfl ?_
  refine ar_top (x' := nI ((k + 1) * 50)) ((mul50 k hk).2) ?_
  refine ar_iconst 15 (v := 0) d_42_14 rfl (by decide) ?_
  refine ar_call (r := []) (na := 0) (kd := 0) (cm := 27) (fr2 := fr - 1) (lo2 := lo - 24) 18 d_42_15 (ar_hoS (as := [.ref (n + 268), .int (nI (k * 50)), .int (nI ((k + 1) * 50)), .int 0]) rfl rfl rfl) rfl (by omega) (show lo - 24 + (19 + 5) = lo by omega) (Nat.le_of_ble_eq_true rfl) (Nat.le_of_ble_eq_true rfl) (c_27 (by omega) (by omega) (hF.at 5 rfl) (by decide) (by omega) (by omega)) ?_
  intro v hh hq
  obtain ⟨rfl, rfl⟩ := hq
  replace hF : ax_hs (ax_put h (n + 268) (.inl (0, 100, .inl (ax_fill (E 6) (k * 50) ((k + 1) * 50) 0)))) [cSt s0 n E, cRk n nn gg C, cOr n nn gg f, (n + 266, .inr (4, [.ref (n + 264), .ref n, .ref (n + 267), .int (nI l), .ref (n + 268), .ref (n + 269), .ref (n + 270), .ref (n + 271), .int (E 4 8), .int (E 4 9), .int (E 4 10), .int (E 4 11), .int (E 4 12), .int (E 4 13), .int (E 4 14), .int (E 4 15)])), cEr n 5 512 E, (n + 268, .inl (0, 100, .inl (ax_fill (E 6) (k * 50) ((k + 1) * 50) 0))), cEr n 7 2 E, cAk n, cEr n 9 512 E, cNa n nn, cEr n 0 48 E, cEr n 1 961 E, cTs n gg E TK, cEr n 59 48 E, cEr n 60 48 E, cEr n 61 48 E, cEr n 62 2400 E, cEr n 63 512 E, cEr n 64 961 E, cEr n 65 961 E] := hF.put 5 _ rfl rfl
  replace hf := hf.put (a := n + 268) (c := .inl (0, 100, .inl (ax_fill (E 6) (k * 50) ((k + 1) * 50) 0))) (Or.inr (by omega))
  replace hN := hN.put (a := n + 268) (c := .inl (0, 100, .inl (ax_fill (E 6) (k * 50) ((k + 1) * 50) 0))) (by omega)
  replace hA := hA.put (a := n + 268) (c := .inl (0, 100, .inl (ax_fill (E 6) (k * 50) ((k + 1) * 50) 0))) (by omega)
  replace hn : (ax_put h (n + 268) (.inl (0, 100, .inl (ax_fill (E 6) (k * 50) ((k + 1) * 50) 0)))).1 = h0.1 := hn
  replace hs : (ax_put h (n + 268) (.inl (0, 100, .inl (ax_fill (E 6) (k * 50) ((k + 1) * 50) 0)))).2.1 = h0.2.1 := hs
  generalize ax_put h (n + 268) (.inl (0, 100, .inl (ax_fill (E 6) (k * 50) ((k + 1) * 50) 0))) = hp_1 at hF hf hA hN hn hs ⊢
  refine ar_aload_n 19 d_42_18 rfl rfl ?_
  refine ar_getf 22 d_42_19 rfl (ci := 4) (k := 2) rfl (hF.at 3 rfl) rfl ?_
  refine ar_iconst 23 (v := 0) d_42_22 rfl (by decide) ?_
  refine ar_aload_n 24 d_42_23 rfl rfl ?_
  refine ar_getf 27 d_42_24 rfl (ci := 4) (k := 4) rfl (hF.at 3 rfl) rfl ?_
  refine ar_iload_n 28 d_42_27 rfl rfl ?_
  refine ar_sipush 31 (v := 200) d_42_28 rfl (by decide) ?_
  refine ar_imul 32 d_42_31 rfl ?_
  refine ar_top (x' := nI (k * 200)) (mul200 k hk) ?_
  refine ar_aload_n 33 d_42_32 rfl rfl ?_
  refine ar_getf 36 d_42_33 rfl (ci := 4) (k := 3) rfl (hF.at 3 rfl) rfl ?_
  have e00 : (0 : Int32) = nI 0 := rfl
  refine ar_call (r := []) (na := 0) (kd := 0) (cm := 43) (fr2 := fr - 1) (lo2 := lo - 27) 39 d_42_36 (ar_hoS (as := [.ref (n + 267), .int (nI 0), .ref (n + 268), .int (nI (k * 200)), .int (nI l)]) rfl rfl rfl) rfl (by omega) (show lo - 27 + (19 + 8) = lo by omega) (Nat.le_of_ble_eq_true rfl) (Nat.le_of_ble_eq_true rfl) (c_43 (i := 0) (j := k * 200) (n0 := l) (by omega) (by omega) (by decide) (by decide) (by omega) (by omega) (hF.sub (F' := [cEr n 5 512 E, (n + 268, .inl (0, 100, .inl (ax_fill (E 6) (k * 50) ((k + 1) * 50) 0)))]) [4, 5] rfl rfl) rfl rfl (by omega)) ?_
  intro v hp_2 hq
  obtain ⟨rfl, qF, qn, qs, qf⟩ := hq
  have qF : ax_hs hp_2 [cEr n 5 512 E, (n + 268, .inl (0, 100, .inl (mvF (E 5) 0 (k * 200) l (ax_fill (E 6) (k * 50) ((k + 1) * 50) 0))))] := qF
  replace hF : ax_hs hp_2 [cSt s0 n E, cRk n nn gg C, cOr n nn gg f, (n + 266, .inr (4, [.ref (n + 264), .ref n, .ref (n + 267), .int (nI l), .ref (n + 268), .ref (n + 269), .ref (n + 270), .ref (n + 271), .int (E 4 8), .int (E 4 9), .int (E 4 10), .int (E 4 11), .int (E 4 12), .int (E 4 13), .int (E 4 14), .int (E 4 15)])), cEr n 7 2 E, cAk n, cEr n 9 512 E, cNa n nn, cEr n 0 48 E, cEr n 1 961 E, cTs n gg E TK, cEr n 59 48 E, cEr n 60 48 E, cEr n 61 48 E, cEr n 62 2400 E, cEr n 63 512 E, cEr n 64 961 E, cEr n 65 961 E, cEr n 5 512 E, (n + 268, .inl (0, 100, .inl (mvF (E 5) 0 (k * 200) l (ax_fill (E 6) (k * 50) ((k + 1) * 50) 0))))] := ax_hs.call (rest := [cSt s0 n E, cRk n nn gg C, cOr n nn gg f, (n + 266, .inr (4, [.ref (n + 264), .ref n, .ref (n + 267), .int (nI l), .ref (n + 268), .ref (n + 269), .ref (n + 270), .ref (n + 271), .int (E 4 8), .int (E 4 9), .int (E 4 10), .int (E 4 11), .int (E 4 12), .int (E 4 13), .int (E 4 14), .int (E 4 15)])), cEr n 7 2 E, cAk n, cEr n 9 512 E, cNa n nn, cEr n 0 48 E, cEr n 1 961 E, cTs n gg E TK, cEr n 59 48 E, cEr n 60 48 E, cEr n 61 48 E, cEr n 62 2400 E, cEr n 63 512 E, cEr n 64 961 E, cEr n 65 961 E]) [4, 5] [0, 1, 2, 3, 6, 7, 8, 9, 10, 11, 12, 13, 14, 15, 16, 17, 18, 19] hF qf qF rfl rfl rfl [5] rfl rfl [4, 5] (news := []) rfl rfl (fun _ z => absurd z List.not_mem_nil) rfl
  replace hF := hF.sub (F' := [cSt s0 n E, cRk n nn gg C, cOr n nn gg f, (n + 266, .inr (4, [.ref (n + 264), .ref n, .ref (n + 267), .int (nI l), .ref (n + 268), .ref (n + 269), .ref (n + 270), .ref (n + 271), .int (E 4 8), .int (E 4 9), .int (E 4 10), .int (E 4 11), .int (E 4 12), .int (E 4 13), .int (E 4 14), .int (E 4 15)])), cEr n 5 512 E, (n + 268, .inl (0, 100, .inl (mvF (E 5) 0 (k * 200) l (ax_fill (E 6) (k * 50) ((k + 1) * 50) 0)))), cEr n 7 2 E, cAk n, cEr n 9 512 E, cNa n nn, cEr n 0 48 E, cEr n 1 961 E, cTs n gg E TK, cEr n 59 48 E, cEr n 60 48 E, cEr n 61 48 E, cEr n 62 2400 E, cEr n 63 512 E, cEr n 64 961 E, cEr n 65 961 E]) [0, 1, 2, 3, 18, 19, 4, 5, 6, 7, 8, 9, 10, 11, 12, 13, 14, 15, 16, 17] rfl rfl
  replace hN := hN.fr qf (fun x hx z => by simp only [List.mem_cons, List.not_mem_nil, or_false] at z; unfold NTA at hx; omega)
  replace hA := hA.fr qf (fun x hx z => by simp only [List.mem_cons, List.not_mem_nil, or_false] at z; omega)
  replace hf := hf.trC qf (fun x _ z => Or.inr (by simp only [List.mem_cons, List.not_mem_nil, or_false] at z; omega))
  replace hn : hp_2.1 = h0.1 := by omega
  replace hs : hp_2.2.1 = h0.2.1 := by omega
  clear qF qn qs qf
  refine ar_aload_n 40 d_42_39 rfl rfl ?_
  refine ar_getf 43 d_42_40 rfl (ci := 4) (k := 5) rfl (hF.at 3 rfl) rfl ?_
  refine ar_iload_n 44 d_42_43 rfl rfl ?_
  refine ar_aload_n 45 d_42_44 rfl rfl ?_
  refine ar_getf 48 d_42_45 rfl (ci := 4) (k := 3) rfl (hF.at 3 rfl) rfl ?_
  refine ar_iast 49 d_42_48 rfl (hF.at 6 rfl) (vin (by omega) (by omega)) ?_
  replace hF : ax_hs (ax_put hp_2 (n + 269) (.inl (0, 2, .inl (upd (E 7) (nI k).toNatClampNeg (nI l))))) [cSt s0 n E, cRk n nn gg C, cOr n nn gg f, (n + 266, .inr (4, [.ref (n + 264), .ref n, .ref (n + 267), .int (nI l), .ref (n + 268), .ref (n + 269), .ref (n + 270), .ref (n + 271), .int (E 4 8), .int (E 4 9), .int (E 4 10), .int (E 4 11), .int (E 4 12), .int (E 4 13), .int (E 4 14), .int (E 4 15)])), cEr n 5 512 E, (n + 268, .inl (0, 100, .inl (mvF (E 5) 0 (k * 200) l (ax_fill (E 6) (k * 50) ((k + 1) * 50) 0)))), (n + 269, .inl (0, 2, .inl (upd (E 7) (nI k).toNatClampNeg (nI l)))), cAk n, cEr n 9 512 E, cNa n nn, cEr n 0 48 E, cEr n 1 961 E, cTs n gg E TK, cEr n 59 48 E, cEr n 60 48 E, cEr n 61 48 E, cEr n 62 2400 E, cEr n 63 512 E, cEr n 64 961 E, cEr n 65 961 E] := hF.put 6 _ rfl rfl
  replace hf := hf.put (a := n + 269) (c := .inl (0, 2, .inl (upd (E 7) (nI k).toNatClampNeg (nI l)))) (Or.inr (by omega))
  replace hN := hN.put (a := n + 269) (c := .inl (0, 2, .inl (upd (E 7) (nI k).toNatClampNeg (nI l)))) (by omega)
  replace hA := hA.put (a := n + 269) (c := .inl (0, 2, .inl (upd (E 7) (nI k).toNatClampNeg (nI l)))) (by omega)
  replace hn : (ax_put hp_2 (n + 269) (.inl (0, 2, .inl (upd (E 7) (nI k).toNatClampNeg (nI l))))).1 = h0.1 := hn
  replace hs : (ax_put hp_2 (n + 269) (.inl (0, 2, .inl (upd (E 7) (nI k).toNatClampNeg (nI l))))).2.1 = h0.2.1 := hs
  generalize ax_put hp_2 (n + 269) (.inl (0, 2, .inl (upd (E 7) (nI k).toNatClampNeg (nI l)))) = hp_3 at hF hf hA hN hn hs ⊢
  replace hF : ax_hs hp_3 [cSt s0 n E, cRk n nn gg C, cOr n nn gg f, (n + 266, .inr (4, [.ref (n + 264), .ref n, .ref (n + 267), .int (nI l), .ref (n + 268), .ref (n + 269), .ref (n + 270), .ref (n + 271), .int (E 4 8), .int (E 4 9), .int (E 4 10), .int (E 4 11), .int (E 4 12), .int (E 4 13), .int (E 4 14), .int (E 4 15)])), cEr n 5 512 E, (n + 268, .inl (0, 100, .inl (mvF (E 5) 0 (k * 200) l (ax_fill (E 6) (k * 50) ((k + 1) * 50) 0)))), (n + 269, .inl (0, 2, .inl (upd (E 7) k (nI l)))), cAk n, cEr n 9 512 E, cNa n nn, cEr n 0 48 E, cEr n 1 961 E, cTs n gg E TK, cEr n 59 48 E, cEr n 60 48 E, cEr n 61 48 E, cEr n 62 2400 E, cEr n 63 512 E, cEr n 64 961 E, cEr n 65 961 E] := by
    have e := hF
    rw [nI_clamp (show k < 2 ^ 31 by omega)] at e
    exact e
  refine ar_aload_n 50 d_42_49 rfl rfl ?_
  refine ar_iconst 51 (v := 0) d_42_50 rfl (by decide) ?_
  refine ar_putf 54 [.ref (n + 264), .ref n, .ref (n + 267), .int 0, .ref (n + 268), .ref (n + 269), .ref (n + 270), .ref (n + 271), .int (E 4 8), .int (E 4 9), .int (E 4 10), .int (E 4 11), .int (E 4 12), .int (E 4 13), .int (E 4 14), .int (E 4 15)] d_42_51 rfl (ci := 4) (k := 3) rfl rfl (hF.at 3 rfl) (Nat.le_of_ble_eq_true rfl) rfl rfl rfl ?_
  replace hF : ax_hs (ax_put hp_3 (n + 266) (.inr (4, [.ref (n + 264), .ref n, .ref (n + 267), .int 0, .ref (n + 268), .ref (n + 269), .ref (n + 270), .ref (n + 271), .int (E 4 8), .int (E 4 9), .int (E 4 10), .int (E 4 11), .int (E 4 12), .int (E 4 13), .int (E 4 14), .int (E 4 15)]))) [cSt s0 n E, cRk n nn gg C, cOr n nn gg f, (n + 266, .inr (4, [.ref (n + 264), .ref n, .ref (n + 267), .int 0, .ref (n + 268), .ref (n + 269), .ref (n + 270), .ref (n + 271), .int (E 4 8), .int (E 4 9), .int (E 4 10), .int (E 4 11), .int (E 4 12), .int (E 4 13), .int (E 4 14), .int (E 4 15)])), cEr n 5 512 E, (n + 268, .inl (0, 100, .inl (mvF (E 5) 0 (k * 200) l (ax_fill (E 6) (k * 50) ((k + 1) * 50) 0)))), (n + 269, .inl (0, 2, .inl (upd (E 7) k (nI l)))), cAk n, cEr n 9 512 E, cNa n nn, cEr n 0 48 E, cEr n 1 961 E, cTs n gg E TK, cEr n 59 48 E, cEr n 60 48 E, cEr n 61 48 E, cEr n 62 2400 E, cEr n 63 512 E, cEr n 64 961 E, cEr n 65 961 E] := hF.put 3 _ rfl rfl
  replace hf := hf.put (a := n + 266) (c := .inr (4, [.ref (n + 264), .ref n, .ref (n + 267), .int 0, .ref (n + 268), .ref (n + 269), .ref (n + 270), .ref (n + 271), .int (E 4 8), .int (E 4 9), .int (E 4 10), .int (E 4 11), .int (E 4 12), .int (E 4 13), .int (E 4 14), .int (E 4 15)])) (Or.inr (by omega))
  replace hN := hN.put (a := n + 266) (c := .inr (4, [.ref (n + 264), .ref n, .ref (n + 267), .int 0, .ref (n + 268), .ref (n + 269), .ref (n + 270), .ref (n + 271), .int (E 4 8), .int (E 4 9), .int (E 4 10), .int (E 4 11), .int (E 4 12), .int (E 4 13), .int (E 4 14), .int (E 4 15)])) (by omega)
  replace hA := hA.put (a := n + 266) (c := .inr (4, [.ref (n + 264), .ref n, .ref (n + 267), .int 0, .ref (n + 268), .ref (n + 269), .ref (n + 270), .ref (n + 271), .int (E 4 8), .int (E 4 9), .int (E 4 10), .int (E 4 11), .int (E 4 12), .int (E 4 13), .int (E 4 14), .int (E 4 15)])) (by omega)
  replace hn : (ax_put hp_3 (n + 266) (.inr (4, [.ref (n + 264), .ref n, .ref (n + 267), .int 0, .ref (n + 268), .ref (n + 269), .ref (n + 270), .ref (n + 271), .int (E 4 8), .int (E 4 9), .int (E 4 10), .int (E 4 11), .int (E 4 12), .int (E 4 13), .int (E 4 14), .int (E 4 15)]))).1 = h0.1 := hn
  replace hs : (ax_put hp_3 (n + 266) (.inr (4, [.ref (n + 264), .ref n, .ref (n + 267), .int 0, .ref (n + 268), .ref (n + 269), .ref (n + 270), .ref (n + 271), .int (E 4 8), .int (E 4 9), .int (E 4 10), .int (E 4 11), .int (E 4 12), .int (E 4 13), .int (E 4 14), .int (E 4 15)]))).2.1 = h0.2.1 := hs
  generalize ax_put hp_3 (n + 266) (.inr (4, [.ref (n + 264), .ref n, .ref (n + 267), .int 0, .ref (n + 268), .ref (n + 269), .ref (n + 270), .ref (n + 271), .int (E 4 8), .int (E 4 9), .int (E 4 10), .int (E 4 11), .int (E 4 12), .int (E 4 13), .int (E 4 14), .int (E 4 15)])) = hp_4 at hF hf hA hN hn hs ⊢
  refine ar_aload_n 55 d_42_54 rfl rfl ?_
  refine ar_getf 58 d_42_55 rfl (ci := 4) (k := 5) rfl (hF.at 3 rfl) rfl ?_
  refine ar_iload_n 59 d_42_58 rfl rfl ?_
  refine ar_iald 60 d_42_59 rfl (hF.at 6 rfl) (vin (by omega) (by omega)) ?_
  refine ar_top (x' := nI l) (by rw [nI_clamp (show k < 2 ^ 31 by omega)]; exact if_pos rfl) ?_
  have hS9 : AS s0 n nn gg C f q u b h0 hp_4 (va_up (va_up (va_up E 4 (upd (E 4) 3 0)) 6 (mvF (E 5) 0 (k * 200) l (ax_fill (E 6) (k * 50) ((k + 1) * 50) 0))) 7 (upd (E 7) k (nI l))) TK Q ms := ⟨hF, hA, hN, hf, hn, hs, hp0⟩
  exact ar_iret d_42_60 rfl rfl (⟨rfl, hS9⟩)
theorem two_of {x : Int32} (h1 : ¬ x < 0) (h2 : ¬ 1 < x) : ∃ k : Nat, k < 2 ∧ x = nI k := by
  have e := nI_cl h1
  refine ⟨x.toNatClampNeg, ?_, e⟩
  refine Nat.lt_of_not_le (fun z => h2 ?_)
  rw [e]
  exact nI_lt (a := 1) (by omega) (Int32.toNatClampNeg_lt x)
theorem natOf {x : Int32} (h1 : ¬ x < 0) : ∃ k : Nat, k < 2 ^ 31 ∧ x = nI k := ⟨x.toNatClampNeg, Int32.toNatClampNeg_lt x, nI_cl h1⟩
theorem natLt {x : Int32} {c : Nat} (h1 : ¬ x < 0) (hc : c < 2 ^ 31) (h2 : x < nI c) : ∃ k : Nat, k < c ∧ x = nI k := by
  obtain ⟨k, hk, rfl⟩ := natOf h1
  exact ⟨k, (nI_ltI hk hc).mp h2, rfl⟩
set_option maxRecDepth 100000 in
theorem ek_41 {L : Nat} {xs : Nat → Int32} {fr lo : Nat} {s0 n nn gg : Nat} {C : Int32} {f : Nat → Int32} {q : Nat} {u b : Nat → Int32} {h0 h : ax_H} {E : Nat → Nat → Int32} {TK : Int64} {Q : Nat → Mg} {ms : List Mg} {x : Int32} (hfr : 3 ≤ fr) (hlo : 110 ≤ lo) (hC : CG s0 n nn gg f) (hS : AS s0 n nn gg C f q u b h0 h E TK Q ms) {l : Nat} (e3 : E 4 3 = nI l) (hl : l ≤ 2048) : ax_M L xs 41 fr lo [.ref s0, .int x] h (fun r h' => ((x < 0 ∨ 1 < x ∨ 200 < l) ∧ r = some (.int (-1)) ∧ AS s0 n nn gg C f q u b h0 h' E TK Q ms) ∨ (∃ k : Nat, k < 2 ∧ l ≤ 200 ∧ x = nI k ∧ r = some (.int (nI l)) ∧ AS s0 n nn gg C f q u b h0 h' (nmE E k l) TK Q ms)) := by
  have hC0 := hC
  show ax_A (ax_step L xs) ((41, 0, fr, lo), [(0, .ref s0), (1, .int x)], [], h) _
  obtain ⟨hs0, hsn, hnn3, hnn, hgg1, hgg, hRg⟩ := hC
  obtain ⟨hF, hA, hN, hf, hn, hs, hp0⟩ := hS
  replace hF : ax_hs h [cSt s0 n E, cRk n nn gg C, cOr n nn gg f, cAs n E, cEr n 5 512 E, cEr n 6 100 E, cEr n 7 2 E, cAk n, cEr n 9 512 E, cNa n nn, cEr n 0 48 E, cEr n 1 961 E, cTs n gg E TK, cEr n 59 48 E, cEr n 60 48 E, cEr n 61 48 E, cEr n 62 2400 E, cEr n 63 512 E, cEr n 64 961 E, cEr n 65 961 E] := hF
  refine ar_iload_n 1 d_41_0 rfl rfl ?_
  refine ar_if_lt 22 4 d_41_1 (by decide) rfl (fun c1 => ?_) (fun c1 => ?_)
  · refine ar_iconst 23 (v := -1) d_41_22 rfl (by decide) ?_
    have hS9 : AS s0 n nn gg C f q u b h0 h E TK Q ms := ⟨hF, hA, hN, hf, hn, hs, hp0⟩
    exact ar_iret d_41_23 rfl rfl (Or.inl ⟨Or.inl c1, rfl, hS9⟩)
  · refine ar_iload_n 5 d_41_4 rfl rfl ?_
    refine ar_iconst 6 (v := 1) d_41_5 rfl (by decide) ?_
    refine ar_icmp_gt 22 9 d_41_6 (by decide) rfl (fun c2 => ?_) (fun c2 => ?_)
    · refine ar_iconst 23 (v := -1) d_41_22 rfl (by decide) ?_
      have hS9 : AS s0 n nn gg C f q u b h0 h E TK Q ms := ⟨hF, hA, hN, hf, hn, hs, hp0⟩
      exact ar_iret d_41_23 rfl rfl (Or.inl ⟨Or.inr (Or.inl c2), rfl, hS9⟩)
    · refine ar_aload_n 10 d_41_9 rfl rfl ?_
      refine ar_getf 13 d_41_10 rfl (ci := 0) (k := 2) rfl (hF.at 0 rfl) rfl ?_
      refine ar_getf 16 d_41_13 rfl (ci := 4) (k := 3) rfl (hF.at 3 rfl) rfl ?_
      refine ar_top (x' := nI l) (e3) ?_
      refine ar_sipush 19 (v := 200) d_41_16 rfl (by decide) ?_
      refine ar_icmp_le 24 22 d_41_19 (by decide) rfl (fun c3 => ?_) (fun c3 => ?_)
      · have hl2 : l ≤ 200 := (nI_leI (by omega) (by decide)).mp (show nI l ≤ nI 200 from c3)
        obtain ⟨k, hk, rfl⟩ : ∃ k : Nat, k < 2 ∧ x = nI k := two_of c1 c2
        refine ar_aload_n 25 d_41_24 rfl rfl ?_
        refine ar_getf 28 d_41_25 rfl (ci := 0) (k := 2) rfl (hF.at 0 rfl) rfl ?_
        refine ar_iload_n 29 d_41_28 rfl rfl ?_
        have hS1 : AS s0 n nn gg C f q u b h0 h E TK Q ms := ⟨hF, hA, hN, hf, hn, hs, hp0⟩
        refine ar_call (r := []) (na := 0) (kd := 0) (cm := 42) (fr2 := fr - 1) (lo2 := lo - 21) 32 d_41_29 (ar_hoV (as := [.int (nI k)]) rfl rfl rfl (hF.at 3 rfl)) rfl (by omega) (show lo - 21 + (19 + 2) = lo by omega) (Nat.le_of_ble_eq_true rfl) (Nat.le_of_ble_eq_true rfl) (ek_42 (by omega) (by omega) hC0 hS1 e3 hl2 hk) ?_
        intro v hp_1 hq
        obtain ⟨rfl, hS2⟩ := hq
        clear hS1 hF hA hN hf hn hs hp0
        obtain ⟨hF, hA, hN, hf, hn, hs, hp0⟩ := hS2
        replace hF : ax_hs hp_1 [cSt s0 n (nmE E k l), cRk n nn gg C, cOr n nn gg f, cAs n (nmE E k l), cEr n 5 512 (nmE E k l), cEr n 6 100 (nmE E k l), cEr n 7 2 (nmE E k l), cAk n, cEr n 9 512 (nmE E k l), cNa n nn, cEr n 0 48 (nmE E k l), cEr n 1 961 (nmE E k l), cTs n gg (nmE E k l) TK, cEr n 59 48 (nmE E k l), cEr n 60 48 (nmE E k l), cEr n 61 48 (nmE E k l), cEr n 62 2400 (nmE E k l), cEr n 63 512 (nmE E k l), cEr n 64 961 (nmE E k l), cEr n 65 961 (nmE E k l)] := hF
        have hS9 : AS s0 n nn gg C f q u b h0 hp_1 (nmE E k l) TK Q ms := ⟨hF, hA, hN, hf, hn, hs, hp0⟩
        exact ar_iret d_41_32 rfl rfl (Or.inr ⟨k, hk, hl2, rfl, rfl, hS9⟩)
      · refine ar_iconst 23 (v := -1) d_41_22 rfl (by decide) ?_
        have hS9 : AS s0 n nn gg C f q u b h0 h E TK Q ms := ⟨hF, hA, hN, hf, hn, hs, hp0⟩
        exact ar_iret d_41_23 rfl rfl (Or.inl ⟨Or.inr (Or.inr (Nat.lt_of_not_le (fun z => c3 (show nI l ≤ nI 200 from nI_le z (by decide))))), rfl, hS9⟩)


/-! readCatalogue for every state -/

def keE (E E1 : Nat → Nat → Int32) : Prop := (E1 4 = E 4 ∧ E1 5 = E 5 ∧ E1 6 = E 6 ∧ E1 7 = E 7 ∧ E1 9 = E 9 ∧ E1 100 9 = E 100 9 ∧ E1 100 10 = E 100 10)
theorem EI.ke {Z : ZT} {E E1 : Nat → Nat → Int32} {Q : Nat → Mg} (h : EI Z E Q) (k : keE E E1) : EI Z E1 Q := by
  unfold EI
  rw [k.1, k.2.2.2.1]
  exact h
theorem CI.ke {Z : ZT} {E E1 : Nat → Nat → Int32} (h : CI Z E) (k : keE E E1) (hT : TI Z (E1 58 9) (E1 59) (E1 60) (E1 61) (E1 63) (E1 64)) (ho : orI E1) : CI Z E1 := ⟨hT, ho, by rw [k.2.2.2.2.2.2]; exact h.2.2⟩
def srE (E : Nat → Nat → Int32) (i : Nat) : Nat → Nat → Int32 := va_up E 0 (srF (E 62) (E 61) i i (E 0))
def ctS (g : Nat → Int32) : Nat → Nat → (Nat → Nat → Int32) → Int64 → (Nat → Nat → Int32) × Int64
  | 0, _, E1, TK1 => (E1, TK1)
  | k + 1, i, E1, TK1 => if (fst1 (fun i_1 => decide (g (i_1 * 128 + 1) = tgA (E1 59) (E1 64) (i * 20 + 19) ∧ ¬ fstB (g (i_1 * 128)) = 0 ∧ fstB (g (i_1 * 128)) = lstB (g (i_1 * 128 + 127)))) 280 0) = -1 then ctS g k (i + 1) (srE (va_up E1 100 (upd (upd (E1 100) 7 ((E1 100 7) + ((E1 60) (nI i).toNatClampNeg))) 8 ((E1 100 8) + (nI (laidS (E1 64) (i * 20) 19 0 0))))) i) TK1 else bnN ((fst1 (fun i_1 => decide (g (i_1 * 128 + 1) = tgA (E1 59) (E1 64) (i * 20 + 19) ∧ ¬ fstB (g (i_1 * 128)) = 0 ∧ fstB (g (i_1 * 128)) = lstB (g (i_1 * 128 + 127)))) 280 0)).toNatClampNeg (fun s => bn5 (rcF (E1 60) (E1 61) (E1 62) (E1 64) TK1 (E1 63) g (s * 128)) (fun zf1 nf1 mf1 vf1 kn1 => ctS g k (i + 1) (srE (va_up (va_up (va_up (va_up (va_up E1 100 (upd (upd (E1 100) 7 ((E1 100 7) + (zf1 (nI i).toNatClampNeg))) 8 ((E1 100 8) + (nI (laidS vf1 (i * 20) 19 0 0))))) 60 zf1) 61 nf1) 62 mf1) 64 vf1) i) kn1))
/-- readCatalogue -/
def ctF (nn : Nat) (f : Nat → Int32) (E : Nat → Nat → Int32) (TK : Int64) (D : Nat → Nat → Nat → Int32) : (Nat → Nat → Int32) × Int64 :=
  if (0 : Int32) ≤ nof f 0 (E 4 14) nn 0 0 then bnN (nof f 0 (E 4 14) nn 0 0).toNatClampNeg (fun j => if skR (D j 2) 280 0 (-1) = -1 then ctS (D j 2) 0 0 (va_up (va_up (va_up (va_up (va_up (va_up (va_up E 100 (upd (upd (E 100) 7 0) 8 0)) 58 (upd (upd (E 58) 9 0) 10 0)) 59 (ax_fill (E 59) 0 48 (-1))) 60 (ax_fill (E 60) 0 48 0)) 63 (ax_fill (E 63) 0 512 (-1))) 64 (ax_fill (E 64) 0 961 (-1))) 65 (ax_fill (E 65) 0 961 0)) 0 else bnN (skR (D j 2) 280 0 (-1)).toNatClampNeg (fun s => bnN (clI (D j 2 (s * 128 + 15)) 0 48).toNatClampNeg (fun cf => ctS (D j 2) (cN (rrJ (D j 2) (s * 128) (ax_fill (ax_fill (E 59) 0 48 (-1)) 0 48 (-1)) cf) 48) 0 (va_up (va_up (va_up (va_up (va_up (va_up (va_up E 100 (upd (upd (E 100) 7 0) 8 0)) 58 (upd (upd (E 58) 9 (nI cf)) 10 (D j 2 (s * 128 + 16)))) 59 (rrJ (D j 2) (s * 128) (ax_fill (ax_fill (E 59) 0 48 (-1)) 0 48 (-1)) cf)) 60 (ax_fill (ax_fill (E 60) 0 48 0) 0 48 0)) 63 (rrO (D j 2) (s * 128) (ax_fill (ax_fill (E 63) 0 512 (-1)) 0 512 (-1)) cf)) 64 (rrV (D j 2) (s * 128) (upd (ax_fill (ax_fill (E 64) 0 961 (-1)) 0 961 (-1)) 960 ((D j 2 (s * 128 + 1)) - (D j 2 (s * 128 + 1)) / 512 * 512)) cf)) 65 (ax_fill (ax_fill (E 65) 0 961 0) 0 961 0)) 0)))
  else (va_up (va_up (va_up (va_up (va_up (va_up (va_up E 100 (upd (upd (E 100) 7 0) 8 0)) 58 (upd (upd (E 58) 9 0) 10 0)) 59 (ax_fill (E 59) 0 48 (-1))) 60 (ax_fill (E 60) 0 48 0)) 63 (ax_fill (E 63) 0 512 (-1))) 64 (ax_fill (E 64) 0 961 (-1))) 65 (ax_fill (E 65) 0 961 0), 0)
set_option maxRecDepth 100000 in
theorem g_154 {L : Nat} {xs : Nat → Int32} {fr lo : Nat} {s0 n nn gg : Nat} {C : Int32} {f : Nat → Int32} {q : Nat} {u b : Nat → Int32} {h0 h : ax_H} {Z : ZT} {D : Nat → Nat → Nat → Int32} {K A : Nat → Int64} {E : Nat → Nat → Int32} {TK : Int64} {Q : Nat → Mg} {ms : List Mg}  (hfr : 5 ≤ fr) (hlo : 200 ≤ lo) (hC : CG s0 n nn gg f) (hG : GS Z s0 n nn gg C f q u b h0 h E TK Q ms D K A) : ax_M L xs 154 fr lo [.ref s0] h (fun r h' => r = none ∧ ∃ (E1 : Nat → Nat → Int32) (TK1 : Int64), GS Z s0 n nn gg C f q u b h0 h' E1 TK1 Q ms D K A ∧ keE E E1 ∧ (E1, TK1) = ctF nn f E TK D) := by
  have hC0 := hC
  obtain ⟨hs0, hsn, hnn3, hnn, hgg1, hgg, hRg⟩ := hC
  obtain ⟨hS, hG0, hM, hE, hK, hz⟩ := hG
  generalize ehb : h = hb at hS hG0 hz ⊢
  have key : ∀ (j : Nat), j < nn → ∀ (k i fl : Nat) (h : ax_H) (E1 : Nat → Nat → Int32) (TK1 : Int64), i + k = fl → fl ≤ 48 → E1 58 9 = nI fl → AS s0 n nn gg C f q u b hb h E1 TK1 Q ms → TI Z (E1 58 9) (E1 59) (E1 60) (E1 61) (E1 63) (E1 64) → orI E1 → keE E E1 → ax_A (ax_step L xs) ((154, 77, fr, lo), [(0, .ref s0), (2, .ref (n + 329 + 22 * j + 1)), (4, .int (nI i))], [], h) (fun r h' => r = none ∧ ∃ (E9 : Nat → Nat → Int32) (TK9 : Int64), GS Z s0 n nn gg C f q u b h0 h' E9 TK9 Q ms D K A ∧ keE E E9 ∧ (E9, TK9) = ctS (D j 2) k i E1 TK1) := by
    intro j hj k
    have hdi := (hG0 j hj).2.1.1
    induction k with
    | zero =>
      intro i fl h E1 TK1 hi hfl e58 hS hT ho hke
      have e0 : fl = i := by omega
      subst e0
      obtain ⟨hF, hA, hN, hf, hn, hs, hp0⟩ := hS
      replace hF : ax_hs h [cSt s0 n E1, cRk n nn gg C, cOr n nn gg f, cAs n E1, cEr n 5 512 E1, cEr n 6 100 E1, cEr n 7 2 E1, cAk n, cEr n 9 512 E1, cNa n nn, cEr n 0 48 E1, cEr n 1 961 E1, cTs n gg E1 TK1, cEr n 59 48 E1, cEr n 60 48 E1, cEr n 61 48 E1, cEr n 62 2400 E1, cEr n 63 512 E1, cEr n 64 961 E1, cEr n 65 961 E1] := hF
      refine ar_iload 79 d_154_77 rfl rfl ?_
      refine ar_aload_n 80 d_154_79 rfl rfl ?_
      refine ar_getf 83 d_154_80 rfl (ci := 0) (k := 4) rfl (hF.at 0 rfl) rfl ?_
      refine ar_getf 86 d_154_83 rfl (ci := 6) (k := 9) rfl (hF.at 12 rfl) rfl ?_
      refine ar_top (x' := nI fl) (e58) ?_
      refine ar_icmp_ge 181 89 d_154_86 (by decide) rfl (fun _ => ?_) (fun c => absurd (Int32.le_refl _) c)
      have hS1 : AS s0 n nn gg C f q u b hb h E1 TK1 Q ms := ⟨hF, hA, hN, hf, hn, hs, hp0⟩
      exact ar_ret d_154_181 rfl (⟨rfl, E1, TK1, GS.as hsn hz hG0 hS1 hM (hE.ke hke) (hK.ke hke hT ho), hke, rfl⟩)
    | succ k ih =>
      intro i fl h E1 TK1 hi hfl e58 hS hT ho hke
      have hic : i < fl := by omega
      obtain ⟨hF, hA, hN, hf, hn, hs, hp0⟩ := hS
      replace hF : ax_hs h [cSt s0 n E1, cRk n nn gg C, cOr n nn gg f, cAs n E1, cEr n 5 512 E1, cEr n 6 100 E1, cEr n 7 2 E1, cAk n, cEr n 9 512 E1, cNa n nn, cEr n 0 48 E1, cEr n 1 961 E1, cTs n gg E1 TK1, cEr n 59 48 E1, cEr n 60 48 E1, cEr n 61 48 E1, cEr n 62 2400 E1, cEr n 63 512 E1, cEr n 64 961 E1, cEr n 65 961 E1] := hF
      refine ar_iload 79 d_154_77 rfl rfl ?_
      refine ar_aload_n 80 d_154_79 rfl rfl ?_
      refine ar_getf 83 d_154_80 rfl (ci := 0) (k := 4) rfl (hF.at 0 rfl) rfl ?_
      refine ar_getf 86 d_154_83 rfl (ci := 6) (k := 9) rfl (hF.at 12 rfl) rfl ?_
      refine ar_top (x' := nI fl) (e58) ?_
      refine ar_icmp_ge 181 89 d_154_86 (by decide) rfl (fun c => absurd c (nI_ge hic (by omega))) (fun _ => ?_)
      refine ar_aload_n 90 d_154_89 rfl rfl ?_
      refine ar_aload_n 91 d_154_90 rfl rfl ?_
      refine ar_getf 94 d_154_91 rfl (ci := 0) (k := 4) rfl (hF.at 0 rfl) rfl ?_
      refine ar_iload 96 d_154_94 rfl rfl ?_
      refine ar_bipush 98 (v := 20) d_154_96 rfl (by decide) ?_
      refine ar_imul 99 d_154_98 rfl ?_
      refine ar_top (x' := nI (i * 20)) (pk_mul i 20) ?_
      refine ar_bipush 101 (v := 19) d_154_99 rfl (by decide) ?_
      refine ar_iadd 102 d_154_101 rfl ?_
      refine ar_top (x' := nI (i * 20 + 19)) (nI_add _ 19) ?_
      refine ar_call (r := [.ref (n + 329 + 22 * j + 1)]) (na := 0) (kd := 0) (cm := 116) (fr2 := fr - 1) (lo2 := lo - 22) 105 d_154_102 (ar_hoV (as := [.int (nI (i * 20 + 19))]) rfl rfl rfl (hF.at 12 rfl)) rfl (by omega) (show lo - 22 + (19 + 3) = lo by omega) (Nat.le_of_ble_eq_true rfl) (Nat.le_of_ble_eq_true rfl) (c_116 (a := i * 20 + 19) (by omega) (hF.at 12 rfl) (hF.at 13 rfl) (hF.at 18 rfl)) ?_
      intro v hh hq
      obtain ⟨rfl, ehh⟩ := hq
      rw [ehh]
      clear ehh
      refine ar_call (r := []) (na := 0) (kd := 0) (cm := 156) (fr2 := fr - 1) (lo2 := lo - 22) 108 d_154_105 (ar_hoV (as := [.int (tgA (E1 59) (E1 64) (i * 20 + 19))]) rfl rfl rfl (((hG0 j hj).1.fr hf (NWf (fun x hx z => by unfold ASA NTA at z; omega))).at 1 rfl)) rfl (by omega) (show lo - 22 + (19 + 3) = lo by omega) (Nat.le_of_ble_eq_true rfl) (Nat.le_of_ble_eq_true rfl) (c_156 (by omega) (by omega) (((hG0 j hj).1.fr hf (NWf (fun x hx z => by unfold ASA NTA at z; omega))).sub (F' := [cDk (n + 329 + 22 * j) (D j), cAr (n + 329 + 22 * j) 2 35840 (D j)]) [1, 2] rfl rfl)) ?_
      intro v hh hq
      obtain ⟨rfl, ehh⟩ := hq
      rw [ehh]
      clear ehh
      rcases fst1_ok (P := (fun i_1 => decide (D j 2 (i_1 * 128 + 1) = tgA (E1 59) (E1 64) (i * 20 + 19) ∧ ¬ fstB (D j 2 (i_1 * 128)) = 0 ∧ fstB (D j 2 (i_1 * 128)) = lstB (D j 2 (i_1 * 128 + 127))))) 280 with e | ⟨s, hs8, e, hsp⟩
      · refine ar_top (x' := -1) e ?_
        refine ar_istore 110 [(0, .ref s0), (2, .ref (n + 329 + 22 * j + 1)), (4, .int (nI i)), (5, .int (-1))] d_154_108 rfl (by decide) rfl ?_
        refine ar_iload 112 d_154_110 rfl rfl ?_
        refine ar_if_lt 132 115 d_154_112 (by decide) rfl (fun _ => ?_) (fun c => absurd (by decide) c)
        refine ar_wk [0, 1, 2] rfl (by simp) ?_
        refine ar_aload_n 133 d_154_132 rfl rfl ?_
        refine ar_dup 134 d_154_133 rfl rfl ?_
        refine ar_getf 137 d_154_134 rfl (ci := 0) (k := 7) rfl (hF.at 0 rfl) rfl ?_
        refine ar_aload_n 138 d_154_137 rfl rfl ?_
        refine ar_getf 141 d_154_138 rfl (ci := 0) (k := 4) rfl (hF.at 0 rfl) rfl ?_
        refine ar_getf 144 d_154_141 rfl (ci := 6) (k := 2) rfl (hF.at 12 rfl) rfl ?_
        refine ar_iload 146 d_154_144 rfl rfl ?_
        refine ar_iald 147 d_154_146 rfl (hF.at 14 rfl) (vin (by omega) (by decide)) ?_
        refine ar_iadd 148 d_154_147 rfl ?_
        refine ar_putf 151 [.ref (n + 264), .ref n, .ref (n + 266), .ref (n + 328), .ref (n + 320), .ref (n + 262), .ref (n + 263), .int ((E1 100 7) + ((E1 60) (nI i).toNatClampNeg)), .int (E1 100 8), .int (E1 100 9), .int (E1 100 10)] d_154_148 rfl (ci := 0) (k := 7) rfl rfl (hF.at 0 rfl) (Nat.le_of_ble_eq_true rfl) rfl rfl rfl ?_
        replace hF : ax_hs (ax_put h s0 (.inr (0, [.ref (n + 264), .ref n, .ref (n + 266), .ref (n + 328), .ref (n + 320), .ref (n + 262), .ref (n + 263), .int ((E1 100 7) + ((E1 60) (nI i).toNatClampNeg)), .int (E1 100 8), .int (E1 100 9), .int (E1 100 10)]))) [(s0, .inr (0, [.ref (n + 264), .ref n, .ref (n + 266), .ref (n + 328), .ref (n + 320), .ref (n + 262), .ref (n + 263), .int ((E1 100 7) + ((E1 60) (nI i).toNatClampNeg)), .int (E1 100 8), .int (E1 100 9), .int (E1 100 10)])), cRk n nn gg C, cOr n nn gg f, cAs n E1, cEr n 5 512 E1, cEr n 6 100 E1, cEr n 7 2 E1, cAk n, cEr n 9 512 E1, cNa n nn, cEr n 0 48 E1, cEr n 1 961 E1, cTs n gg E1 TK1, cEr n 59 48 E1, cEr n 60 48 E1, cEr n 61 48 E1, cEr n 62 2400 E1, cEr n 63 512 E1, cEr n 64 961 E1, cEr n 65 961 E1] := hF.put 0 _ rfl rfl
        replace hf := hf.put (a := s0) (c := .inr (0, [.ref (n + 264), .ref n, .ref (n + 266), .ref (n + 328), .ref (n + 320), .ref (n + 262), .ref (n + 263), .int ((E1 100 7) + ((E1 60) (nI i).toNatClampNeg)), .int (E1 100 8), .int (E1 100 9), .int (E1 100 10)])) (Or.inr (by omega))
        replace hN := hN.put (a := s0) (c := .inr (0, [.ref (n + 264), .ref n, .ref (n + 266), .ref (n + 328), .ref (n + 320), .ref (n + 262), .ref (n + 263), .int ((E1 100 7) + ((E1 60) (nI i).toNatClampNeg)), .int (E1 100 8), .int (E1 100 9), .int (E1 100 10)])) (by omega)
        replace hA := hA.put (a := s0) (c := .inr (0, [.ref (n + 264), .ref n, .ref (n + 266), .ref (n + 328), .ref (n + 320), .ref (n + 262), .ref (n + 263), .int ((E1 100 7) + ((E1 60) (nI i).toNatClampNeg)), .int (E1 100 8), .int (E1 100 9), .int (E1 100 10)])) (by omega)
        replace hn : (ax_put h s0 (.inr (0, [.ref (n + 264), .ref n, .ref (n + 266), .ref (n + 328), .ref (n + 320), .ref (n + 262), .ref (n + 263), .int ((E1 100 7) + ((E1 60) (nI i).toNatClampNeg)), .int (E1 100 8), .int (E1 100 9), .int (E1 100 10)]))).1 = hb.1 := hn
        replace hs : (ax_put h s0 (.inr (0, [.ref (n + 264), .ref n, .ref (n + 266), .ref (n + 328), .ref (n + 320), .ref (n + 262), .ref (n + 263), .int ((E1 100 7) + ((E1 60) (nI i).toNatClampNeg)), .int (E1 100 8), .int (E1 100 9), .int (E1 100 10)]))).2.1 = hb.2.1 := hs
        generalize ax_put h s0 (.inr (0, [.ref (n + 264), .ref n, .ref (n + 266), .ref (n + 328), .ref (n + 320), .ref (n + 262), .ref (n + 263), .int ((E1 100 7) + ((E1 60) (nI i).toNatClampNeg)), .int (E1 100 8), .int (E1 100 9), .int (E1 100 10)])) = hp_1 at hF hf hA hN hn hs ⊢
        refine ar_aload_n 152 d_154_151 rfl rfl ?_
        refine ar_dup 153 d_154_152 rfl rfl ?_
        refine ar_getf 156 d_154_153 rfl (ci := 0) (k := 8) rfl (hF.at 0 rfl) rfl ?_
        refine ar_aload_n 157 d_154_156 rfl rfl ?_
        refine ar_getf 160 d_154_157 rfl (ci := 0) (k := 4) rfl (hF.at 0 rfl) rfl ?_
        refine ar_iload 162 d_154_160 rfl rfl ?_
        refine ar_call (r := [.int (E1 100 8), .ref s0]) (na := 0) (kd := 0) (cm := 157) (fr2 := fr - 1) (lo2 := lo - 23) 165 d_154_162 (ar_hoV (as := [.int (nI i)]) rfl rfl rfl (hF.at 12 rfl)) rfl (by omega) (show lo - 23 + (19 + 4) = lo by omega) (Nat.le_of_ble_eq_true rfl) (Nat.le_of_ble_eq_true rfl) (c_157 (f := i) (by omega) (hF.at 12 rfl) (hF.at 18 rfl)) ?_
        intro v hh hq
        obtain ⟨rfl, ehh⟩ := hq
        rw [ehh]
        clear ehh
        refine ar_iadd 166 d_154_165 rfl ?_
        refine ar_putf 169 [.ref (n + 264), .ref n, .ref (n + 266), .ref (n + 328), .ref (n + 320), .ref (n + 262), .ref (n + 263), .int ((E1 100 7) + ((E1 60) (nI i).toNatClampNeg)), .int ((E1 100 8) + (nI (laidS (E1 64) (i * 20) 19 0 0))), .int (E1 100 9), .int (E1 100 10)] d_154_166 rfl (ci := 0) (k := 8) rfl rfl (hF.at 0 rfl) (Nat.le_of_ble_eq_true rfl) rfl rfl rfl ?_
        replace hF : ax_hs (ax_put hp_1 s0 (.inr (0, [.ref (n + 264), .ref n, .ref (n + 266), .ref (n + 328), .ref (n + 320), .ref (n + 262), .ref (n + 263), .int ((E1 100 7) + ((E1 60) (nI i).toNatClampNeg)), .int ((E1 100 8) + (nI (laidS (E1 64) (i * 20) 19 0 0))), .int (E1 100 9), .int (E1 100 10)]))) [(s0, .inr (0, [.ref (n + 264), .ref n, .ref (n + 266), .ref (n + 328), .ref (n + 320), .ref (n + 262), .ref (n + 263), .int ((E1 100 7) + ((E1 60) (nI i).toNatClampNeg)), .int ((E1 100 8) + (nI (laidS (E1 64) (i * 20) 19 0 0))), .int (E1 100 9), .int (E1 100 10)])), cRk n nn gg C, cOr n nn gg f, cAs n E1, cEr n 5 512 E1, cEr n 6 100 E1, cEr n 7 2 E1, cAk n, cEr n 9 512 E1, cNa n nn, cEr n 0 48 E1, cEr n 1 961 E1, cTs n gg E1 TK1, cEr n 59 48 E1, cEr n 60 48 E1, cEr n 61 48 E1, cEr n 62 2400 E1, cEr n 63 512 E1, cEr n 64 961 E1, cEr n 65 961 E1] := hF.put 0 _ rfl rfl
        replace hf := hf.put (a := s0) (c := .inr (0, [.ref (n + 264), .ref n, .ref (n + 266), .ref (n + 328), .ref (n + 320), .ref (n + 262), .ref (n + 263), .int ((E1 100 7) + ((E1 60) (nI i).toNatClampNeg)), .int ((E1 100 8) + (nI (laidS (E1 64) (i * 20) 19 0 0))), .int (E1 100 9), .int (E1 100 10)])) (Or.inr (by omega))
        replace hN := hN.put (a := s0) (c := .inr (0, [.ref (n + 264), .ref n, .ref (n + 266), .ref (n + 328), .ref (n + 320), .ref (n + 262), .ref (n + 263), .int ((E1 100 7) + ((E1 60) (nI i).toNatClampNeg)), .int ((E1 100 8) + (nI (laidS (E1 64) (i * 20) 19 0 0))), .int (E1 100 9), .int (E1 100 10)])) (by omega)
        replace hA := hA.put (a := s0) (c := .inr (0, [.ref (n + 264), .ref n, .ref (n + 266), .ref (n + 328), .ref (n + 320), .ref (n + 262), .ref (n + 263), .int ((E1 100 7) + ((E1 60) (nI i).toNatClampNeg)), .int ((E1 100 8) + (nI (laidS (E1 64) (i * 20) 19 0 0))), .int (E1 100 9), .int (E1 100 10)])) (by omega)
        replace hn : (ax_put hp_1 s0 (.inr (0, [.ref (n + 264), .ref n, .ref (n + 266), .ref (n + 328), .ref (n + 320), .ref (n + 262), .ref (n + 263), .int ((E1 100 7) + ((E1 60) (nI i).toNatClampNeg)), .int ((E1 100 8) + (nI (laidS (E1 64) (i * 20) 19 0 0))), .int (E1 100 9), .int (E1 100 10)]))).1 = hb.1 := hn
        replace hs : (ax_put hp_1 s0 (.inr (0, [.ref (n + 264), .ref n, .ref (n + 266), .ref (n + 328), .ref (n + 320), .ref (n + 262), .ref (n + 263), .int ((E1 100 7) + ((E1 60) (nI i).toNatClampNeg)), .int ((E1 100 8) + (nI (laidS (E1 64) (i * 20) 19 0 0))), .int (E1 100 9), .int (E1 100 10)]))).2.1 = hb.2.1 := hs
        generalize ax_put hp_1 s0 (.inr (0, [.ref (n + 264), .ref n, .ref (n + 266), .ref (n + 328), .ref (n + 320), .ref (n + 262), .ref (n + 263), .int ((E1 100 7) + ((E1 60) (nI i).toNatClampNeg)), .int ((E1 100 8) + (nI (laidS (E1 64) (i * 20) 19 0 0))), .int (E1 100 9), .int (E1 100 10)])) = hp_2 at hF hf hA hN hn hs ⊢
        refine ar_aload_n 170 d_154_169 rfl rfl ?_
        refine ar_iload 172 d_154_170 rfl rfl ?_
        have hS1 : AS s0 n nn gg C f q u b hb hp_2 (va_up E1 100 (upd (upd (E1 100) 7 ((E1 100 7) + ((E1 60) (nI i).toNatClampNeg))) 8 ((E1 100 8) + (nI (laidS (E1 64) (i * 20) 19 0 0))))) TK1 Q ms := ⟨hF, hA, hN, hf, hn, hs, hp0⟩
        refine ar_call (r := []) (na := 0) (kd := 0) (cm := 158) (fr2 := fr - 1) (lo2 := lo - 22) 175 d_154_172 (ar_hoV (as := [.int (nI i)]) rfl rfl rfl (hF.at 0 rfl)) rfl (by omega) (show lo - 22 + (19 + 3) = lo by omega) (Nat.le_of_ble_eq_true rfl) (Nat.le_of_ble_eq_true rfl) (ek_158 (by omega) (by omega) hC0 hS1 (show i < 48 by omega) ho) ?_
        intro v hp_3 hq
        obtain ⟨rfl, og, hS2, hog, hsr⟩ := hq
        clear hS1 hF hA hN hf hn hs hp0
        refine ar_iinc 178 [(0, .ref s0), (2, .ref (n + 329 + 22 * j + 1)), (4, .int (nI (i + 1)))] d_154_175 rfl rfl (nI_1 i) (by decide) rfl ?_
        refine ar_goto 77 d_154_178 (by decide) ?_
        subst hsr
        rw [← show ctS (D j 2) k (i + 1) (srE (va_up E1 100 (upd (upd (E1 100) 7 ((E1 100 7) + ((E1 60) (nI i).toNatClampNeg))) 8 ((E1 100 8) + (nI (laidS (E1 64) (i * 20) 19 0 0))))) i) TK1 = ctS (D j 2) (k + 1) i E1 TK1 from eq_ifT e rfl]
        exact ih (i + 1) fl hp_3 (srE (va_up E1 100 (upd (upd (E1 100) 7 ((E1 100 7) + ((E1 60) (nI i).toNatClampNeg))) 8 ((E1 100 8) + (nI (laidS (E1 64) (i * 20) 19 0 0))))) i) TK1 (by omega) hfl e58 hS2 hT hog hke
      · refine ar_top (x' := nI s) e ?_
        have hsw := (of_decide_eq_true hsp).2
        refine ar_istore 110 [(0, .ref s0), (2, .ref (n + 329 + 22 * j + 1)), (4, .int (nI i)), (5, .int (nI s))] d_154_108 rfl (by decide) rfl ?_
        refine ar_iload 112 d_154_110 rfl rfl ?_
        refine ar_if_lt 132 115 d_154_112 (by decide) rfl (fun c => absurd c (nI_pos (by omega))) (fun _ => ?_)
        refine ar_aload_n 116 d_154_115 rfl rfl ?_
        refine ar_getf 119 d_154_116 rfl (ci := 0) (k := 4) rfl (hF.at 0 rfl) rfl ?_
        refine ar_aload_n 120 d_154_119 rfl rfl ?_
        refine ar_getf 123 d_154_120 rfl (ci := 8) (k := 0) rfl (((hG0 j hj).1.fr hf (NWf (fun x hx z => by unfold ASA NTA at z; omega))).at 1 rfl) rfl ?_
        refine ar_iload 125 d_154_123 rfl rfl ?_
        refine ar_sipush 128 (v := 128) d_154_125 rfl (by decide) ?_
        refine ar_imul 129 d_154_128 rfl ?_
        refine ar_top (x' := nI (s * 128)) (pk_mul s 128) ?_
        replace hF : ax_hs h [(n + 329 + 22 * j + 2, .inl (0, 35840, .inl (D j 2))), cSt s0 n E1, cRk n nn gg C, cOr n nn gg f, cAs n E1, cEr n 5 512 E1, cEr n 6 100 E1, cEr n 7 2 E1, cAk n, cEr n 9 512 E1, cNa n nn, cEr n 0 48 E1, cEr n 1 961 E1, cTs n gg E1 TK1, cEr n 59 48 E1, cEr n 60 48 E1, cEr n 61 48 E1, cEr n 62 2400 E1, cEr n 63 512 E1, cEr n 64 961 E1, cEr n 65 961 E1] := hF.ncell (farL (n := n) (s0 := s0) rfl hsn) (by omega) (((hG0 j hj).1.fr hf (NWf (fun x hx z => by unfold ASA NTA at z; omega))).at 2 rfl)
        refine ar_call (r := []) (na := 0) (kd := 0) (cm := 85) (fr2 := fr - 1) (lo2 := lo - 25) 132 d_154_129 (ar_hoV (as := [.ref (n + 329 + 22 * j + 2), .int (nI (s * 128))]) rfl rfl rfl (hF.at 13 rfl)) rfl (by omega) (show lo - 25 + (19 + 6) = lo by omega) (Nat.le_of_ble_eq_true rfl) (Nat.le_of_ble_eq_true rfl) (c_85E (by omega) (by omega) (by decide) (by omega) hT (hdi.2.1 s hs8 hsw) (hF.sub (F' := [cTs n gg E1 TK1, cEr n 60 48 E1, cEr n 61 48 E1, cEr n 62 2400 E1, cEr n 64 961 E1, cEr n 63 512 E1, (n + 329 + 22 * j + 2, .inl (0, 35840, .inl (D j 2)))]) [13, 15, 16, 17, 19, 18, 0] rfl rfl) rfl rfl (by omega)) ?_
        intro v hp_4 hq
        obtain ⟨rfl, zf1, nf1, mf1, vf1, kn1, hrc, hT1, qF, qn, qs, qf⟩ := hq
        have qF : ax_hs hp_4 [(n + 320, .inr (6, [.int (nI gg), .ref (n + 321), .ref (n + 322), .ref (n + 323), .ref (n + 324), .ref (n + 325), .ref (n + 326), .ref (n + 327), .long kn1, .int (E1 58 9), .int (E1 58 10)])), (n + 322, .inl (0, 48, .inl zf1)), (n + 323, .inl (0, 48, .inl nf1)), (n + 324, .inl (0, 2400, .inl mf1)), (n + 326, .inl (0, 961, .inl vf1)), cEr n 63 512 E1, (n + 329 + 22 * j + 2, .inl (0, 35840, .inl (D j 2)))] := qF
        replace hF : ax_hs hp_4 [cSt s0 n E1, cRk n nn gg C, cOr n nn gg f, cAs n E1, cEr n 5 512 E1, cEr n 6 100 E1, cEr n 7 2 E1, cAk n, cEr n 9 512 E1, cNa n nn, cEr n 0 48 E1, cEr n 1 961 E1, cEr n 59 48 E1, cEr n 65 961 E1, (n + 320, .inr (6, [.int (nI gg), .ref (n + 321), .ref (n + 322), .ref (n + 323), .ref (n + 324), .ref (n + 325), .ref (n + 326), .ref (n + 327), .long kn1, .int (E1 58 9), .int (E1 58 10)])), (n + 322, .inl (0, 48, .inl zf1)), (n + 323, .inl (0, 48, .inl nf1)), (n + 324, .inl (0, 2400, .inl mf1)), (n + 326, .inl (0, 961, .inl vf1)), cEr n 63 512 E1, (n + 329 + 22 * j + 2, .inl (0, 35840, .inl (D j 2)))] := ax_hs.call (rest := [cSt s0 n E1, cRk n nn gg C, cOr n nn gg f, cAs n E1, cEr n 5 512 E1, cEr n 6 100 E1, cEr n 7 2 E1, cAk n, cEr n 9 512 E1, cNa n nn, cEr n 0 48 E1, cEr n 1 961 E1, cEr n 59 48 E1, cEr n 65 961 E1]) [13, 15, 16, 17, 19, 18, 0] [1, 2, 3, 4, 5, 6, 7, 8, 9, 10, 11, 12, 14, 20] hF qf qF rfl rfl rfl [13, 15, 16, 17, 19] rfl rfl [13, 15, 16, 17, 19, 18, 0] (news := []) rfl rfl (fun _ z => absurd z List.not_mem_nil) rfl
        replace hF := hF.sub (F' := [(n + 329 + 22 * j + 2, .inl (0, 35840, .inl (D j 2))), cSt s0 n E1, cRk n nn gg C, cOr n nn gg f, cAs n E1, cEr n 5 512 E1, cEr n 6 100 E1, cEr n 7 2 E1, cAk n, cEr n 9 512 E1, cNa n nn, cEr n 0 48 E1, cEr n 1 961 E1, (n + 320, .inr (6, [.int (nI gg), .ref (n + 321), .ref (n + 322), .ref (n + 323), .ref (n + 324), .ref (n + 325), .ref (n + 326), .ref (n + 327), .long kn1, .int (E1 58 9), .int (E1 58 10)])), cEr n 59 48 E1, (n + 322, .inl (0, 48, .inl zf1)), (n + 323, .inl (0, 48, .inl nf1)), (n + 324, .inl (0, 2400, .inl mf1)), cEr n 63 512 E1, (n + 326, .inl (0, 961, .inl vf1)), cEr n 65 961 E1]) [20, 0, 1, 2, 3, 4, 5, 6, 7, 8, 9, 10, 11, 14, 12, 15, 16, 17, 19, 18, 13] rfl rfl
        replace hN := hN.fr qf (fun x hx z => by simp only [List.mem_cons, List.not_mem_nil, or_false] at z; unfold NTA at hx; omega)
        replace hA := hA.fr qf (fun x hx z => by simp only [List.mem_cons, List.not_mem_nil, or_false] at z; omega)
        replace hf := hf.trC qf (fun x _ z => Or.inr (by simp only [List.mem_cons, List.not_mem_nil, or_false] at z; omega))
        replace hn : hp_4.1 = hb.1 := by omega
        replace hs : hp_4.2.1 = hb.2.1 := by omega
        clear qF qn qs qf
        replace hF := hF.sub (F' := [cSt s0 n E1, cRk n nn gg C, cOr n nn gg f, cAs n E1, cEr n 5 512 E1, cEr n 6 100 E1, cEr n 7 2 E1, cAk n, cEr n 9 512 E1, cNa n nn, cEr n 0 48 E1, cEr n 1 961 E1, (n + 320, .inr (6, [.int (nI gg), .ref (n + 321), .ref (n + 322), .ref (n + 323), .ref (n + 324), .ref (n + 325), .ref (n + 326), .ref (n + 327), .long kn1, .int (E1 58 9), .int (E1 58 10)])), cEr n 59 48 E1, (n + 322, .inl (0, 48, .inl zf1)), (n + 323, .inl (0, 48, .inl nf1)), (n + 324, .inl (0, 2400, .inl mf1)), cEr n 63 512 E1, (n + 326, .inl (0, 961, .inl vf1)), cEr n 65 961 E1]) [1, 2, 3, 4, 5, 6, 7, 8, 9, 10, 11, 12, 13, 14, 15, 16, 17, 18, 19, 20] rfl rfl
        refine ar_wk [0, 1, 2] rfl (by simp) ?_
        refine ar_aload_n 133 d_154_132 rfl rfl ?_
        refine ar_dup 134 d_154_133 rfl rfl ?_
        refine ar_getf 137 d_154_134 rfl (ci := 0) (k := 7) rfl (hF.at 0 rfl) rfl ?_
        refine ar_aload_n 138 d_154_137 rfl rfl ?_
        refine ar_getf 141 d_154_138 rfl (ci := 0) (k := 4) rfl (hF.at 0 rfl) rfl ?_
        refine ar_getf 144 d_154_141 rfl (ci := 6) (k := 2) rfl (hF.at 12 rfl) rfl ?_
        refine ar_iload 146 d_154_144 rfl rfl ?_
        refine ar_iald 147 d_154_146 rfl (hF.at 14 rfl) (vin (by omega) (by decide)) ?_
        refine ar_iadd 148 d_154_147 rfl ?_
        refine ar_putf 151 [.ref (n + 264), .ref n, .ref (n + 266), .ref (n + 328), .ref (n + 320), .ref (n + 262), .ref (n + 263), .int ((E1 100 7) + (zf1 (nI i).toNatClampNeg)), .int (E1 100 8), .int (E1 100 9), .int (E1 100 10)] d_154_148 rfl (ci := 0) (k := 7) rfl rfl (hF.at 0 rfl) (Nat.le_of_ble_eq_true rfl) rfl rfl rfl ?_
        replace hF : ax_hs (ax_put hp_4 s0 (.inr (0, [.ref (n + 264), .ref n, .ref (n + 266), .ref (n + 328), .ref (n + 320), .ref (n + 262), .ref (n + 263), .int ((E1 100 7) + (zf1 (nI i).toNatClampNeg)), .int (E1 100 8), .int (E1 100 9), .int (E1 100 10)]))) [(s0, .inr (0, [.ref (n + 264), .ref n, .ref (n + 266), .ref (n + 328), .ref (n + 320), .ref (n + 262), .ref (n + 263), .int ((E1 100 7) + (zf1 (nI i).toNatClampNeg)), .int (E1 100 8), .int (E1 100 9), .int (E1 100 10)])), cRk n nn gg C, cOr n nn gg f, cAs n E1, cEr n 5 512 E1, cEr n 6 100 E1, cEr n 7 2 E1, cAk n, cEr n 9 512 E1, cNa n nn, cEr n 0 48 E1, cEr n 1 961 E1, (n + 320, .inr (6, [.int (nI gg), .ref (n + 321), .ref (n + 322), .ref (n + 323), .ref (n + 324), .ref (n + 325), .ref (n + 326), .ref (n + 327), .long kn1, .int (E1 58 9), .int (E1 58 10)])), cEr n 59 48 E1, (n + 322, .inl (0, 48, .inl zf1)), (n + 323, .inl (0, 48, .inl nf1)), (n + 324, .inl (0, 2400, .inl mf1)), cEr n 63 512 E1, (n + 326, .inl (0, 961, .inl vf1)), cEr n 65 961 E1] := hF.put 0 _ rfl rfl
        replace hf := hf.put (a := s0) (c := .inr (0, [.ref (n + 264), .ref n, .ref (n + 266), .ref (n + 328), .ref (n + 320), .ref (n + 262), .ref (n + 263), .int ((E1 100 7) + (zf1 (nI i).toNatClampNeg)), .int (E1 100 8), .int (E1 100 9), .int (E1 100 10)])) (Or.inr (by omega))
        replace hN := hN.put (a := s0) (c := .inr (0, [.ref (n + 264), .ref n, .ref (n + 266), .ref (n + 328), .ref (n + 320), .ref (n + 262), .ref (n + 263), .int ((E1 100 7) + (zf1 (nI i).toNatClampNeg)), .int (E1 100 8), .int (E1 100 9), .int (E1 100 10)])) (by omega)
        replace hA := hA.put (a := s0) (c := .inr (0, [.ref (n + 264), .ref n, .ref (n + 266), .ref (n + 328), .ref (n + 320), .ref (n + 262), .ref (n + 263), .int ((E1 100 7) + (zf1 (nI i).toNatClampNeg)), .int (E1 100 8), .int (E1 100 9), .int (E1 100 10)])) (by omega)
        replace hn : (ax_put hp_4 s0 (.inr (0, [.ref (n + 264), .ref n, .ref (n + 266), .ref (n + 328), .ref (n + 320), .ref (n + 262), .ref (n + 263), .int ((E1 100 7) + (zf1 (nI i).toNatClampNeg)), .int (E1 100 8), .int (E1 100 9), .int (E1 100 10)]))).1 = hb.1 := hn
        replace hs : (ax_put hp_4 s0 (.inr (0, [.ref (n + 264), .ref n, .ref (n + 266), .ref (n + 328), .ref (n + 320), .ref (n + 262), .ref (n + 263), .int ((E1 100 7) + (zf1 (nI i).toNatClampNeg)), .int (E1 100 8), .int (E1 100 9), .int (E1 100 10)]))).2.1 = hb.2.1 := hs
        generalize ax_put hp_4 s0 (.inr (0, [.ref (n + 264), .ref n, .ref (n + 266), .ref (n + 328), .ref (n + 320), .ref (n + 262), .ref (n + 263), .int ((E1 100 7) + (zf1 (nI i).toNatClampNeg)), .int (E1 100 8), .int (E1 100 9), .int (E1 100 10)])) = hp_5 at hF hf hA hN hn hs ⊢
        refine ar_aload_n 152 d_154_151 rfl rfl ?_
        refine ar_dup 153 d_154_152 rfl rfl ?_
        refine ar_getf 156 d_154_153 rfl (ci := 0) (k := 8) rfl (hF.at 0 rfl) rfl ?_
        refine ar_aload_n 157 d_154_156 rfl rfl ?_
        refine ar_getf 160 d_154_157 rfl (ci := 0) (k := 4) rfl (hF.at 0 rfl) rfl ?_
        refine ar_iload 162 d_154_160 rfl rfl ?_
        refine ar_call (r := [.int (E1 100 8), .ref s0]) (na := 0) (kd := 0) (cm := 157) (fr2 := fr - 1) (lo2 := lo - 23) 165 d_154_162 (ar_hoV (as := [.int (nI i)]) rfl rfl rfl (hF.at 12 rfl)) rfl (by omega) (show lo - 23 + (19 + 4) = lo by omega) (Nat.le_of_ble_eq_true rfl) (Nat.le_of_ble_eq_true rfl) (c_157 (f := i) (by omega) (hF.at 12 rfl) (hF.at 18 rfl)) ?_
        intro v hh hq
        obtain ⟨rfl, ehh⟩ := hq
        rw [ehh]
        clear ehh
        refine ar_iadd 166 d_154_165 rfl ?_
        refine ar_putf 169 [.ref (n + 264), .ref n, .ref (n + 266), .ref (n + 328), .ref (n + 320), .ref (n + 262), .ref (n + 263), .int ((E1 100 7) + (zf1 (nI i).toNatClampNeg)), .int ((E1 100 8) + (nI (laidS vf1 (i * 20) 19 0 0))), .int (E1 100 9), .int (E1 100 10)] d_154_166 rfl (ci := 0) (k := 8) rfl rfl (hF.at 0 rfl) (Nat.le_of_ble_eq_true rfl) rfl rfl rfl ?_
        replace hF : ax_hs (ax_put hp_5 s0 (.inr (0, [.ref (n + 264), .ref n, .ref (n + 266), .ref (n + 328), .ref (n + 320), .ref (n + 262), .ref (n + 263), .int ((E1 100 7) + (zf1 (nI i).toNatClampNeg)), .int ((E1 100 8) + (nI (laidS vf1 (i * 20) 19 0 0))), .int (E1 100 9), .int (E1 100 10)]))) [(s0, .inr (0, [.ref (n + 264), .ref n, .ref (n + 266), .ref (n + 328), .ref (n + 320), .ref (n + 262), .ref (n + 263), .int ((E1 100 7) + (zf1 (nI i).toNatClampNeg)), .int ((E1 100 8) + (nI (laidS vf1 (i * 20) 19 0 0))), .int (E1 100 9), .int (E1 100 10)])), cRk n nn gg C, cOr n nn gg f, cAs n E1, cEr n 5 512 E1, cEr n 6 100 E1, cEr n 7 2 E1, cAk n, cEr n 9 512 E1, cNa n nn, cEr n 0 48 E1, cEr n 1 961 E1, (n + 320, .inr (6, [.int (nI gg), .ref (n + 321), .ref (n + 322), .ref (n + 323), .ref (n + 324), .ref (n + 325), .ref (n + 326), .ref (n + 327), .long kn1, .int (E1 58 9), .int (E1 58 10)])), cEr n 59 48 E1, (n + 322, .inl (0, 48, .inl zf1)), (n + 323, .inl (0, 48, .inl nf1)), (n + 324, .inl (0, 2400, .inl mf1)), cEr n 63 512 E1, (n + 326, .inl (0, 961, .inl vf1)), cEr n 65 961 E1] := hF.put 0 _ rfl rfl
        replace hf := hf.put (a := s0) (c := .inr (0, [.ref (n + 264), .ref n, .ref (n + 266), .ref (n + 328), .ref (n + 320), .ref (n + 262), .ref (n + 263), .int ((E1 100 7) + (zf1 (nI i).toNatClampNeg)), .int ((E1 100 8) + (nI (laidS vf1 (i * 20) 19 0 0))), .int (E1 100 9), .int (E1 100 10)])) (Or.inr (by omega))
        replace hN := hN.put (a := s0) (c := .inr (0, [.ref (n + 264), .ref n, .ref (n + 266), .ref (n + 328), .ref (n + 320), .ref (n + 262), .ref (n + 263), .int ((E1 100 7) + (zf1 (nI i).toNatClampNeg)), .int ((E1 100 8) + (nI (laidS vf1 (i * 20) 19 0 0))), .int (E1 100 9), .int (E1 100 10)])) (by omega)
        replace hA := hA.put (a := s0) (c := .inr (0, [.ref (n + 264), .ref n, .ref (n + 266), .ref (n + 328), .ref (n + 320), .ref (n + 262), .ref (n + 263), .int ((E1 100 7) + (zf1 (nI i).toNatClampNeg)), .int ((E1 100 8) + (nI (laidS vf1 (i * 20) 19 0 0))), .int (E1 100 9), .int (E1 100 10)])) (by omega)
        replace hn : (ax_put hp_5 s0 (.inr (0, [.ref (n + 264), .ref n, .ref (n + 266), .ref (n + 328), .ref (n + 320), .ref (n + 262), .ref (n + 263), .int ((E1 100 7) + (zf1 (nI i).toNatClampNeg)), .int ((E1 100 8) + (nI (laidS vf1 (i * 20) 19 0 0))), .int (E1 100 9), .int (E1 100 10)]))).1 = hb.1 := hn
        replace hs : (ax_put hp_5 s0 (.inr (0, [.ref (n + 264), .ref n, .ref (n + 266), .ref (n + 328), .ref (n + 320), .ref (n + 262), .ref (n + 263), .int ((E1 100 7) + (zf1 (nI i).toNatClampNeg)), .int ((E1 100 8) + (nI (laidS vf1 (i * 20) 19 0 0))), .int (E1 100 9), .int (E1 100 10)]))).2.1 = hb.2.1 := hs
        generalize ax_put hp_5 s0 (.inr (0, [.ref (n + 264), .ref n, .ref (n + 266), .ref (n + 328), .ref (n + 320), .ref (n + 262), .ref (n + 263), .int ((E1 100 7) + (zf1 (nI i).toNatClampNeg)), .int ((E1 100 8) + (nI (laidS vf1 (i * 20) 19 0 0))), .int (E1 100 9), .int (E1 100 10)])) = hp_6 at hF hf hA hN hn hs ⊢
        refine ar_aload_n 170 d_154_169 rfl rfl ?_
        refine ar_iload 172 d_154_170 rfl rfl ?_
        have hS1 : AS s0 n nn gg C f q u b hb hp_6 (va_up (va_up (va_up (va_up (va_up E1 100 (upd (upd (E1 100) 7 ((E1 100 7) + (zf1 (nI i).toNatClampNeg))) 8 ((E1 100 8) + (nI (laidS vf1 (i * 20) 19 0 0))))) 60 zf1) 61 nf1) 62 mf1) 64 vf1) kn1 Q ms := ⟨hF, hA, hN, hf, hn, hs, hp0⟩
        refine ar_call (r := []) (na := 0) (kd := 0) (cm := 158) (fr2 := fr - 1) (lo2 := lo - 22) 175 d_154_172 (ar_hoV (as := [.int (nI i)]) rfl rfl rfl (hF.at 0 rfl)) rfl (by omega) (show lo - 22 + (19 + 3) = lo by omega) (Nat.le_of_ble_eq_true rfl) (Nat.le_of_ble_eq_true rfl) (ek_158 (by omega) (by omega) hC0 hS1 (show i < 48 by omega) ho) ?_
        intro v hp_7 hq
        obtain ⟨rfl, og, hS2, hog, hsr⟩ := hq
        clear hS1 hF hA hN hf hn hs hp0
        refine ar_iinc 178 [(0, .ref s0), (2, .ref (n + 329 + 22 * j + 1)), (4, .int (nI (i + 1)))] d_154_175 rfl rfl (nI_1 i) (by decide) rfl ?_
        refine ar_goto 77 d_154_178 (by decide) ?_
        subst hsr
        rw [← show ctS (D j 2) k (i + 1) (srE (va_up (va_up (va_up (va_up (va_up E1 100 (upd (upd (E1 100) 7 ((E1 100 7) + (zf1 (nI i).toNatClampNeg))) 8 ((E1 100 8) + (nI (laidS vf1 (i * 20) 19 0 0))))) 60 zf1) 61 nf1) 62 mf1) 64 vf1) i) kn1 = ctS (D j 2) (k + 1) i E1 TK1 from eq_ifF (nI_ne1 hs8 e) (bnN_eq (cl_eq hs8 e) (bn5_eq hrc rfl))]
        exact ih (i + 1) fl hp_7 (srE (va_up (va_up (va_up (va_up (va_up E1 100 (upd (upd (E1 100) 7 ((E1 100 7) + (zf1 (nI i).toNatClampNeg))) 8 ((E1 100 8) + (nI (laidS vf1 (i * 20) 19 0 0))))) 60 zf1) 61 nf1) 62 mf1) 64 vf1) i) kn1 (by omega) hfl e58 hS2 hT1 hog hke
  show ax_A (ax_step L xs) ((154, 0, fr, lo), [(0, .ref s0)], [], hb) _
  obtain ⟨hF, hA, hN, hf, hn, hs, hp0⟩ := hS
  replace hF : ax_hs hb [cSt s0 n E, cRk n nn gg C, cOr n nn gg f, cAs n E, cEr n 5 512 E, cEr n 6 100 E, cEr n 7 2 E, cAk n, cEr n 9 512 E, cNa n nn, cEr n 0 48 E, cEr n 1 961 E, cTs n gg E TK, cEr n 59 48 E, cEr n 60 48 E, cEr n 61 48 E, cEr n 62 2400 E, cEr n 63 512 E, cEr n 64 961 E, cEr n 65 961 E] := hF
  refine ar_aload_n 1 d_154_0 rfl rfl ?_
  refine ar_getf 4 d_154_1 rfl (ci := 0) (k := 4) rfl (hF.at 0 rfl) rfl ?_
  refine ar_call (r := []) (na := 0) (kd := 0) (cm := 12) (fr2 := fr - 1) (lo2 := lo - 20) 7 d_154_4 (ar_hoV (as := []) rfl rfl rfl (hF.at 12 rfl)) rfl (by omega) (show lo - 20 + (19 + 1) = lo by omega) (Nat.le_of_ble_eq_true rfl) (Nat.le_of_ble_eq_true rfl) (c_12 (by omega) (by omega) (hF.sub (F' := [cTs n gg E TK, cEr n 59 48 E, cEr n 60 48 E, cEr n 63 512 E, cEr n 64 961 E, cEr n 65 961 E]) [12, 13, 14, 17, 18, 19] rfl rfl) rfl rfl (by omega)) ?_
  intro v hp_1 hq
  obtain ⟨rfl, qF, qn, qs, qf⟩ := hq
  have qF : ax_hs hp_1 [(n + 320, .inr (6, [.int (nI gg), .ref (n + 321), .ref (n + 322), .ref (n + 323), .ref (n + 324), .ref (n + 325), .ref (n + 326), .ref (n + 327), .long 0, .int 0, .int 0])), (n + 321, .inl (0, 48, .inl (ax_fill (E 59) 0 48 (-1)))), (n + 322, .inl (0, 48, .inl (ax_fill (E 60) 0 48 0))), (n + 325, .inl (0, 512, .inl (ax_fill (E 63) 0 512 (-1)))), (n + 326, .inl (0, 961, .inl (ax_fill (E 64) 0 961 (-1)))), (n + 327, .inl (0, 961, .inl (ax_fill (E 65) 0 961 0)))] := qF
  replace hF : ax_hs hp_1 [cSt s0 n E, cRk n nn gg C, cOr n nn gg f, cAs n E, cEr n 5 512 E, cEr n 6 100 E, cEr n 7 2 E, cAk n, cEr n 9 512 E, cNa n nn, cEr n 0 48 E, cEr n 1 961 E, cEr n 61 48 E, cEr n 62 2400 E, (n + 320, .inr (6, [.int (nI gg), .ref (n + 321), .ref (n + 322), .ref (n + 323), .ref (n + 324), .ref (n + 325), .ref (n + 326), .ref (n + 327), .long 0, .int 0, .int 0])), (n + 321, .inl (0, 48, .inl (ax_fill (E 59) 0 48 (-1)))), (n + 322, .inl (0, 48, .inl (ax_fill (E 60) 0 48 0))), (n + 325, .inl (0, 512, .inl (ax_fill (E 63) 0 512 (-1)))), (n + 326, .inl (0, 961, .inl (ax_fill (E 64) 0 961 (-1)))), (n + 327, .inl (0, 961, .inl (ax_fill (E 65) 0 961 0)))] := ax_hs.call (rest := [cSt s0 n E, cRk n nn gg C, cOr n nn gg f, cAs n E, cEr n 5 512 E, cEr n 6 100 E, cEr n 7 2 E, cAk n, cEr n 9 512 E, cNa n nn, cEr n 0 48 E, cEr n 1 961 E, cEr n 61 48 E, cEr n 62 2400 E]) [12, 13, 14, 17, 18, 19] [0, 1, 2, 3, 4, 5, 6, 7, 8, 9, 10, 11, 15, 16] hF qf qF rfl rfl rfl [12, 13, 14, 17, 18, 19] rfl rfl [12, 13, 14, 17, 18, 19] (news := []) rfl rfl (fun _ z => absurd z List.not_mem_nil) rfl
  replace hF := hF.sub (F' := [cSt s0 n E, cRk n nn gg C, cOr n nn gg f, cAs n E, cEr n 5 512 E, cEr n 6 100 E, cEr n 7 2 E, cAk n, cEr n 9 512 E, cNa n nn, cEr n 0 48 E, cEr n 1 961 E, (n + 320, .inr (6, [.int (nI gg), .ref (n + 321), .ref (n + 322), .ref (n + 323), .ref (n + 324), .ref (n + 325), .ref (n + 326), .ref (n + 327), .long 0, .int 0, .int 0])), (n + 321, .inl (0, 48, .inl (ax_fill (E 59) 0 48 (-1)))), (n + 322, .inl (0, 48, .inl (ax_fill (E 60) 0 48 0))), cEr n 61 48 E, cEr n 62 2400 E, (n + 325, .inl (0, 512, .inl (ax_fill (E 63) 0 512 (-1)))), (n + 326, .inl (0, 961, .inl (ax_fill (E 64) 0 961 (-1)))), (n + 327, .inl (0, 961, .inl (ax_fill (E 65) 0 961 0)))]) [0, 1, 2, 3, 4, 5, 6, 7, 8, 9, 10, 11, 14, 15, 16, 12, 13, 17, 18, 19] rfl rfl
  replace hN := hN.fr qf (fun x hx z => by simp only [List.mem_cons, List.not_mem_nil, or_false] at z; unfold NTA at hx; omega)
  replace hA := hA.fr qf (fun x hx z => by simp only [List.mem_cons, List.not_mem_nil, or_false] at z; omega)
  replace hf := hf.trC qf (fun x _ z => Or.inr (by simp only [List.mem_cons, List.not_mem_nil, or_false] at z; omega))
  replace hn : hp_1.1 = hb.1 := by omega
  replace hs : hp_1.2.1 = hb.2.1 := by omega
  clear qF qn qs qf
  have hnf : ∀ f, f < 48 → inR 2049 (E 61 f) := fun f hf => (hK.1.2.2.2.1 f hf).2
  have hT0 : TI Z 0 (ax_fill (E 59) 0 48 (-1)) (ax_fill (E 60) 0 48 0) (E 61) (ax_fill (E 63) 0 512 (-1)) (ax_fill (E 64) 0 961 (-1)) := TI.forget hnf
  refine ar_aload_n 8 d_154_7 rfl rfl ?_
  refine ar_iconst 9 (v := 0) d_154_8 rfl (by decide) ?_
  refine ar_putf 12 [.ref (n + 264), .ref n, .ref (n + 266), .ref (n + 328), .ref (n + 320), .ref (n + 262), .ref (n + 263), .int 0, .int (E 100 8), .int (E 100 9), .int (E 100 10)] d_154_9 rfl (ci := 0) (k := 7) rfl rfl (hF.at 0 rfl) (Nat.le_of_ble_eq_true rfl) rfl rfl rfl ?_
  replace hF : ax_hs (ax_put hp_1 s0 (.inr (0, [.ref (n + 264), .ref n, .ref (n + 266), .ref (n + 328), .ref (n + 320), .ref (n + 262), .ref (n + 263), .int 0, .int (E 100 8), .int (E 100 9), .int (E 100 10)]))) [(s0, .inr (0, [.ref (n + 264), .ref n, .ref (n + 266), .ref (n + 328), .ref (n + 320), .ref (n + 262), .ref (n + 263), .int 0, .int (E 100 8), .int (E 100 9), .int (E 100 10)])), cRk n nn gg C, cOr n nn gg f, cAs n E, cEr n 5 512 E, cEr n 6 100 E, cEr n 7 2 E, cAk n, cEr n 9 512 E, cNa n nn, cEr n 0 48 E, cEr n 1 961 E, (n + 320, .inr (6, [.int (nI gg), .ref (n + 321), .ref (n + 322), .ref (n + 323), .ref (n + 324), .ref (n + 325), .ref (n + 326), .ref (n + 327), .long 0, .int 0, .int 0])), (n + 321, .inl (0, 48, .inl (ax_fill (E 59) 0 48 (-1)))), (n + 322, .inl (0, 48, .inl (ax_fill (E 60) 0 48 0))), cEr n 61 48 E, cEr n 62 2400 E, (n + 325, .inl (0, 512, .inl (ax_fill (E 63) 0 512 (-1)))), (n + 326, .inl (0, 961, .inl (ax_fill (E 64) 0 961 (-1)))), (n + 327, .inl (0, 961, .inl (ax_fill (E 65) 0 961 0)))] := hF.put 0 _ rfl rfl
  replace hf := hf.put (a := s0) (c := .inr (0, [.ref (n + 264), .ref n, .ref (n + 266), .ref (n + 328), .ref (n + 320), .ref (n + 262), .ref (n + 263), .int 0, .int (E 100 8), .int (E 100 9), .int (E 100 10)])) (Or.inr (by omega))
  replace hN := hN.put (a := s0) (c := .inr (0, [.ref (n + 264), .ref n, .ref (n + 266), .ref (n + 328), .ref (n + 320), .ref (n + 262), .ref (n + 263), .int 0, .int (E 100 8), .int (E 100 9), .int (E 100 10)])) (by omega)
  replace hA := hA.put (a := s0) (c := .inr (0, [.ref (n + 264), .ref n, .ref (n + 266), .ref (n + 328), .ref (n + 320), .ref (n + 262), .ref (n + 263), .int 0, .int (E 100 8), .int (E 100 9), .int (E 100 10)])) (by omega)
  replace hn : (ax_put hp_1 s0 (.inr (0, [.ref (n + 264), .ref n, .ref (n + 266), .ref (n + 328), .ref (n + 320), .ref (n + 262), .ref (n + 263), .int 0, .int (E 100 8), .int (E 100 9), .int (E 100 10)]))).1 = hb.1 := hn
  replace hs : (ax_put hp_1 s0 (.inr (0, [.ref (n + 264), .ref n, .ref (n + 266), .ref (n + 328), .ref (n + 320), .ref (n + 262), .ref (n + 263), .int 0, .int (E 100 8), .int (E 100 9), .int (E 100 10)]))).2.1 = hb.2.1 := hs
  generalize ax_put hp_1 s0 (.inr (0, [.ref (n + 264), .ref n, .ref (n + 266), .ref (n + 328), .ref (n + 320), .ref (n + 262), .ref (n + 263), .int 0, .int (E 100 8), .int (E 100 9), .int (E 100 10)])) = hp_2 at hF hf hA hN hn hs ⊢
  refine ar_aload_n 13 d_154_12 rfl rfl ?_
  refine ar_iconst 14 (v := 0) d_154_13 rfl (by decide) ?_
  refine ar_putf 17 [.ref (n + 264), .ref n, .ref (n + 266), .ref (n + 328), .ref (n + 320), .ref (n + 262), .ref (n + 263), .int 0, .int 0, .int (E 100 9), .int (E 100 10)] d_154_14 rfl (ci := 0) (k := 8) rfl rfl (hF.at 0 rfl) (Nat.le_of_ble_eq_true rfl) rfl rfl rfl ?_
  replace hF : ax_hs (ax_put hp_2 s0 (.inr (0, [.ref (n + 264), .ref n, .ref (n + 266), .ref (n + 328), .ref (n + 320), .ref (n + 262), .ref (n + 263), .int 0, .int 0, .int (E 100 9), .int (E 100 10)]))) [(s0, .inr (0, [.ref (n + 264), .ref n, .ref (n + 266), .ref (n + 328), .ref (n + 320), .ref (n + 262), .ref (n + 263), .int 0, .int 0, .int (E 100 9), .int (E 100 10)])), cRk n nn gg C, cOr n nn gg f, cAs n E, cEr n 5 512 E, cEr n 6 100 E, cEr n 7 2 E, cAk n, cEr n 9 512 E, cNa n nn, cEr n 0 48 E, cEr n 1 961 E, (n + 320, .inr (6, [.int (nI gg), .ref (n + 321), .ref (n + 322), .ref (n + 323), .ref (n + 324), .ref (n + 325), .ref (n + 326), .ref (n + 327), .long 0, .int 0, .int 0])), (n + 321, .inl (0, 48, .inl (ax_fill (E 59) 0 48 (-1)))), (n + 322, .inl (0, 48, .inl (ax_fill (E 60) 0 48 0))), cEr n 61 48 E, cEr n 62 2400 E, (n + 325, .inl (0, 512, .inl (ax_fill (E 63) 0 512 (-1)))), (n + 326, .inl (0, 961, .inl (ax_fill (E 64) 0 961 (-1)))), (n + 327, .inl (0, 961, .inl (ax_fill (E 65) 0 961 0)))] := hF.put 0 _ rfl rfl
  replace hf := hf.put (a := s0) (c := .inr (0, [.ref (n + 264), .ref n, .ref (n + 266), .ref (n + 328), .ref (n + 320), .ref (n + 262), .ref (n + 263), .int 0, .int 0, .int (E 100 9), .int (E 100 10)])) (Or.inr (by omega))
  replace hN := hN.put (a := s0) (c := .inr (0, [.ref (n + 264), .ref n, .ref (n + 266), .ref (n + 328), .ref (n + 320), .ref (n + 262), .ref (n + 263), .int 0, .int 0, .int (E 100 9), .int (E 100 10)])) (by omega)
  replace hA := hA.put (a := s0) (c := .inr (0, [.ref (n + 264), .ref n, .ref (n + 266), .ref (n + 328), .ref (n + 320), .ref (n + 262), .ref (n + 263), .int 0, .int 0, .int (E 100 9), .int (E 100 10)])) (by omega)
  replace hn : (ax_put hp_2 s0 (.inr (0, [.ref (n + 264), .ref n, .ref (n + 266), .ref (n + 328), .ref (n + 320), .ref (n + 262), .ref (n + 263), .int 0, .int 0, .int (E 100 9), .int (E 100 10)]))).1 = hb.1 := hn
  replace hs : (ax_put hp_2 s0 (.inr (0, [.ref (n + 264), .ref n, .ref (n + 266), .ref (n + 328), .ref (n + 320), .ref (n + 262), .ref (n + 263), .int 0, .int 0, .int (E 100 9), .int (E 100 10)]))).2.1 = hb.2.1 := hs
  generalize ax_put hp_2 s0 (.inr (0, [.ref (n + 264), .ref n, .ref (n + 266), .ref (n + 328), .ref (n + 320), .ref (n + 262), .ref (n + 263), .int 0, .int 0, .int (E 100 9), .int (E 100 10)])) = hp_3 at hF hf hA hN hn hs ⊢
  refine ar_aload_n 18 d_154_17 rfl rfl ?_
  refine ar_getf 21 d_154_18 rfl (ci := 0) (k := 0) rfl (hF.at 0 rfl) rfl ?_
  refine ar_iconst 22 (v := 0) d_154_21 rfl (by decide) ?_
  refine ar_iconst 23 (v := 0) d_154_22 rfl (by decide) ?_
  refine ar_aload_n 24 d_154_23 rfl rfl ?_
  refine ar_getf 27 d_154_24 rfl (ci := 0) (k := 2) rfl (hF.at 0 rfl) rfl ?_
  refine ar_getf 30 d_154_27 rfl (ci := 4) (k := 14) rfl (hF.at 3 rfl) rfl ?_
  refine ar_call (r := []) (na := 0) (kd := 0) (cm := 31) (fr2 := fr - 1) (lo2 := lo - 26) 33 d_154_30 (ar_hoV (as := [.int 0, .int 0, .int (E 4 14)]) rfl rfl rfl (hF.at 1 rfl)) rfl (by omega) (show lo - 26 + (19 + 7) = lo by omega) (Nat.le_of_ble_eq_true rfl) (Nat.le_of_ble_eq_true rfl) (c_31 hgg hnn (g := 0) (by omega) (hF.sub (F' := [cRk n nn gg C, cOr n nn gg f]) [1, 2] rfl rfl)) ?_
  intro v hh hq
  obtain ⟨rfl, ehh⟩ := hq
  rw [ehh]
  clear ehh
  refine ar_top (x' := nof f 0 (E 4 14) nn 0 0) (by rw [Nat.zero_mul]) ?_
  refine ar_istore_n 34 [(0, .ref s0), (1, .int (nof f 0 (E 4 14) nn 0 0))] d_154_33 rfl (by decide) rfl ?_
  refine ar_iload_n 35 d_154_34 rfl rfl ?_
  refine ar_if_ge 39 38 d_154_35 (by decide) rfl (fun c1 => ?_) (fun c1 => ?_)
  · obtain ⟨j, hj, ej⟩ : ∃ j : Nat, j < nn ∧ nof f 0 (E 4 14) nn 0 0 = nI j := (nof_nd hRg nn 0 0).resolve_left (fun z => absurd c1 (by rw [z]; decide))
    refine ar_aload_n 40 d_154_39 rfl rfl ?_
    refine ar_getf 43 d_154_40 rfl (ci := 0) (k := 3) rfl (hF.at 0 rfl) rfl ?_
    refine ar_iload_n 44 d_154_43 rfl rfl ?_
    refine ar_top (x' := nI j) (ej) ?_
    refine ar_aald 45 d_154_44 rfl (hF.at 9 rfl) rfl (vin hj (by omega)) ?_
    refine ar_tv (v' := .ref (n + 329 + 22 * j)) (ndr hnn hj) ?_
    refine ar_getf 48 d_154_45 rfl (ci := 7) (k := 3) rfl (hf.g ((hG0 j hj).1.at 0 rfl) (by unfold ASA NTA; omega)) rfl ?_
    refine ar_astore_n 49 [(0, .ref s0), (1, .int (nof f 0 (E 4 14) nn 0 0)), (2, .ref (n + 329 + 22 * j + 1))] d_154_48 rfl (by decide) rfl ?_
    refine ar_aload_n 50 d_154_49 rfl rfl ?_
    refine ar_call (r := []) (na := 0) (kd := 0) (cm := 155) (fr2 := fr - 1) (lo2 := lo - 22) 53 d_154_50 (ar_hoV (as := []) rfl rfl rfl (hf.g ((hG0 j hj).1.at 1 rfl) (by unfold ASA NTA; omega))) rfl (by omega) (show lo - 22 + (19 + 3) = lo by omega) (Nat.le_of_ble_eq_true rfl) (Nat.le_of_ble_eq_true rfl) (c_155S (by omega) (by omega) (((hG0 j hj).1.fr hf (NWf (fun x hx z => by unfold ASA NTA at z; omega))).sub (F' := [cDk (n + 329 + 22 * j) (D j), cAr (n + 329 + 22 * j) 2 35840 (D j)]) [1, 2] rfl rfl)) ?_
    intro v hh hq
    obtain ⟨hq, hqs, ehh⟩ := hq
    rw [ehh]
    clear ehh
    rcases hq with rfl | ⟨s, hs8, rfl, hsw, tt, htt, ett, htr⟩
    · have hsk : skR (D j 2) 280 0 (-1) = -1 := (Value.int.inj (Option.some.inj hqs)).symm
      refine ar_istore_n 54 [(0, .ref s0), (1, .int (nof f 0 (E 4 14) nn 0 0)), (2, .ref (n + 329 + 22 * j + 1)), (3, .int (-1))] d_154_53 rfl (by decide) rfl ?_
      refine ar_iload_n 55 d_154_54 rfl rfl ?_
      refine ar_if_lt 74 58 d_154_55 (by decide) rfl (fun _ => ?_) (fun c => absurd (by decide) c)
      refine ar_iconst 75 (v := 0) d_154_74 rfl (by decide) ?_
      refine ar_istore 77 [(0, .ref s0), (1, .int (nof f 0 (E 4 14) nn 0 0)), (2, .ref (n + 329 + 22 * j + 1)), (3, .int (-1)), (4, .int 0)] d_154_75 rfl (by decide) rfl ?_
      refine ar_wk [0, 2, 4] rfl (by simp) ?_
      have hS1 : AS s0 n nn gg C f q u b hb hp_3 (va_up (va_up (va_up (va_up (va_up (va_up (va_up E 100 (upd (upd (E 100) 7 0) 8 0)) 58 (upd (upd (E 58) 9 0) 10 0)) 59 (ax_fill (E 59) 0 48 (-1))) 60 (ax_fill (E 60) 0 48 0)) 63 (ax_fill (E 63) 0 512 (-1))) 64 (ax_fill (E 64) 0 961 (-1))) 65 (ax_fill (E 65) 0 961 0)) 0 Q ms := ⟨hF, hA, hN, hf, hn, hs, hp0⟩
      rw [← show ctS (D j 2) 0 0 (va_up (va_up (va_up (va_up (va_up (va_up (va_up E 100 (upd (upd (E 100) 7 0) 8 0)) 58 (upd (upd (E 58) 9 0) 10 0)) 59 (ax_fill (E 59) 0 48 (-1))) 60 (ax_fill (E 60) 0 48 0)) 63 (ax_fill (E 63) 0 512 (-1))) 64 (ax_fill (E 64) 0 961 (-1))) 65 (ax_fill (E 65) 0 961 0)) 0 = ctF nn f E TK D from eq_ifT c1 (bnN_eq (cl_eq hj ej (by omega)) (eq_ifT hsk rfl))]
      exact key j hj 0 0 0 hp_3 _ _ (by omega) (by omega) rfl hS1 hT0 hK.2.1 ⟨rfl, rfl, rfl, rfl, rfl, rfl, rfl⟩
    · have hsk : skR (D j 2) 280 0 (-1) = nI s := (Value.int.inj (Option.some.inj hqs)).symm
      refine ar_istore_n 54 [(0, .ref s0), (1, .int (nof f 0 (E 4 14) nn 0 0)), (2, .ref (n + 329 + 22 * j + 1)), (3, .int (nI s))] d_154_53 rfl (by decide) rfl ?_
      refine ar_iload_n 55 d_154_54 rfl rfl ?_
      refine ar_if_lt 74 58 d_154_55 (by decide) rfl (fun c => absurd c (nI_pos (by omega))) (fun _ => ?_)
      refine ar_aload_n 59 d_154_58 rfl rfl ?_
      refine ar_getf 62 d_154_59 rfl (ci := 0) (k := 4) rfl (hF.at 0 rfl) rfl ?_
      refine ar_aload_n 63 d_154_62 rfl rfl ?_
      refine ar_getf 66 d_154_63 rfl (ci := 8) (k := 0) rfl (hf.g ((hG0 j hj).1.at 1 rfl) (by unfold ASA NTA; omega)) rfl ?_
      refine ar_iload_n 67 d_154_66 rfl rfl ?_
      refine ar_sipush 70 (v := 128) d_154_67 rfl (by decide) ?_
      refine ar_imul 71 d_154_70 rfl ?_
      refine ar_top (x' := nI (s * 128)) (pk_mul s 128) ?_
      replace hF : ax_hs hp_3 [(n + 329 + 22 * j + 2, .inl (0, 35840, .inl (D j 2))), (s0, .inr (0, [.ref (n + 264), .ref n, .ref (n + 266), .ref (n + 328), .ref (n + 320), .ref (n + 262), .ref (n + 263), .int 0, .int 0, .int (E 100 9), .int (E 100 10)])), cRk n nn gg C, cOr n nn gg f, cAs n E, cEr n 5 512 E, cEr n 6 100 E, cEr n 7 2 E, cAk n, cEr n 9 512 E, cNa n nn, cEr n 0 48 E, cEr n 1 961 E, (n + 320, .inr (6, [.int (nI gg), .ref (n + 321), .ref (n + 322), .ref (n + 323), .ref (n + 324), .ref (n + 325), .ref (n + 326), .ref (n + 327), .long 0, .int 0, .int 0])), (n + 321, .inl (0, 48, .inl (ax_fill (E 59) 0 48 (-1)))), (n + 322, .inl (0, 48, .inl (ax_fill (E 60) 0 48 0))), cEr n 61 48 E, cEr n 62 2400 E, (n + 325, .inl (0, 512, .inl (ax_fill (E 63) 0 512 (-1)))), (n + 326, .inl (0, 961, .inl (ax_fill (E 64) 0 961 (-1)))), (n + 327, .inl (0, 961, .inl (ax_fill (E 65) 0 961 0)))] := hF.ncell (farL (n := n) (s0 := s0) rfl hsn) (by omega) (((hG0 j hj).1.fr hf (NWf (fun x hx z => by unfold ASA NTA at z; omega))).at 2 rfl)
      refine ar_call (r := []) (na := 0) (kd := 0) (cm := 84) (fr2 := fr - 1) (lo2 := lo - 24) 74 d_154_71 (ar_hoV (as := [.ref (n + 329 + 22 * j + 2), .int (nI (s * 128))]) rfl rfl rfl (hF.at 13 rfl)) rfl (by omega) (show lo - 24 + (19 + 5) = lo by omega) (Nat.le_of_ble_eq_true rfl) (Nat.le_of_ble_eq_true rfl) (c_84E (t := tt) (by omega) (by omega) (by decide) (by omega) hnf htt ett (((hG0 j hj).2.1.1.2.1 s hs8 hsw tt htt ett).1 htr) (hF.sub (F' := [(n + 320, .inr (6, [.int (nI gg), .ref (n + 321), .ref (n + 322), .ref (n + 323), .ref (n + 324), .ref (n + 325), .ref (n + 326), .ref (n + 327), .long 0, .int 0, .int 0])), (n + 321, .inl (0, 48, .inl (ax_fill (E 59) 0 48 (-1)))), (n + 322, .inl (0, 48, .inl (ax_fill (E 60) 0 48 0))), (n + 325, .inl (0, 512, .inl (ax_fill (E 63) 0 512 (-1)))), (n + 326, .inl (0, 961, .inl (ax_fill (E 64) 0 961 (-1)))), (n + 327, .inl (0, 961, .inl (ax_fill (E 65) 0 961 0))), (n + 329 + 22 * j + 2, .inl (0, 35840, .inl (D j 2)))]) [13, 14, 15, 18, 19, 20, 0] rfl rfl) rfl rfl (by omega)) ?_
      intro v hp_4 hq
      obtain ⟨rfl, cf, hcf, hT1, qF, qn, qs, qf⟩ := hq
      have qF : ax_hs hp_4 [(n + 320, .inr (6, [.int (nI gg), .ref (n + 321), .ref (n + 322), .ref (n + 323), .ref (n + 324), .ref (n + 325), .ref (n + 326), .ref (n + 327), .long 0, .int (nI cf), .int (D j 2 (s * 128 + 16))])), (n + 321, .inl (0, 48, .inl (rrJ (D j 2) (s * 128) (ax_fill (ax_fill (E 59) 0 48 (-1)) 0 48 (-1)) cf))), (n + 322, .inl (0, 48, .inl (ax_fill (ax_fill (E 60) 0 48 0) 0 48 0))), (n + 325, .inl (0, 512, .inl (rrO (D j 2) (s * 128) (ax_fill (ax_fill (E 63) 0 512 (-1)) 0 512 (-1)) cf))), (n + 326, .inl (0, 961, .inl (rrV (D j 2) (s * 128) (upd (ax_fill (ax_fill (E 64) 0 961 (-1)) 0 961 (-1)) 960 ((D j 2 (s * 128 + 1)) - (D j 2 (s * 128 + 1)) / 512 * 512)) cf))), (n + 327, .inl (0, 961, .inl (ax_fill (ax_fill (E 65) 0 961 0) 0 961 0))), (n + 329 + 22 * j + 2, .inl (0, 35840, .inl (D j 2)))] := qF
      replace hF : ax_hs hp_4 [(s0, .inr (0, [.ref (n + 264), .ref n, .ref (n + 266), .ref (n + 328), .ref (n + 320), .ref (n + 262), .ref (n + 263), .int 0, .int 0, .int (E 100 9), .int (E 100 10)])), cRk n nn gg C, cOr n nn gg f, cAs n E, cEr n 5 512 E, cEr n 6 100 E, cEr n 7 2 E, cAk n, cEr n 9 512 E, cNa n nn, cEr n 0 48 E, cEr n 1 961 E, cEr n 61 48 E, cEr n 62 2400 E, (n + 320, .inr (6, [.int (nI gg), .ref (n + 321), .ref (n + 322), .ref (n + 323), .ref (n + 324), .ref (n + 325), .ref (n + 326), .ref (n + 327), .long 0, .int (nI cf), .int (D j 2 (s * 128 + 16))])), (n + 321, .inl (0, 48, .inl (rrJ (D j 2) (s * 128) (ax_fill (ax_fill (E 59) 0 48 (-1)) 0 48 (-1)) cf))), (n + 322, .inl (0, 48, .inl (ax_fill (ax_fill (E 60) 0 48 0) 0 48 0))), (n + 325, .inl (0, 512, .inl (rrO (D j 2) (s * 128) (ax_fill (ax_fill (E 63) 0 512 (-1)) 0 512 (-1)) cf))), (n + 326, .inl (0, 961, .inl (rrV (D j 2) (s * 128) (upd (ax_fill (ax_fill (E 64) 0 961 (-1)) 0 961 (-1)) 960 ((D j 2 (s * 128 + 1)) - (D j 2 (s * 128 + 1)) / 512 * 512)) cf))), (n + 327, .inl (0, 961, .inl (ax_fill (ax_fill (E 65) 0 961 0) 0 961 0))), (n + 329 + 22 * j + 2, .inl (0, 35840, .inl (D j 2)))] := ax_hs.call (rest := [(s0, .inr (0, [.ref (n + 264), .ref n, .ref (n + 266), .ref (n + 328), .ref (n + 320), .ref (n + 262), .ref (n + 263), .int 0, .int 0, .int (E 100 9), .int (E 100 10)])), cRk n nn gg C, cOr n nn gg f, cAs n E, cEr n 5 512 E, cEr n 6 100 E, cEr n 7 2 E, cAk n, cEr n 9 512 E, cNa n nn, cEr n 0 48 E, cEr n 1 961 E, cEr n 61 48 E, cEr n 62 2400 E]) [13, 14, 15, 18, 19, 20, 0] [1, 2, 3, 4, 5, 6, 7, 8, 9, 10, 11, 12, 16, 17] hF qf qF rfl rfl rfl [13, 14, 15, 18, 19, 20] rfl rfl [13, 14, 15, 18, 19, 20, 0] (news := []) rfl rfl (fun _ z => absurd z List.not_mem_nil) rfl
      replace hF := hF.sub (F' := [(n + 329 + 22 * j + 2, .inl (0, 35840, .inl (D j 2))), (s0, .inr (0, [.ref (n + 264), .ref n, .ref (n + 266), .ref (n + 328), .ref (n + 320), .ref (n + 262), .ref (n + 263), .int 0, .int 0, .int (E 100 9), .int (E 100 10)])), cRk n nn gg C, cOr n nn gg f, cAs n E, cEr n 5 512 E, cEr n 6 100 E, cEr n 7 2 E, cAk n, cEr n 9 512 E, cNa n nn, cEr n 0 48 E, cEr n 1 961 E, (n + 320, .inr (6, [.int (nI gg), .ref (n + 321), .ref (n + 322), .ref (n + 323), .ref (n + 324), .ref (n + 325), .ref (n + 326), .ref (n + 327), .long 0, .int (nI cf), .int (D j 2 (s * 128 + 16))])), (n + 321, .inl (0, 48, .inl (rrJ (D j 2) (s * 128) (ax_fill (ax_fill (E 59) 0 48 (-1)) 0 48 (-1)) cf))), (n + 322, .inl (0, 48, .inl (ax_fill (ax_fill (E 60) 0 48 0) 0 48 0))), cEr n 61 48 E, cEr n 62 2400 E, (n + 325, .inl (0, 512, .inl (rrO (D j 2) (s * 128) (ax_fill (ax_fill (E 63) 0 512 (-1)) 0 512 (-1)) cf))), (n + 326, .inl (0, 961, .inl (rrV (D j 2) (s * 128) (upd (ax_fill (ax_fill (E 64) 0 961 (-1)) 0 961 (-1)) 960 ((D j 2 (s * 128 + 1)) - (D j 2 (s * 128 + 1)) / 512 * 512)) cf))), (n + 327, .inl (0, 961, .inl (ax_fill (ax_fill (E 65) 0 961 0) 0 961 0)))]) [20, 0, 1, 2, 3, 4, 5, 6, 7, 8, 9, 10, 11, 14, 15, 16, 12, 13, 17, 18, 19] rfl rfl
      replace hN := hN.fr qf (fun x hx z => by simp only [List.mem_cons, List.not_mem_nil, or_false] at z; unfold NTA at hx; omega)
      replace hA := hA.fr qf (fun x hx z => by simp only [List.mem_cons, List.not_mem_nil, or_false] at z; omega)
      replace hf := hf.trC qf (fun x _ z => Or.inr (by simp only [List.mem_cons, List.not_mem_nil, or_false] at z; omega))
      replace hn : hp_4.1 = hb.1 := by omega
      replace hs : hp_4.2.1 = hb.2.1 := by omega
      clear qF qn qs qf
      replace hF := hF.sub (F' := [(s0, .inr (0, [.ref (n + 264), .ref n, .ref (n + 266), .ref (n + 328), .ref (n + 320), .ref (n + 262), .ref (n + 263), .int 0, .int 0, .int (E 100 9), .int (E 100 10)])), cRk n nn gg C, cOr n nn gg f, cAs n E, cEr n 5 512 E, cEr n 6 100 E, cEr n 7 2 E, cAk n, cEr n 9 512 E, cNa n nn, cEr n 0 48 E, cEr n 1 961 E, (n + 320, .inr (6, [.int (nI gg), .ref (n + 321), .ref (n + 322), .ref (n + 323), .ref (n + 324), .ref (n + 325), .ref (n + 326), .ref (n + 327), .long 0, .int (nI cf), .int (D j 2 (s * 128 + 16))])), (n + 321, .inl (0, 48, .inl (rrJ (D j 2) (s * 128) (ax_fill (ax_fill (E 59) 0 48 (-1)) 0 48 (-1)) cf))), (n + 322, .inl (0, 48, .inl (ax_fill (ax_fill (E 60) 0 48 0) 0 48 0))), cEr n 61 48 E, cEr n 62 2400 E, (n + 325, .inl (0, 512, .inl (rrO (D j 2) (s * 128) (ax_fill (ax_fill (E 63) 0 512 (-1)) 0 512 (-1)) cf))), (n + 326, .inl (0, 961, .inl (rrV (D j 2) (s * 128) (upd (ax_fill (ax_fill (E 64) 0 961 (-1)) 0 961 (-1)) 960 ((D j 2 (s * 128 + 1)) - (D j 2 (s * 128 + 1)) / 512 * 512)) cf))), (n + 327, .inl (0, 961, .inl (ax_fill (ax_fill (E 65) 0 961 0) 0 961 0)))]) [1, 2, 3, 4, 5, 6, 7, 8, 9, 10, 11, 12, 13, 14, 15, 16, 17, 18, 19, 20] rfl rfl
      refine ar_iconst 75 (v := 0) d_154_74 rfl (by decide) ?_
      refine ar_istore 77 [(0, .ref s0), (1, .int (nof f 0 (E 4 14) nn 0 0)), (2, .ref (n + 329 + 22 * j + 1)), (3, .int (nI s)), (4, .int 0)] d_154_75 rfl (by decide) rfl ?_
      refine ar_wk [0, 2, 4] rfl (by simp) ?_
      have hS1 : AS s0 n nn gg C f q u b hb hp_4 (va_up (va_up (va_up (va_up (va_up (va_up (va_up E 100 (upd (upd (E 100) 7 0) 8 0)) 58 (upd (upd (E 58) 9 (nI cf)) 10 (D j 2 (s * 128 + 16)))) 59 (rrJ (D j 2) (s * 128) (ax_fill (ax_fill (E 59) 0 48 (-1)) 0 48 (-1)) cf)) 60 (ax_fill (ax_fill (E 60) 0 48 0) 0 48 0)) 63 (rrO (D j 2) (s * 128) (ax_fill (ax_fill (E 63) 0 512 (-1)) 0 512 (-1)) cf)) 64 (rrV (D j 2) (s * 128) (upd (ax_fill (ax_fill (E 64) 0 961 (-1)) 0 961 (-1)) 960 ((D j 2 (s * 128 + 1)) - (D j 2 (s * 128 + 1)) / 512 * 512)) cf)) 65 (ax_fill (ax_fill (E 65) 0 961 0) 0 961 0)) 0 Q ms := ⟨hF, hA, hN, hf, hn, hs, hp0⟩
      have hc := cN_le (jf := rrJ (D j 2) (s * 128) (ax_fill (ax_fill (E 59) 0 48 (-1)) 0 48 (-1)) cf) 48
      rw [← show ctS (D j 2) (cN (rrJ (D j 2) (s * 128) (ax_fill (ax_fill (E 59) 0 48 (-1)) 0 48 (-1)) cf) 48) 0 (va_up (va_up (va_up (va_up (va_up (va_up (va_up E 100 (upd (upd (E 100) 7 0) 8 0)) 58 (upd (upd (E 58) 9 (nI cf)) 10 (D j 2 (s * 128 + 16)))) 59 (rrJ (D j 2) (s * 128) (ax_fill (ax_fill (E 59) 0 48 (-1)) 0 48 (-1)) cf)) 60 (ax_fill (ax_fill (E 60) 0 48 0) 0 48 0)) 63 (rrO (D j 2) (s * 128) (ax_fill (ax_fill (E 63) 0 512 (-1)) 0 512 (-1)) cf)) 64 (rrV (D j 2) (s * 128) (upd (ax_fill (ax_fill (E 64) 0 961 (-1)) 0 961 (-1)) 960 ((D j 2 (s * 128 + 1)) - (D j 2 (s * 128 + 1)) / 512 * 512)) cf)) 65 (ax_fill (ax_fill (E 65) 0 961 0) 0 961 0)) 0 = ctF nn f E TK D from eq_ifT c1 (bnN_eq (cl_eq hj ej (by omega)) (eq_ifF (nI_ne1 hs8 hsk) (bnN_eq (cl_eq hs8 hsk) (bnN_eq hcf rfl))))]
      exact key j hj _ 0 _ hp_4 _ _ (Nat.zero_add _) hc hT1.2.2.2.2.1 hS1 hT1 hK.2.1 ⟨rfl, rfl, rfl, rfl, rfl, rfl, rfl⟩
  · have hS1 : AS s0 n nn gg C f q u b hb hp_3 (va_up (va_up (va_up (va_up (va_up (va_up (va_up E 100 (upd (upd (E 100) 7 0) 8 0)) 58 (upd (upd (E 58) 9 0) 10 0)) 59 (ax_fill (E 59) 0 48 (-1))) 60 (ax_fill (E 60) 0 48 0)) 63 (ax_fill (E 63) 0 512 (-1))) 64 (ax_fill (E 64) 0 961 (-1))) 65 (ax_fill (E 65) 0 961 0)) 0 Q ms := ⟨hF, hA, hN, hf, hn, hs, hp0⟩
    exact ar_ret d_154_38 rfl (⟨rfl, _, _, GS.as hsn hz hG0 hS1 hM (hE.ke ⟨rfl, rfl, rfl, rfl, rfl, rfl, rfl⟩) (hK.ke ⟨rfl, rfl, rfl, rfl, rfl, rfl, rfl⟩ hT0 hK.2.1), ⟨rfl, rfl, rfl, rfl, rfl, rfl, rfl⟩, eq_ifF c1 rfl⟩)

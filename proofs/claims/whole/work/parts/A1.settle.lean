/-! settle for every state: it comes to an end, all NODES are UP then -/

/-- a MESSAGE is taken and handed over -/
def thR (nn gg : Nat) (C : Int32) (f : Nat → Int32) (S S' : SS) : Prop := ∃ (x : Mg) (S1 : SS), tk0 x S S1 ∧ hoR nn gg C f x S1 S'
/-- all that is under way is handed over, or 1,000,000 of it -/
def drR (nn gg : Nat) (C : Int32) (f : Nat → Int32) (S S' : SS) : Prop := ∃ k : Nat, k ≤ 1000000 ∧ itR (thR nn gg C f) k S S' ∧ (k = 1000000 ∨ S'.2.2.1 = [])
/-- the rounds of settle from TICK t on, at most k of them -/
def stl (nn gg : Nat) (C : Int32) (f : Nat → Int32) : Nat → Nat → SS → SS → Prop
  | 0, _, S, S' => S' = S
  | k + 1, t, S, S' => (dnP nn gg f S ∧ S' = S) ∨ (¬ dnP nn gg f S ∧ ∃ S1 S2 : SS, ((t = 0 ∧ S1 = S) ∨ (¬ t = 0 ∧ tkR nn gg C f S S1)) ∧ drR nn gg C f S1 S2 ∧ stl nn gg C f k (t + 1) S2 S')
/-- the NODES from i on that are DOWN are started -/
def wkR (nn gg : Nat) (C : Int32) (f : Nat → Int32) : Nat → Nat → SS → SS → Prop
  | 0, _, S, S' => S' = S
  | k + 1, i, S, S' => (¬ S.2.2.2.1 i 0 6 = 0 ∧ wkR nn gg C f k (i + 1) S S') ∨ (S.2.2.2.1 i 0 6 = 0 ∧ ∃ (u b : Nat → Int32) (S1 : SS), nodR (F_18 nn gg C (nI i) f u b (S.2.2.2.1 i) (S.2.2.2.2.1 i) (S.2.2.2.2.2 i) S.2.2.1 (S.1 4 13) (S.1 4 14)) i S S1 ∧ wkR nn gg C f k (i + 1) S1 S')
/-- settle up to where it reads the catalogue -/
def seR (nn gg : Nat) (C : Int32) (f : Nat → Int32) (S Sf : SS) : Prop := ∃ (ms2 : List Mg) (S1 : SS), tmR nn 0 (S.1 4 13 + 1) (allN nn) nn 0 S.2.2.1 ms2 ∧ wkR nn gg C f nn 0 (drE (va_up S.1 100 (upd (S.1 100) 10 0)) (allN nn), S.2.1, ms2, S.2.2.2) S1 ∧ stl nn gg C f 2001 0 S1 Sf
/-- what settle leaves -/
def ctR (nn : Nat) (f : Nat → Int32) (TK : Int64) (Sf S' : SS) : Prop := S' = (va_up (ctF nn f (pbE Sf.1) TK Sf.2.2.2.1).1 100 (upd (upd ((ctF nn f (pbE Sf.1) TK Sf.2.2.2.1).1 100) 9 0) 10 1), Sf.2)
def allU (nn : Nat) (D : Nat → Nat → Nat → Int32) : Prop := ∀ j, j < nn → D j 0 6 = 1
theorem allU.gr {nn : Nat} {D D' : Nat → Nat → Nat → Int32} (h : allU nn D) (hR : GR nn D D') : allU nn D' := fun j hj => (hR j hj).trans (h j hj)
set_option maxRecDepth 100000 in
theorem gE_150 {Rf : SS → Prop} {L : Nat} {xs : Nat → Int32} {fr lo : Nat} {s0 n nn gg : Nat} {C ov : Int32} {f : Nat → Int32} {h0 : ax_H} {Z : ZT} {TK : Int64} (hfr : 10 ≤ fr) (hlo : 350 ≤ lo) (hC : CG s0 n nn gg f) {h : ax_H} {q : Nat} {u b : Nat → Int32} {E1 : Nat → Nat → Int32} {Q1 : Nat → Mg} {ms1 : List Mg} {D1 : Nat → Nat → Nat → Int32} {K1 A1 : Nat → Int64} (hG : GS Z s0 n nn gg C f q u b h0 h E1 TK Q1 ms1 D1 K1 A1) (hU : allU nn D1) (hRf : Rf (E1, Q1, ms1, D1, K1, A1)) : ax_A (ax_step L xs) ((150, 150, fr, lo), [(0, .ref s0), (1, .int ov)], [], h) (fun r h' => ∃ (y : Int32) (q : Nat) (u b : Nat → Int32) (E' : Nat → Nat → Int32) (TK' : Int64) (Q' : Nat → Mg) (ms' : List Mg) (D' : Nat → Nat → Nat → Int32) (K' A' : Nat → Int64), r = some (.int y) ∧ (∃ Sf : SS, Rf Sf ∧ ((¬ dnP nn gg f Sf ∧ y = -7 ∧ (E', Q', ms', D', K', A') = Sf) ∨ (dnP nn gg f Sf ∧ y = ov ∧ ctR nn f TK Sf (E', Q', ms', D', K', A')))) ∧ GS Z s0 n nn gg C f q u b h0 h' E' TK' Q' ms' D' K' A' ∧ allU nn D') := by
    have hC0 := hC
    obtain ⟨hs0, hsn, hnn3, hnn, hgg1, hgg, hRg⟩ := hC
    have hGk := hG
    have hGG := hG
    obtain ⟨hS, hG0, hM, hE, hK, hz⟩ := hG
    have hM0 := hM
    obtain ⟨hF, hA, hN, hf, hn, hs, hp0⟩ := hS
    replace hF : ax_hs h [cSt s0 n E1, cRk n nn gg C, cOr n nn gg f, cAs n E1, cEr n 5 512 E1, cEr n 6 100 E1, cEr n 7 2 E1, cAk n, cEr n 9 512 E1, cNa n nn, cEr n 0 48 E1, cEr n 1 961 E1, cTs n gg E1 TK, cEr n 59 48 E1, cEr n 60 48 E1, cEr n 61 48 E1, cEr n 62 2400 E1, cEr n 63 512 E1, cEr n 64 961 E1, cEr n 65 961 E1] := hF
    refine ar_aload_n 151 d_150_150 rfl rfl ?_
    refine ar_call (r := []) (na := 0) (kd := 0) (cm := 151) (fr2 := fr - 1) (lo2 := lo - 21) 154 d_150_151 (ar_hoV (as := []) rfl rfl rfl (hF.at 0 rfl)) rfl (by omega) (show lo - 21 + (19 + 2) = lo by omega) (Nat.le_of_ble_eq_true rfl) (Nat.le_of_ble_eq_true rfl) (g_151 (by omega) (by omega) hC0 hGk) ?_
    intro v hh hq
    obtain ⟨y, rfl, hy, ehh⟩ := hq
    rw [ehh]
    clear ehh
    rcases hy with ⟨rfl, hnd⟩ | ⟨rfl, hdn⟩
    · refine ar_if_ne 160 157 d_150_154 (by decide) rfl (fun c => absurd c (by decide)) (fun _ => ?_)
      refine ar_bipush 159 (v := -7) d_150_157 rfl (by decide) ?_
      exact ar_iret d_150_159 rfl rfl (⟨_, _, _, _, _, _, _, _, _, _, _, rfl, ⟨_, hRf, Or.inl ⟨hnd, rfl, rfl⟩⟩, hGk, hU⟩)
    · refine ar_if_ne 160 157 d_150_154 (by decide) rfl (fun _ => ?_) (fun c => absurd (by decide) c)
      refine ar_aload_n 161 d_150_160 rfl rfl ?_
      refine ar_getf 164 d_150_161 rfl (ci := 0) (k := 2) rfl (hF.at 0 rfl) rfl ?_
      have hS1 : AS s0 n nn gg C f q u b h h E1 TK Q1 ms1 := ⟨hF, hA, hN, hf, hn, hs, hp0⟩
      refine ar_call (r := []) (na := 0) (kd := 0) (cm := 153) (fr2 := fr - 1) (lo2 := lo - 20) 167 d_150_164 (ar_hoV (as := []) rfl rfl rfl (hF.at 3 rfl)) rfl (by omega) (show lo - 20 + (19 + 1) = lo by omega) (Nat.le_of_ble_eq_true rfl) (Nat.le_of_ble_eq_true rfl) (ek_153 (by omega) (by omega) hC0 hS1) ?_
      intro v hp_1 hq
      obtain ⟨rfl, hS2⟩ := hq
      have hG2 := GS.as hsn hz hG0 hS2 hM (hE.pub hdn.1) hK
      have hG2b := hG2
      have hGb := hG2b
      skip
      clear hF hA hN hf hn hs hp0 hG0 hM hE hK hz
      obtain ⟨hS, hG0, hM, hE, hK, hz⟩ := hGb
      obtain ⟨hF, hA, hN, hf, hn, hs, hp0⟩ := hS
      replace hF : ax_hs hp_1 [cSt s0 n (pbE E1), cRk n nn gg C, cOr n nn gg f, cAs n (pbE E1), cEr n 5 512 (pbE E1), cEr n 6 100 (pbE E1), cEr n 7 2 (pbE E1), cAk n, cEr n 9 512 (pbE E1), cNa n nn, cEr n 0 48 (pbE E1), cEr n 1 961 (pbE E1), cTs n gg (pbE E1) TK, cEr n 59 48 (pbE E1), cEr n 60 48 (pbE E1), cEr n 61 48 (pbE E1), cEr n 62 2400 (pbE E1), cEr n 63 512 (pbE E1), cEr n 64 961 (pbE E1), cEr n 65 961 (pbE E1)] := hF
      refine ar_aload_n 168 d_150_167 rfl rfl ?_
      refine ar_call (r := []) (na := 0) (kd := 0) (cm := 154) (fr2 := fr - 1) (lo2 := lo - 25) 171 d_150_168 (ar_hoV (as := []) rfl rfl rfl (hF.at 0 rfl)) rfl (by omega) (show lo - 25 + (19 + 6) = lo by omega) (Nat.le_of_ble_eq_true rfl) (Nat.le_of_ble_eq_true rfl) (g_154 (by omega) (by omega) hC0 hG2) ?_
      intro v hp_2 hq
      obtain ⟨rfl, E3, TK3, hG3, hke, hct⟩ := hq
      have hGb := hG3
      skip
      clear hF hA hN hf hn hs hp0 hG0 hM hE hK hz
      obtain ⟨hS, hG0, hM, hE, hK, hz⟩ := hGb
      obtain ⟨hF, hA, hN, hf, hn, hs, hp0⟩ := hS
      replace hF : ax_hs hp_2 [cSt s0 n E3, cRk n nn gg C, cOr n nn gg f, cAs n E3, cEr n 5 512 E3, cEr n 6 100 E3, cEr n 7 2 E3, cAk n, cEr n 9 512 E3, cNa n nn, cEr n 0 48 E3, cEr n 1 961 E3, cTs n gg E3 TK3, cEr n 59 48 E3, cEr n 60 48 E3, cEr n 61 48 E3, cEr n 62 2400 E3, cEr n 63 512 E3, cEr n 64 961 E3, cEr n 65 961 E3] := hF
      refine ar_aload_n 172 d_150_171 rfl rfl ?_
      refine ar_iconst 173 (v := 0) d_150_172 rfl (by decide) ?_
      refine ar_putf 176 [.ref (n + 264), .ref n, .ref (n + 266), .ref (n + 328), .ref (n + 320), .ref (n + 262), .ref (n + 263), .int (E3 100 7), .int (E3 100 8), .int 0, .int (E3 100 10)] d_150_173 rfl (ci := 0) (k := 9) rfl rfl (hF.at 0 rfl) (Nat.le_of_ble_eq_true rfl) rfl rfl rfl ?_
      replace hF : ax_hs (ax_put hp_2 s0 (.inr (0, [.ref (n + 264), .ref n, .ref (n + 266), .ref (n + 328), .ref (n + 320), .ref (n + 262), .ref (n + 263), .int (E3 100 7), .int (E3 100 8), .int 0, .int (E3 100 10)]))) [(s0, .inr (0, [.ref (n + 264), .ref n, .ref (n + 266), .ref (n + 328), .ref (n + 320), .ref (n + 262), .ref (n + 263), .int (E3 100 7), .int (E3 100 8), .int 0, .int (E3 100 10)])), cRk n nn gg C, cOr n nn gg f, cAs n E3, cEr n 5 512 E3, cEr n 6 100 E3, cEr n 7 2 E3, cAk n, cEr n 9 512 E3, cNa n nn, cEr n 0 48 E3, cEr n 1 961 E3, cTs n gg E3 TK3, cEr n 59 48 E3, cEr n 60 48 E3, cEr n 61 48 E3, cEr n 62 2400 E3, cEr n 63 512 E3, cEr n 64 961 E3, cEr n 65 961 E3] := hF.put 0 _ rfl rfl
      replace hf := hf.put (a := s0) (c := .inr (0, [.ref (n + 264), .ref n, .ref (n + 266), .ref (n + 328), .ref (n + 320), .ref (n + 262), .ref (n + 263), .int (E3 100 7), .int (E3 100 8), .int 0, .int (E3 100 10)])) (Or.inr (by omega))
      replace hN := hN.put (a := s0) (c := .inr (0, [.ref (n + 264), .ref n, .ref (n + 266), .ref (n + 328), .ref (n + 320), .ref (n + 262), .ref (n + 263), .int (E3 100 7), .int (E3 100 8), .int 0, .int (E3 100 10)])) (by omega)
      replace hA := hA.put (a := s0) (c := .inr (0, [.ref (n + 264), .ref n, .ref (n + 266), .ref (n + 328), .ref (n + 320), .ref (n + 262), .ref (n + 263), .int (E3 100 7), .int (E3 100 8), .int 0, .int (E3 100 10)])) (by omega)
      replace hn : (ax_put hp_2 s0 (.inr (0, [.ref (n + 264), .ref n, .ref (n + 266), .ref (n + 328), .ref (n + 320), .ref (n + 262), .ref (n + 263), .int (E3 100 7), .int (E3 100 8), .int 0, .int (E3 100 10)]))).1 = hp_2.1 := hn
      replace hs : (ax_put hp_2 s0 (.inr (0, [.ref (n + 264), .ref n, .ref (n + 266), .ref (n + 328), .ref (n + 320), .ref (n + 262), .ref (n + 263), .int (E3 100 7), .int (E3 100 8), .int 0, .int (E3 100 10)]))).2.1 = hp_2.2.1 := hs
      generalize ax_put hp_2 s0 (.inr (0, [.ref (n + 264), .ref n, .ref (n + 266), .ref (n + 328), .ref (n + 320), .ref (n + 262), .ref (n + 263), .int (E3 100 7), .int (E3 100 8), .int 0, .int (E3 100 10)])) = hp_3 at hF hf hA hN hn hs ⊢
      refine ar_aload_n 177 d_150_176 rfl rfl ?_
      refine ar_iconst 178 (v := 1) d_150_177 rfl (by decide) ?_
      refine ar_putf 181 [.ref (n + 264), .ref n, .ref (n + 266), .ref (n + 328), .ref (n + 320), .ref (n + 262), .ref (n + 263), .int (E3 100 7), .int (E3 100 8), .int 0, .int 1] d_150_178 rfl (ci := 0) (k := 10) rfl rfl (hF.at 0 rfl) (Nat.le_of_ble_eq_true rfl) rfl rfl rfl ?_
      replace hF : ax_hs (ax_put hp_3 s0 (.inr (0, [.ref (n + 264), .ref n, .ref (n + 266), .ref (n + 328), .ref (n + 320), .ref (n + 262), .ref (n + 263), .int (E3 100 7), .int (E3 100 8), .int 0, .int 1]))) [(s0, .inr (0, [.ref (n + 264), .ref n, .ref (n + 266), .ref (n + 328), .ref (n + 320), .ref (n + 262), .ref (n + 263), .int (E3 100 7), .int (E3 100 8), .int 0, .int 1])), cRk n nn gg C, cOr n nn gg f, cAs n E3, cEr n 5 512 E3, cEr n 6 100 E3, cEr n 7 2 E3, cAk n, cEr n 9 512 E3, cNa n nn, cEr n 0 48 E3, cEr n 1 961 E3, cTs n gg E3 TK3, cEr n 59 48 E3, cEr n 60 48 E3, cEr n 61 48 E3, cEr n 62 2400 E3, cEr n 63 512 E3, cEr n 64 961 E3, cEr n 65 961 E3] := hF.put 0 _ rfl rfl
      replace hf := hf.put (a := s0) (c := .inr (0, [.ref (n + 264), .ref n, .ref (n + 266), .ref (n + 328), .ref (n + 320), .ref (n + 262), .ref (n + 263), .int (E3 100 7), .int (E3 100 8), .int 0, .int 1])) (Or.inr (by omega))
      replace hN := hN.put (a := s0) (c := .inr (0, [.ref (n + 264), .ref n, .ref (n + 266), .ref (n + 328), .ref (n + 320), .ref (n + 262), .ref (n + 263), .int (E3 100 7), .int (E3 100 8), .int 0, .int 1])) (by omega)
      replace hA := hA.put (a := s0) (c := .inr (0, [.ref (n + 264), .ref n, .ref (n + 266), .ref (n + 328), .ref (n + 320), .ref (n + 262), .ref (n + 263), .int (E3 100 7), .int (E3 100 8), .int 0, .int 1])) (by omega)
      replace hn : (ax_put hp_3 s0 (.inr (0, [.ref (n + 264), .ref n, .ref (n + 266), .ref (n + 328), .ref (n + 320), .ref (n + 262), .ref (n + 263), .int (E3 100 7), .int (E3 100 8), .int 0, .int 1]))).1 = hp_2.1 := hn
      replace hs : (ax_put hp_3 s0 (.inr (0, [.ref (n + 264), .ref n, .ref (n + 266), .ref (n + 328), .ref (n + 320), .ref (n + 262), .ref (n + 263), .int (E3 100 7), .int (E3 100 8), .int 0, .int 1]))).2.1 = hp_2.2.1 := hs
      generalize ax_put hp_3 s0 (.inr (0, [.ref (n + 264), .ref n, .ref (n + 266), .ref (n + 328), .ref (n + 320), .ref (n + 262), .ref (n + 263), .int (E3 100 7), .int (E3 100 8), .int 0, .int 1])) = hp_4 at hF hf hA hN hn hs ⊢
      refine ar_iload_n 182 d_150_181 rfl rfl ?_
      have hS1 : AS s0 n nn gg C f q u b hp_2 hp_4 (va_up E3 100 (upd (upd (E3 100) 9 0) 10 1)) TK3 Q1 ms1 := ⟨hF, hA, hN, hf, hn, hs, hp0⟩
      have hG9 : GS Z s0 n nn gg C f q u b h0 hp_4 (va_up E3 100 (upd (upd (E3 100) 9 0) 10 1)) TK3 Q1 ms1 D1 K1 A1 := GS.as hsn hz hG0 hS1 hM hE ⟨hK.1, hK.2.1, Or.inr rfl⟩
      exact ar_iret d_150_182 rfl rfl (⟨_, _, _, _, va_up E3 100 (upd (upd (E3 100) 9 0) 10 1), _, _, _, _, _, _, rfl, ⟨_, hRf, Or.inr ⟨hdn, rfl, (by unfold ctR; rw [← hct])⟩⟩, hG9, hU⟩)
set_option maxRecDepth 100000 in
theorem gI_150 {L : Nat} {xs : Nat → Int32} {fr lo : Nat} {s0 n nn gg : Nat} {C ov : Int32} {f : Nat → Int32} {h0 : ax_H} {Z : ZT} {TK : Int64} {Sb : SS} {tv : Int32} {D : Nat → Nat → Nat → Int32} {post : ax_Po} (hfr : 10 ≤ fr) (hlo : 350 ≤ lo) (hC : CG s0 n nn gg f) (kk : (∀ (h : ax_H) (q : Nat) (u b : Nat → Int32) (E1 : Nat → Nat → Int32) (Q1 : Nat → Mg) (ms1 : List Mg) (D1 : Nat → Nat → Nat → Int32) (K1 A1 : Nat → Int64), GS Z s0 n nn gg C f q u b h0 h E1 TK Q1 ms1 D1 K1 A1 → GR nn D D1 → drR nn gg C f Sb (E1, Q1, ms1, D1, K1, A1) → ax_A (ax_step L xs) ((150, 144, fr, lo), [(0, .ref s0), (1, .int ov), (2, .int tv)], [], h) post)) : ∀ (k i : Nat) (h : ax_H) (q : Nat) (u b : Nat → Int32) (E1 : Nat → Nat → Int32) (Q1 : Nat → Mg) (ms1 : List Mg) (D1 : Nat → Nat → Nat → Int32) (K1 A1 : Nat → Int64), i + k = 1000000 → GS Z s0 n nn gg C f q u b h0 h E1 TK Q1 ms1 D1 K1 A1 → GR nn D D1 → itR (thR nn gg C f) i Sb (E1, Q1, ms1, D1, K1, A1) → ax_A (ax_step L xs) ((150, 110, fr, lo), [(0, .ref s0), (1, .int ov), (2, .int tv), (3, .int (nI i))], [], h) post := by
    have hC0 := hC
    obtain ⟨hs0, hsn, hnn3, hnn, hgg1, hgg, hRg⟩ := hC
    intro k
    induction k with
    | zero =>
      intro i h q u b E1 Q1 ms1 D1 K1 A1 hi hG hR hit
      have e0 : 1000000 = i := by omega
      subst e0
      have hGk := hG
      have hGG := hG
      obtain ⟨hS, hG0, hM, hE, hK, hz⟩ := hG
      have hM0 := hM
      obtain ⟨hF, hA, hN, hf, hn, hs, hp0⟩ := hS
      replace hF : ax_hs h [cSt s0 n E1, cRk n nn gg C, cOr n nn gg f, cAs n E1, cEr n 5 512 E1, cEr n 6 100 E1, cEr n 7 2 E1, cAk n, cEr n 9 512 E1, cNa n nn, cEr n 0 48 E1, cEr n 1 961 E1, cTs n gg E1 TK, cEr n 59 48 E1, cEr n 60 48 E1, cEr n 61 48 E1, cEr n 62 2400 E1, cEr n 63 512 E1, cEr n 64 961 E1, cEr n 65 961 E1] := hF
      refine ar_iload_n 111 d_150_110 rfl rfl ?_
      refine ar_ldc 113 d_150_111 rfl (v := 1000000) rfl ?_
      refine ar_icmp_ge 144 116 d_150_113 (by decide) rfl (fun _ => ?_) (fun c => absurd (Int32.le_refl _) c)
      refine ar_wk [0, 1, 2] rfl (by simp) ?_
      exact kk h _ _ _ _ _ _ _ _ _ hGk hR ⟨1000000, Nat.le_refl _, hit, Or.inl rfl⟩
    | succ k ih =>
      intro i h q u b E1 Q1 ms1 D1 K1 A1 hi hG hR hit
      have hGk := hG
      have hGG := hG
      obtain ⟨hS, hG0, hM, hE, hK, hz⟩ := hG
      have hM0 := hM
      obtain ⟨hF, hA, hN, hf, hn, hs, hp0⟩ := hS
      replace hF : ax_hs h [cSt s0 n E1, cRk n nn gg C, cOr n nn gg f, cAs n E1, cEr n 5 512 E1, cEr n 6 100 E1, cEr n 7 2 E1, cAk n, cEr n 9 512 E1, cNa n nn, cEr n 0 48 E1, cEr n 1 961 E1, cTs n gg E1 TK, cEr n 59 48 E1, cEr n 60 48 E1, cEr n 61 48 E1, cEr n 62 2400 E1, cEr n 63 512 E1, cEr n 64 961 E1, cEr n 65 961 E1] := hF
      refine ar_iload_n 111 d_150_110 rfl rfl ?_
      refine ar_ldc 113 d_150_111 rfl (v := 1000000) rfl ?_
      refine ar_icmp_ge 144 116 d_150_113 (by decide) rfl (fun c => absurd c (nI_ge (b := 1000000) (by omega) (by decide))) (fun _ => ?_)
      refine ar_aload_n 117 d_150_116 rfl rfl ?_
      refine ar_getf 120 d_150_117 rfl (ci := 0) (k := 1) rfl (hF.at 0 rfl) rfl ?_
      obtain ⟨hl128, za, zc, hnet⟩ := hN.netc
      refine ar_getf 123 d_150_120 rfl (ci := 1) (k := 1) rfl hnet rfl ?_
      refine ar_if_le 144 126 d_150_123 (by decide) rfl (fun c1 => ?_) (fun c1 => ?_)
      · refine ar_wk [0, 1, 2] rfl (by simp) ?_
        exact kk h _ _ _ _ _ _ _ _ _ hGk hR ⟨i, by omega, hit, Or.inr (show ms1 = [] from List.eq_nil_of_length_eq_zero (Nat.eq_zero_of_not_pos (fun z => nI_nle z (by omega) c1)))⟩
      · have hlen : 0 < ms1.length := Nat.pos_of_ne_zero (fun z => c1 (by rw [z]; exact Int32.le_refl _))
        refine ar_aload_n 127 d_150_126 rfl rfl ?_
        refine ar_aload_n 128 d_150_127 rfl rfl ?_
        refine ar_getf 131 d_150_128 rfl (ci := 0) (k := 1) rfl (hF.at 0 rfl) rfl ?_
        refine ar_iconst 132 (v := 0) d_150_131 rfl (by decide) ?_
        have hS1 : AS s0 n nn gg C f q u b h h E1 TK Q1 ms1 := ⟨hF, hA, hN, hf, hn, hs, hp0⟩
        refine ar_call (r := [.ref s0]) (na := 0) (kd := 0) (cm := 51) (fr2 := fr - 1) (lo2 := lo - 22) 135 d_150_132 (ar_hoV (as := [.int (nI 0)]) rfl rfl rfl hnet) rfl (by omega) (show lo - 22 + (19 + 3) = lo by omega) (Nat.le_of_ble_eq_true rfl) (Nat.le_of_ble_eq_true rfl) (hN.take0 (i := 0) hlen) ?_
        intro v hp_1 hq
        obtain ⟨q2, x2, ms2, rfl, hxk, hms2, hpm, hN2, hf2, hz1, hz2⟩ := hq
        have hG1 : GS Z s0 n nn gg C f q2 x2.1 x2.2 h0 hp_1 E1 TK Q1 ms2 D1 K1 A1 := GS.as hsn hz hG0 (hS1.take hsn hN2 hf2 hz1 hz2) (perm_mem hpm hM).2 hE hK
        replace hF : ax_hs hp_1 [cSt s0 n E1, cRk n nn gg C, cOr n nn gg f, cAs n E1, cEr n 5 512 E1, cEr n 6 100 E1, cEr n 7 2 E1, cAk n, cEr n 9 512 E1, cNa n nn, cEr n 0 48 E1, cEr n 1 961 E1, cTs n gg E1 TK, cEr n 59 48 E1, cEr n 60 48 E1, cEr n 61 48 E1, cEr n 62 2400 E1, cEr n 63 512 E1, cEr n 64 961 E1, cEr n 65 961 E1] := hG1.1.1
        refine ar_call (r := []) (na := 0) (kd := 0) (cm := 52) (fr2 := fr - 1) (lo2 := lo - 21) 138 d_150_135 (ar_hoV (as := [.ref (n + 1 + 1 + 2 * q2)]) rfl rfl rfl (hF.at 0 rfl)) rfl (by omega) (show lo - 21 + (19 + 2) = lo by omega) (Nat.le_of_ble_eq_true rfl) (Nat.le_of_ble_eq_true rfl) (g_52 (by omega) (by omega) hC0 hG1 (perm_mem hpm hM).1) ?_
        intro v hp_2 hq
        obtain ⟨rfl, E3, Q3, ms3, D3, K3, A3, hG3, hR3, he3, hr3⟩ := hq
        refine ar_iinc 141 [(0, .ref s0), (1, .int ov), (2, .int tv), (3, .int (nI (i + 1)))] d_150_138 rfl rfl (nI_1 i) (by decide) rfl ?_
        refine ar_goto 110 d_150_141 (by decide) ?_
        exact ih (i + 1) hp_2 _ _ _ _ _ _ _ _ _ (by omega) hG3 (hR.tr hR3) ⟨_, hit, x2, _, ⟨hxk, by rw [hms2]⟩, hr3⟩
set_option maxRecDepth 100000 in
theorem gT_150 {Rf : SS → Prop} {L : Nat} {xs : Nat → Int32} {fr lo : Nat} {s0 n nn gg : Nat} {C ov : Int32} {f : Nat → Int32} {h0 : ax_H} {Z : ZT} {TK : Int64} (hfr : 10 ≤ fr) (hlo : 350 ≤ lo) (hC : CG s0 n nn gg f) : ∀ (k t : Nat) (h : ax_H) (q : Nat) (u b : Nat → Int32) (E1 : Nat → Nat → Int32) (Q1 : Nat → Mg) (ms1 : List Mg) (D1 : Nat → Nat → Nat → Int32) (K1 A1 : Nat → Int64), t + k = 2001 → GS Z s0 n nn gg C f q u b h0 h E1 TK Q1 ms1 D1 K1 A1 → allU nn D1 → (∀ Sf, stl nn gg C f k t (E1, Q1, ms1, D1, K1, A1) Sf → Rf Sf) → ax_A (ax_step L xs) ((150, 86, fr, lo), [(0, .ref s0), (1, .int ov), (2, .int (nI t))], [], h) (fun r h' => ∃ (y : Int32) (q : Nat) (u b : Nat → Int32) (E' : Nat → Nat → Int32) (TK' : Int64) (Q' : Nat → Mg) (ms' : List Mg) (D' : Nat → Nat → Nat → Int32) (K' A' : Nat → Int64), r = some (.int y) ∧ (∃ Sf : SS, Rf Sf ∧ ((¬ dnP nn gg f Sf ∧ y = -7 ∧ (E', Q', ms', D', K', A') = Sf) ∨ (dnP nn gg f Sf ∧ y = ov ∧ ctR nn f TK Sf (E', Q', ms', D', K', A')))) ∧ GS Z s0 n nn gg C f q u b h0 h' E' TK' Q' ms' D' K' A' ∧ allU nn D') := by
    have hC0 := hC
    obtain ⟨hs0, hsn, hnn3, hnn, hgg1, hgg, hRg⟩ := hC
    intro k
    induction k with
    | zero =>
      intro t h q u b E1 Q1 ms1 D1 K1 A1 ht hG hU hRl
      have e0 : 2001 = t := by omega
      subst e0
      have hGk := hG
      have hGG := hG
      obtain ⟨hS, hG0, hM, hE, hK, hz⟩ := hG
      have hM0 := hM
      obtain ⟨hF, hA, hN, hf, hn, hs, hp0⟩ := hS
      replace hF : ax_hs h [cSt s0 n E1, cRk n nn gg C, cOr n nn gg f, cAs n E1, cEr n 5 512 E1, cEr n 6 100 E1, cEr n 7 2 E1, cAk n, cEr n 9 512 E1, cNa n nn, cEr n 0 48 E1, cEr n 1 961 E1, cTs n gg E1 TK, cEr n 59 48 E1, cEr n 60 48 E1, cEr n 61 48 E1, cEr n 62 2400 E1, cEr n 63 512 E1, cEr n 64 961 E1, cEr n 65 961 E1] := hF
      refine ar_iload_n 87 d_150_86 rfl rfl ?_
      refine ar_sipush 90 (v := 2000) d_150_87 rfl (by decide) ?_
      refine ar_icmp_gt 150 93 d_150_90 (by decide) rfl (fun _ => ?_) (fun c => absurd (by decide) c)
      refine ar_wk [0, 1] rfl (by simp) ?_
      exact gE_150 hfr hlo hC0 hGk hU (hRl _ rfl)
    | succ k ih =>
      intro t h q u b E1 Q1 ms1 D1 K1 A1 ht hG hU hRl
      have hGk := hG
      have hGG := hG
      obtain ⟨hS, hG0, hM, hE, hK, hz⟩ := hG
      have hM0 := hM
      obtain ⟨hF, hA, hN, hf, hn, hs, hp0⟩ := hS
      replace hF : ax_hs h [cSt s0 n E1, cRk n nn gg C, cOr n nn gg f, cAs n E1, cEr n 5 512 E1, cEr n 6 100 E1, cEr n 7 2 E1, cAk n, cEr n 9 512 E1, cNa n nn, cEr n 0 48 E1, cEr n 1 961 E1, cTs n gg E1 TK, cEr n 59 48 E1, cEr n 60 48 E1, cEr n 61 48 E1, cEr n 62 2400 E1, cEr n 63 512 E1, cEr n 64 961 E1, cEr n 65 961 E1] := hF
      refine ar_iload_n 87 d_150_86 rfl rfl ?_
      refine ar_sipush 90 (v := 2000) d_150_87 rfl (by decide) ?_
      refine ar_icmp_gt 150 93 d_150_90 (by decide) rfl (fun c => absurd c (fun z => absurd ((nI_ltI (a := 2000) (by decide) (by omega)).mp z) (by omega))) (fun _ => ?_)
      refine ar_aload_n 94 d_150_93 rfl rfl ?_
      refine ar_call (r := []) (na := 0) (kd := 0) (cm := 151) (fr2 := fr - 1) (lo2 := lo - 21) 97 d_150_94 (ar_hoV (as := []) rfl rfl rfl (hF.at 0 rfl)) rfl (by omega) (show lo - 21 + (19 + 2) = lo by omega) (Nat.le_of_ble_eq_true rfl) (Nat.le_of_ble_eq_true rfl) (g_151 (by omega) (by omega) hC0 hGk) ?_
      intro v hh hq
      obtain ⟨y, rfl, hy, ehh⟩ := hq
      rw [ehh]
      clear ehh
      refine ar_if_ne 150 100 d_150_97 (by decide) rfl (fun c1 => ?_) (fun c1 => ?_)
      · refine ar_wk [0, 1] rfl (by simp) ?_
        have hdn : dnP nn gg f (E1, Q1, ms1, D1, K1, A1) := by
          rcases hy with ⟨e, -⟩ | ⟨-, e⟩
          · exact absurd e c1
          · exact e
        exact gE_150 hfr hlo hC0 hGk hU (hRl _ (Or.inl ⟨hdn, rfl⟩))
      · have hnd : ¬ dnP nn gg f (E1, Q1, ms1, D1, K1, A1) := by
          rcases hy with ⟨-, e⟩ | ⟨e, -⟩
          · exact e
          · exact absurd (show y = 0 from Decidable.not_not.mp c1) (by rw [e]; decide)
        refine ar_iload_n 101 d_150_100 rfl rfl ?_
        refine ar_if_le 108 104 d_150_101 (by decide) rfl (fun c2 => ?_) (fun c2 => ?_)
        · refine ar_iconst 109 (v := 0) d_150_108 rfl (by decide) ?_
          refine ar_istore_n 110 [(0, .ref s0), (1, .int ov), (2, .int (nI t)), (3, .int 0)] d_150_109 rfl (by decide) rfl ?_
          refine gI_150 hfr hlo hC0 (fun h9 q9 u9 b9 E9 Q9 ms9 D9 K9 A9 hG9 hR9 hd9 => ?_) 1000000 0 h _ _ _ _ _ _ _ _ _ (by omega) hGk GR.rf rfl
          refine ar_iinc 147 [(0, .ref s0), (1, .int ov), (2, .int (nI (t + 1)))] d_150_144 rfl rfl (nI_1 t) (by decide) rfl ?_
          refine ar_goto 86 d_150_147 (by decide) ?_
          exact ih (t + 1) h9 _ _ _ _ _ _ _ _ _ (by omega) hG9 (hU.gr hR9) (fun Sf z => hRl Sf (Or.inr ⟨hnd, _, _, Or.inl ⟨Nat.eq_zero_of_not_pos (fun z => nI_nle z (by omega) c2), rfl⟩, hd9, z⟩))
        · refine ar_aload_n 105 d_150_104 rfl rfl ?_
          refine ar_call (r := []) (na := 0) (kd := 0) (cm := 133) (fr2 := fr - 1) (lo2 := lo - 21) 108 d_150_105 (ar_hoV (as := []) rfl rfl rfl (hF.at 0 rfl)) rfl (by omega) (show lo - 21 + (19 + 2) = lo by omega) (Nat.le_of_ble_eq_true rfl) (Nat.le_of_ble_eq_true rfl) (g_133 (by omega) (by omega) hC0 hGk) ?_
          intro v hp_1 hq
          obtain ⟨rfl, E3, Q3, ms3, D3, K3, A3, hG3, hR3, he3, hr3⟩ := hq
          refine ar_iconst 109 (v := 0) d_150_108 rfl (by decide) ?_
          refine ar_istore_n 110 [(0, .ref s0), (1, .int ov), (2, .int (nI t)), (3, .int 0)] d_150_109 rfl (by decide) rfl ?_
          refine gI_150 hfr hlo hC0 (fun h9 q9 u9 b9 E9 Q9 ms9 D9 K9 A9 hG9 hR9 hd9 => ?_) 1000000 0 hp_1 _ _ _ _ _ _ _ _ _ (by omega) hG3 GR.rf rfl
          refine ar_iinc 147 [(0, .ref s0), (1, .int ov), (2, .int (nI (t + 1)))] d_150_144 rfl rfl (nI_1 t) (by decide) rfl ?_
          refine ar_goto 86 d_150_147 (by decide) ?_
          exact ih (t + 1) h9 _ _ _ _ _ _ _ _ _ (by omega) hG9 ((hU.gr hR3).gr hR9) (fun Sf z => hRl Sf (Or.inr ⟨hnd, _, _, Or.inr ⟨fun z => c2 (by rw [z]; exact Int32.le_refl _), hr3⟩, hd9, z⟩))
set_option maxRecDepth 100000 in
theorem gD_150 {Rf : SS → Prop} {L : Nat} {xs : Nat → Int32} {fr lo : Nat} {s0 n nn gg : Nat} {C ov : Int32} {f : Nat → Int32} {h0 : ax_H} {Z : ZT} {TK : Int64} (hfr : 10 ≤ fr) (hlo : 350 ≤ lo) (hC : CG s0 n nn gg f) : ∀ (k i : Nat) (h : ax_H) (q : Nat) (u b : Nat → Int32) (E1 : Nat → Nat → Int32) (Q1 : Nat → Mg) (ms1 : List Mg) (D1 : Nat → Nat → Nat → Int32) (K1 A1 : Nat → Int64), i + k = nn → GS Z s0 n nn gg C f q u b h0 h E1 TK Q1 ms1 D1 K1 A1 → (∀ j, j < i → D1 j 0 6 = 1) → (∀ S1 Sf, wkR nn gg C f k i (E1, Q1, ms1, D1, K1, A1) S1 → stl nn gg C f 2001 0 S1 Sf → Rf Sf) → ax_A (ax_step L xs) ((150, 34, fr, lo), [(0, .ref s0), (1, .int ov), (2, .int (nI i))], [], h) (fun r h' => ∃ (y : Int32) (q : Nat) (u b : Nat → Int32) (E' : Nat → Nat → Int32) (TK' : Int64) (Q' : Nat → Mg) (ms' : List Mg) (D' : Nat → Nat → Nat → Int32) (K' A' : Nat → Int64), r = some (.int y) ∧ (∃ Sf : SS, Rf Sf ∧ ((¬ dnP nn gg f Sf ∧ y = -7 ∧ (E', Q', ms', D', K', A') = Sf) ∨ (dnP nn gg f Sf ∧ y = ov ∧ ctR nn f TK Sf (E', Q', ms', D', K', A')))) ∧ GS Z s0 n nn gg C f q u b h0 h' E' TK' Q' ms' D' K' A' ∧ allU nn D') := by
    have hC0 := hC
    obtain ⟨hs0, hsn, hnn3, hnn, hgg1, hgg, hRg⟩ := hC
    intro k
    induction k with
    | zero =>
      intro i h q u b E1 Q1 ms1 D1 K1 A1 hi hG hU hRl
      have e0 : nn = i := by omega
      subst e0
      have hGk := hG
      have hGG := hG
      obtain ⟨hS, hG0, hM, hE, hK, hz⟩ := hG
      have hM0 := hM
      obtain ⟨hF, hA, hN, hf, hn, hs, hp0⟩ := hS
      replace hF : ax_hs h [cSt s0 n E1, cRk n nn gg C, cOr n nn gg f, cAs n E1, cEr n 5 512 E1, cEr n 6 100 E1, cEr n 7 2 E1, cAk n, cEr n 9 512 E1, cNa n nn, cEr n 0 48 E1, cEr n 1 961 E1, cTs n gg E1 TK, cEr n 59 48 E1, cEr n 60 48 E1, cEr n 61 48 E1, cEr n 62 2400 E1, cEr n 63 512 E1, cEr n 64 961 E1, cEr n 65 961 E1] := hF
      refine ar_iload_n 35 d_150_34 rfl rfl ?_
      refine ar_aload_n 36 d_150_35 rfl rfl ?_
      refine ar_getf 39 d_150_36 rfl (ci := 0) (k := 3) rfl (hF.at 0 rfl) rfl ?_
      refine ar_alen 40 d_150_39 rfl (hF.at 9 rfl) (by decide) ?_
      refine ar_icmp_ge 84 43 d_150_40 (by decide) rfl (fun _ => ?_) (fun c => absurd (Int32.le_refl _) c)
      refine ar_iconst 85 (v := 0) d_150_84 rfl (by decide) ?_
      refine ar_istore_n 86 [(0, .ref s0), (1, .int ov), (2, .int 0)] d_150_85 rfl (by decide) rfl ?_
      exact gT_150 hfr hlo hC0 2001 0 h _ _ _ _ _ _ _ _ _ (by omega) hGk hU (fun Sf z => hRl _ Sf rfl z)
    | succ k ih =>
      intro i h q u b E1 Q1 ms1 D1 K1 A1 hi hG hU hRl
      have hic : i < nn := by omega
      have hGk := hG
      have hGG := hG
      obtain ⟨hS, hG0, hM, hE, hK, hz⟩ := hG
      have hM0 := hM
      obtain ⟨hF, hA, hN, hf, hn, hs, hp0⟩ := hS
      replace hF : ax_hs h [cSt s0 n E1, cRk n nn gg C, cOr n nn gg f, cAs n E1, cEr n 5 512 E1, cEr n 6 100 E1, cEr n 7 2 E1, cAk n, cEr n 9 512 E1, cNa n nn, cEr n 0 48 E1, cEr n 1 961 E1, cTs n gg E1 TK, cEr n 59 48 E1, cEr n 60 48 E1, cEr n 61 48 E1, cEr n 62 2400 E1, cEr n 63 512 E1, cEr n 64 961 E1, cEr n 65 961 E1] := hF
      refine ar_iload_n 35 d_150_34 rfl rfl ?_
      refine ar_aload_n 36 d_150_35 rfl rfl ?_
      refine ar_getf 39 d_150_36 rfl (ci := 0) (k := 3) rfl (hF.at 0 rfl) rfl ?_
      refine ar_alen 40 d_150_39 rfl (hF.at 9 rfl) (by decide) ?_
      refine ar_icmp_ge 84 43 d_150_40 (by decide) rfl (fun c => absurd c (nI_ge hic (by omega))) (fun _ => ?_)
      refine ar_aload_n 44 d_150_43 rfl rfl ?_
      refine ar_getf 47 d_150_44 rfl (ci := 0) (k := 3) rfl (hF.at 0 rfl) rfl ?_
      refine ar_iload_n 48 d_150_47 rfl rfl ?_
      refine ar_aald 49 d_150_48 rfl (hF.at 9 rfl) rfl (vin hic (by omega)) ?_
      refine ar_tv (v' := .ref (n + 329 + 22 * i)) (ndr hnn hic) ?_
      refine ar_getf 52 d_150_49 rfl (ci := 7) (k := 6) rfl (hf.g ((hG0 i hic).1.at 0 rfl) (by unfold ASA NTA; omega)) rfl ?_
      refine ar_if_ne 78 55 d_150_52 (by decide) rfl (fun c1 => ?_) (fun c1 => ?_)
      · refine ar_iinc 81 [(0, .ref s0), (1, .int ov), (2, .int (nI (i + 1)))] d_150_78 rfl rfl (nI_1 i) (by decide) rfl ?_
        refine ar_goto 34 d_150_81 (by decide) ?_
        have hu1 : D1 i 0 6 = 1 := (hG0 i hic).2.2.resolve_left c1
        exact ih (i + 1) h _ _ _ _ _ _ _ _ _ (by omega) hGk (fun j hj => by
          by_cases e : j = i
          · rw [e]; exact hu1
          · exact hU j (by omega)) (fun S9 Sf z z2 => hRl S9 Sf (Or.inl ⟨c1, z⟩) z2)
      · refine ar_aload_n 56 d_150_55 rfl rfl ?_
        refine ar_getf 59 d_150_56 rfl (ci := 0) (k := 3) rfl (hF.at 0 rfl) rfl ?_
        refine ar_iload_n 60 d_150_59 rfl rfl ?_
        refine ar_aald 61 d_150_60 rfl (hF.at 9 rfl) rfl (vin hic (by omega)) ?_
        refine ar_tv (v' := .ref (n + 329 + 22 * i)) (ndr hnn hic) ?_
        refine ar_aload_n 62 d_150_61 rfl rfl ?_
        refine ar_getf 65 d_150_62 rfl (ci := 0) (k := 2) rfl (hF.at 0 rfl) rfl ?_
        refine ar_getf 68 d_150_65 rfl (ci := 4) (k := 13) rfl (hF.at 3 rfl) rfl ?_
        refine ar_aload_n 69 d_150_68 rfl rfl ?_
        refine ar_getf 72 d_150_69 rfl (ci := 0) (k := 2) rfl (hF.at 0 rfl) rfl ?_
        refine ar_getf 75 d_150_72 rfl (ci := 4) (k := 14) rfl (hF.at 3 rfl) rfl ?_
        have hNS := hGk.ns hic
        rw [Decidable.not_not.mp c1] at hNS
        refine ar_call (r := []) (na := 0) (kd := 0) (cm := 18) (fr2 := fr - 1) (lo2 := lo - 22) 78 d_150_75 (ar_hoV (as := [.int (E1 4 13), .int (E1 4 14)]) rfl rfl rfl (hf.g ((hG0 i hic).1.at 0 rfl) (by unfold ASA NTA; omega))) rfl (by omega) (show lo - 22 + (19 + 3) = lo by omega) (Nat.le_of_ble_eq_true rfl) (Nat.le_of_ble_eq_true rfl) (s_18 (by omega) (by omega) hC0.cs hNS (hGk.2.1 i hic).2.1) ?_
        intro v hp_1 hq
        obtain ⟨rfl, Dx, Kx, Ax, Yx, hSx, hIx, hEx, -⟩ := hq
        obtain ⟨ms2, hsm, hG2⟩ := GS.nd hsn hGk hic hSx hIx (Or.inr rfl)
        refine ar_iinc 81 [(0, .ref s0), (1, .int ov), (2, .int (nI (i + 1)))] d_150_78 rfl rfl (nI_1 i) (by decide) rfl ?_
        refine ar_goto 34 d_150_81 (by decide) ?_
        exact ih (i + 1) hp_1 _ _ _ _ _ _ _ _ _ (by omega) hG2 (fun j hj => by
          by_cases e : j = i
          · rw [e, va_up_s]; exact hSx.2.2.2.2.2.2
          · rw [va_up_n _ _ e]; exact hU j (by omega)) (fun S9 Sf z z2 => hRl S9 Sf (Or.inr ⟨Decidable.not_not.mp c1, _, _, _, nodR_mk hEx hsm, z⟩) z2)
set_option maxRecDepth 100000 in
theorem g_150 {L : Nat} {xs : Nat → Int32} {fr lo : Nat} {s0 n nn gg : Nat} {C : Int32} {f : Nat → Int32} {q : Nat} {u b : Nat → Int32} {h0 h : ax_H} {Z : ZT} {D : Nat → Nat → Nat → Int32} {K A : Nat → Int64} {E : Nat → Nat → Int32} {TK : Int64} {Q : Nat → Mg} {ms : List Mg}  (hfr : 10 ≤ fr) (hlo : 350 ≤ lo) (hC : CG s0 n nn gg f) (hG : GS Z s0 n nn gg C f q u b h0 h E TK Q ms D K A) : ax_M L xs 150 fr lo [.ref s0] h (fun r h' => ∃ (y : Int32) (q : Nat) (u b : Nat → Int32) (E' : Nat → Nat → Int32) (TK' : Int64) (Q' : Nat → Mg) (ms' : List Mg) (D' : Nat → Nat → Nat → Int32) (K' A' : Nat → Int64), r = some (.int y) ∧ (∃ Sf : SS, seR nn gg C f (E, Q, ms, D, K, A) Sf ∧ ((¬ dnP nn gg f Sf ∧ y = -7 ∧ (E', Q', ms', D', K', A') = Sf) ∨ (dnP nn gg f Sf ∧ y = E 4 8 - E 4 10 ∧ ctR nn f TK Sf (E', Q', ms', D', K', A')))) ∧ GS Z s0 n nn gg C f q u b h0 h' E' TK' Q' ms' D' K' A' ∧ allU nn D') := by
  have hC0 := hC
  show ax_A (ax_step L xs) ((150, 0, fr, lo), [(0, .ref s0)], [], h) _
  obtain ⟨hs0, hsn, hnn3, hnn, hgg1, hgg, hRg⟩ := hC
  have hGG := hG
  obtain ⟨hS, hG0, hM, hE, hK, hz⟩ := hG
  have hM0 := hM
  obtain ⟨hF, hA, hN, hf, hn, hs, hp0⟩ := hS
  replace hF : ax_hs h [cSt s0 n E, cRk n nn gg C, cOr n nn gg f, cAs n E, cEr n 5 512 E, cEr n 6 100 E, cEr n 7 2 E, cAk n, cEr n 9 512 E, cNa n nn, cEr n 0 48 E, cEr n 1 961 E, cTs n gg E TK, cEr n 59 48 E, cEr n 60 48 E, cEr n 61 48 E, cEr n 62 2400 E, cEr n 63 512 E, cEr n 64 961 E, cEr n 65 961 E] := hF
  refine ar_aload_n 1 d_150_0 rfl rfl ?_
  refine ar_iconst 2 (v := 0) d_150_1 rfl (by decide) ?_
  refine ar_putf 5 [.ref (n + 264), .ref n, .ref (n + 266), .ref (n + 328), .ref (n + 320), .ref (n + 262), .ref (n + 263), .int (E 100 7), .int (E 100 8), .int (E 100 9), .int 0] d_150_2 rfl (ci := 0) (k := 10) rfl rfl (hF.at 0 rfl) (Nat.le_of_ble_eq_true rfl) rfl rfl rfl ?_
  replace hF : ax_hs (ax_put h s0 (.inr (0, [.ref (n + 264), .ref n, .ref (n + 266), .ref (n + 328), .ref (n + 320), .ref (n + 262), .ref (n + 263), .int (E 100 7), .int (E 100 8), .int (E 100 9), .int 0]))) [(s0, .inr (0, [.ref (n + 264), .ref n, .ref (n + 266), .ref (n + 328), .ref (n + 320), .ref (n + 262), .ref (n + 263), .int (E 100 7), .int (E 100 8), .int (E 100 9), .int 0])), cRk n nn gg C, cOr n nn gg f, cAs n E, cEr n 5 512 E, cEr n 6 100 E, cEr n 7 2 E, cAk n, cEr n 9 512 E, cNa n nn, cEr n 0 48 E, cEr n 1 961 E, cTs n gg E TK, cEr n 59 48 E, cEr n 60 48 E, cEr n 61 48 E, cEr n 62 2400 E, cEr n 63 512 E, cEr n 64 961 E, cEr n 65 961 E] := hF.put 0 _ rfl rfl
  replace hf := hf.put (a := s0) (c := .inr (0, [.ref (n + 264), .ref n, .ref (n + 266), .ref (n + 328), .ref (n + 320), .ref (n + 262), .ref (n + 263), .int (E 100 7), .int (E 100 8), .int (E 100 9), .int 0])) (Or.inr (by omega))
  replace hN := hN.put (a := s0) (c := .inr (0, [.ref (n + 264), .ref n, .ref (n + 266), .ref (n + 328), .ref (n + 320), .ref (n + 262), .ref (n + 263), .int (E 100 7), .int (E 100 8), .int (E 100 9), .int 0])) (by omega)
  replace hA := hA.put (a := s0) (c := .inr (0, [.ref (n + 264), .ref n, .ref (n + 266), .ref (n + 328), .ref (n + 320), .ref (n + 262), .ref (n + 263), .int (E 100 7), .int (E 100 8), .int (E 100 9), .int 0])) (by omega)
  replace hn : (ax_put h s0 (.inr (0, [.ref (n + 264), .ref n, .ref (n + 266), .ref (n + 328), .ref (n + 320), .ref (n + 262), .ref (n + 263), .int (E 100 7), .int (E 100 8), .int (E 100 9), .int 0]))).1 = h.1 := hn
  replace hs : (ax_put h s0 (.inr (0, [.ref (n + 264), .ref n, .ref (n + 266), .ref (n + 328), .ref (n + 320), .ref (n + 262), .ref (n + 263), .int (E 100 7), .int (E 100 8), .int (E 100 9), .int 0]))).2.1 = h.2.1 := hs
  generalize ax_put h s0 (.inr (0, [.ref (n + 264), .ref n, .ref (n + 266), .ref (n + 328), .ref (n + 320), .ref (n + 262), .ref (n + 263), .int (E 100 7), .int (E 100 8), .int (E 100 9), .int 0])) = hp_1 at hF hf hA hN hn hs ⊢
  refine ar_aload_n 6 d_150_5 rfl rfl ?_
  refine ar_getf 9 d_150_6 rfl (ci := 0) (k := 2) rfl (hF.at 0 rfl) rfl ?_
  refine ar_getf 12 d_150_9 rfl (ci := 4) (k := 8) rfl (hF.at 3 rfl) rfl ?_
  refine ar_aload_n 13 d_150_12 rfl rfl ?_
  refine ar_getf 16 d_150_13 rfl (ci := 0) (k := 2) rfl (hF.at 0 rfl) rfl ?_
  refine ar_getf 19 d_150_16 rfl (ci := 4) (k := 10) rfl (hF.at 3 rfl) rfl ?_
  refine ar_isub 20 d_150_19 rfl ?_
  refine ar_istore_n 21 [(0, .ref s0), (1, .int ((E 4 8) - (E 4 10)))] d_150_20 rfl (by decide) rfl ?_
  refine ar_aload_n 22 d_150_21 rfl rfl ?_
  refine ar_getf 25 d_150_22 rfl (ci := 0) (k := 2) rfl (hF.at 0 rfl) rfl ?_
  refine ar_aload_n 26 d_150_25 rfl rfl ?_
  refine ar_call (r := [.ref (n + 266)]) (na := 0) (kd := 0) (cm := 146) (fr2 := fr - 1) (lo2 := lo - 20) 29 d_150_26 (ar_hoV (as := []) rfl rfl rfl (hF.at 0 rfl)) rfl (by omega) (show lo - 20 + (19 + 1) = lo by omega) (Nat.le_of_ble_eq_true rfl) (Nat.le_of_ble_eq_true rfl) (c_146 (hF.sub (F' := [(s0, .inr (0, [.ref (n + 264), .ref n, .ref (n + 266), .ref (n + 328), .ref (n + 320), .ref (n + 262), .ref (n + 263), .int (E 100 7), .int (E 100 8), .int (E 100 9), .int 0])), cRk n nn gg C]) [0, 1] rfl rfl)) ?_
  intro v hh hq
  obtain ⟨rfl, ehh⟩ := hq
  rw [ehh]
  clear ehh
  have hS1 : AS s0 n nn gg C f q u b h hp_1 (va_up E 100 (upd (E 100) 10 0)) TK Q ms := ⟨hF, hA, hN, hf, hn, hs, hp0⟩
  refine ar_call (r := []) (na := 0) (kd := 0) (cm := 147) (fr2 := fr - 1) (lo2 := lo - 21) 32 d_150_29 (ar_hoV (as := [.int (allN nn)]) rfl rfl rfl (hF.at 3 rfl)) rfl (by omega) (show lo - 21 + (19 + 2) = lo by omega) (Nat.le_of_ble_eq_true rfl) (Nat.le_of_ble_eq_true rfl) (ek_147 (by omega) (by omega) hC0 hS1) ?_
  intro v hp_2 hq
  obtain ⟨rfl, ms2, hS2, hr2⟩ := hq
  have hG2 := GS.as hsn hz hG0 hS2 (hr2.mi hM) (EI.dr hE) ⟨hK.1, hK.2.1, Or.inl rfl⟩
  refine ar_iconst 33 (v := 0) d_150_32 rfl (by decide) ?_
  refine ar_istore_n 34 [(0, .ref s0), (1, .int ((E 4 8) - (E 4 10))), (2, .int 0)] d_150_33 rfl (by decide) rfl ?_
  exact gD_150 hfr hlo hC0 nn 0 hp_2 _ _ _ _ _ _ _ _ _ (by omega) hG2 (fun j hj => absurd hj (by omega)) (fun S9 Sf z z2 => ⟨ms2, S9, hr2, z, z2⟩)

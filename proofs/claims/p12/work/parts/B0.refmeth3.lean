/-! Int32 by its bits (rows out of kit/laws/BITS.to-paste), and the reference's crash, restart, map, replace, bits, exactly -/
def bt (x : Int32) (i : Nat) : Bool := x.toBitVec.getLsbD i
theorem b_ext {x y : Int32} (h : ∀ i, i < 32 → bt x i = bt y i) : x = y := Int32.toBitVec_inj.mp (BitVec.eq_of_getLsbD_eq (fun i hi => h i hi))
theorem b_and (x y : Int32) (i : Nat) : bt (x &&& y) i = (bt x i && bt y i) := by unfold bt; rw [Int32.toBitVec_and, BitVec.getLsbD_and]
theorem b_xor (x y : Int32) (i : Nat) : bt (x ^^^ y) i = (bt x i ^^ bt y i) := by unfold bt; rw [Int32.toBitVec_xor, BitVec.getLsbD_xor]
theorem b_0 (i : Nat) : bt 0 i = false := BitVec.getLsbD_zero
theorem s_l : ∀ n, n < 32 → ((nI n &&& 31).toBitVec.smod 32).toNat = n := by decide +kernel
theorem b_shl (n : Nat) (hn : n < 32) (x : Int32) {i : Nat} (hi : i < 32) : bt (x <<< (nI n &&& 31)) i = (decide (n ≤ i) && bt x (i - n)) := by
  unfold bt
  rw [Int32.toBitVec_shiftLeft]
  show (x.toBitVec <<< ((nI n &&& 31).toBitVec.smod 32).toNat).getLsbD i = _
  rw [s_l n hn, BitVec.getLsbD_shiftLeft]
  rcases Nat.lt_or_ge i n with h | h
  · simp [h, Nat.not_le.mpr h]
  · simp [hi, h, Nat.not_lt.mpr h]
theorem b_sshr (n : Nat) (hn : n < 32) (x : Int32) {i : Nat} (hi : i < 32) : bt (x >>> (nI n &&& 31)) i = if n + i < 32 then bt x (n + i) else bt x 31 := by
  unfold bt
  rw [Int32.toBitVec_shiftRight]
  show (x.toBitVec.sshiftRight ((nI n &&& 31).toBitVec.smod 32).toNat).getLsbD i = _
  rw [s_l n hn, BitVec.getLsbD_sshiftRight, BitVec.msb_eq_getLsbD_last]
  simp [hi]

theorem bt_1 : ∀ i, i < 32 → bt 1 i = decide (i = 0) := by decide +kernel
theorem bitz (x : Int32) {j : Nat} (hj : j < 32) : (x >>> (nI j &&& 31)) &&& 1 = 0 ↔ bt x j = false := by
  constructor
  · intro h
    have h1 : bt ((x >>> (nI j &&& 31)) &&& 1) 0 = bt 0 0 := by rw [h]
    rw [b_and, b_sshr j hj x (by omega), if_pos (by omega), bt_1 0 (by omega), b_0] at h1
    simpa using h1
  · intro h
    refine b_ext (fun i hi => ?_)
    rw [b_and, b_0, bt_1 i hi]
    by_cases e : i = 0
    · subst e
      rw [b_sshr j hj x hi, if_pos (by omega), Nat.add_zero, h]
      rfl
    · simp [e]
theorem b_flip (x : Int32) {i j : Nat} (hi : i < 32) (hj : j < 32) : bt (x ^^^ ((1 : Int32) <<< (nI j &&& 31))) i = if i = j then !(bt x i) else bt x i := by
  rw [b_xor, b_shl j hj 1 hi]
  by_cases e : i = j
  · subst e
    rw [if_pos rfl, Nat.sub_self, bt_1 0 (by omega)]
    simp
  · rw [if_neg e]
    by_cases h : j ≤ i
    · rw [bt_1 (i - j) (by omega)]
      have : ¬ i - j = 0 := by omega
      simp [this]
    · simp [h]
theorem b_all {nn : Nat} (h3 : 3 ≤ nn) (h6 : nn ≤ 6) : ∀ j, j < nn → bt (allN nn) j = true := by
  have hk : nn = 3 ∨ nn = 4 ∨ nn = 5 ∨ nn = 6 := by omega
  rcases hk with rfl | rfl | rfl | rfl <;> decide +kernel
/-- s & (s - 1) is less -/
theorem bits_lt {s : Int32} (h : ¬ s = 0) : (s &&& (s - 1)).toBitVec.toNat < s.toBitVec.toNat := by
  have h0 : ¬ s.toBitVec.toNat = 0 := fun z => h (Int32.toBitVec_inj.mp (BitVec.eq_of_toNat_eq z))
  rw [Int32.toBitVec_and, BitVec.toNat_and]
  have h1 : (s - 1).toBitVec.toNat = s.toBitVec.toNat - 1 := by
    rw [Int32.toBitVec_sub, BitVec.toNat_sub]
    have h2 : (1 : Int32).toBitVec.toNat = 1 := by decide
    rw [h2]
    have h3 := s.toBitVec.isLt
    omega
  have := Nat.and_le_right (n := s.toBitVec.toNat) (m := (s - 1).toBitVec.toNat)
  omega
theorem r_218 {L : Nat} {xs : Nat → Int32} {fr lo : Nat} {h : ax_H} {x : Int32} : ax_M L xs 218 fr lo [.int x] h (fun r h' => ∃ y : Int32, r = some (.int y) ∧ h' = h) := by
  have key : ∀ (N : Nat) (s cv : Int32), s.toBitVec.toNat ≤ N → ax_A (ax_step L xs) ((218, 4, fr, lo), [(1, .int cv), (2, .int s)], [], h) (fun r h' => ∃ y : Int32, r = some (.int y) ∧ h' = h) := by
    intro N
    induction N with
    | zero =>
      intro s cv hN
      have e0 : s = 0 := Int32.toBitVec_inj.mp (BitVec.eq_of_toNat_eq (Nat.le_zero.mp hN))
      refine ar_iload_n 5 d_218_4 rfl rfl ?_
      refine ar_if_eq 20 8 d_218_5 (by decide) rfl (fun _ => ?_) (fun c => absurd (e0) c)
      refine ar_iload_n 21 d_218_20 rfl rfl ?_
      exact ar_iret d_218_21 rfl rfl (⟨_, rfl, rfl⟩)
    | succ N ih =>
      intro s cv hN
      refine ar_iload_n 5 d_218_4 rfl rfl ?_
      refine ar_if_eq 20 8 d_218_5 (by decide) rfl (fun c1 => ?_) (fun c1 => ?_)
      · refine ar_iload_n 21 d_218_20 rfl rfl ?_
        exact ar_iret d_218_21 rfl rfl (⟨_, rfl, rfl⟩)
      · refine ar_iinc 11 [(1, .int (cv + 1)), (2, .int s)] d_218_8 rfl rfl (rfl) (by decide) rfl ?_
        refine ar_iload_n 12 d_218_11 rfl rfl ?_
        refine ar_iload_n 13 d_218_12 rfl rfl ?_
        refine ar_iconst 14 (v := 1) d_218_13 rfl (by decide) ?_
        refine ar_isub 15 d_218_14 rfl ?_
        refine ar_iand 16 d_218_15 rfl ?_
        refine ar_istore_n 17 [(1, .int (cv + 1)), (2, .int (s &&& (s - 1)))] d_218_16 rfl (by decide) rfl ?_
        refine ar_goto 4 d_218_17 (by decide) ?_
        exact ih _ _ (by have := bits_lt c1; omega)
  show ax_A (ax_step L xs) ((218, 0, fr, lo), [(0, .int x)], [], h) _
  refine ar_iconst 1 (v := 0) d_218_0 rfl (by decide) ?_
  refine ar_istore_n 2 [(0, .int x), (1, .int 0)] d_218_1 rfl (by decide) rfl ?_
  refine ar_iload_n 3 d_218_2 rfl rfl ?_
  refine ar_istore_n 4 [(0, .int x), (1, .int 0), (2, .int x)] d_218_3 rfl (by decide) rfl ?_
  refine ar_wk [1, 2] rfl (by simp) ?_
  exact key _ x 0 (Nat.le_refl _)
theorem r_181 {L : Nat} {xs : Nat → Int32} {fr lo : Nat} {m p al AL : Nat} {h0 h : ax_H} {M : Nat → Nat → Int32} {x : Int32} (hfr : 0 ≤ fr) (hlo : 0 ≤ lo) (hC : RC m p al) (hS : RS m p al AL h0 h M) : ax_M L xs 181 fr lo [.ref m, .int x] h (fun r h' => r = none ∧ RS m p al AL h0 h' (va_up M 0 (upd (M 0) 7 0))) := by
  have hC0 := hC
  show ax_A (ax_step L xs) ((181, 0, fr, lo), [(0, .ref m), (1, .int x)], [], h) _
  obtain ⟨hmp, hal, hm0⟩ := hC
  obtain ⟨hF, hf, hn, hs, hp0⟩ := hS
  replace hF : ax_hs h [cRo m p al M, cRB p 2048 (M 8), cRB (p + 1) 400 (M 10), cRI (p + 2) 2 (M 11), cRI (p + 3) 48 (M 12), cRZ (p + 4) 48 (M 13), cRB (p + 5) 9600 (M 14), cRI (p + 6) 48 (M 15), cRI (p + 7) 48 (M 16), cRI (p + 8) 48 (M 17), cRB (p + 9) 393216 (M 18), cRZ (p + 10) 912 (M 19), cRI (p + 11) 12 (M 27), cRI (p + 12) 12 (M 28), cRI (p + 13) 12 (M 29), cRB (p + 14) 4800 (M 30), cRI (p + 15) 24 (M 31), cRB (p + 16) 24576 (M 32), cRI (p + 17) 12 (M 33), cRI al AL (M 34), cRI (p + 19) 24576 (M 35), cRI (p + 20) 12 (M 36)] := hF
  refine ar_aload_n 1 d_181_0 rfl rfl ?_
  refine ar_iconst 2 (v := 0) d_181_1 rfl (by decide) ?_
  refine ar_putf 5 (RV p al (upd (M 0) 7 0)) d_181_2 rfl (ci := 11) (k := 7) rfl rfl (hF.at 0 rfl) (Nat.le_of_ble_eq_true rfl) rfl rfl rfl ?_
  replace hF : ax_hs (ax_put h m (.inr (11, RV p al (upd (M 0) 7 0)))) [(m, .inr (11, RV p al (upd (M 0) 7 0))), cRB p 2048 (M 8), cRB (p + 1) 400 (M 10), cRI (p + 2) 2 (M 11), cRI (p + 3) 48 (M 12), cRZ (p + 4) 48 (M 13), cRB (p + 5) 9600 (M 14), cRI (p + 6) 48 (M 15), cRI (p + 7) 48 (M 16), cRI (p + 8) 48 (M 17), cRB (p + 9) 393216 (M 18), cRZ (p + 10) 912 (M 19), cRI (p + 11) 12 (M 27), cRI (p + 12) 12 (M 28), cRI (p + 13) 12 (M 29), cRB (p + 14) 4800 (M 30), cRI (p + 15) 24 (M 31), cRB (p + 16) 24576 (M 32), cRI (p + 17) 12 (M 33), cRI al AL (M 34), cRI (p + 19) 24576 (M 35), cRI (p + 20) 12 (M 36)] := hF.put 0 _ rfl rfl
  replace hf := hf.put (a := m) (c := .inr (11, RV p al (upd (M 0) 7 0))) (show m ≤ m by omega)
  replace hn : (ax_put h m (.inr (11, RV p al (upd (M 0) 7 0)))).1 = h0.1 := hn
  replace hs : (ax_put h m (.inr (11, RV p al (upd (M 0) 7 0)))).2.1 = h0.2.1 := hs
  generalize ax_put h m (.inr (11, RV p al (upd (M 0) 7 0))) = hp_1 at hF hf hn hs ⊢
  have hS9 : RS m p al AL h0 hp_1 (va_up M 0 (upd (M 0) 7 0)) := ⟨hF, hf, hn, hs, hp0⟩
  exact ar_ret d_181_5 rfl (⟨rfl, hS9⟩)
theorem r_182 {L : Nat} {xs : Nat → Int32} {fr lo : Nat} {m p al AL : Nat} {h0 h : ax_H} {M : Nat → Nat → Int32} {x : Int32} (hfr : 0 ≤ fr) (hlo : 0 ≤ lo) (hC : RC m p al) (hS : RS m p al AL h0 h M) : ax_M L xs 182 fr lo [.ref m, .int x] h (fun r h' => r = none ∧ RS m p al AL h0 h' (va_up M 0 (upd (M 0) 7 0))) := by
  have hC0 := hC
  show ax_A (ax_step L xs) ((182, 0, fr, lo), [(0, .ref m), (1, .int x)], [], h) _
  obtain ⟨hmp, hal, hm0⟩ := hC
  obtain ⟨hF, hf, hn, hs, hp0⟩ := hS
  replace hF : ax_hs h [cRo m p al M, cRB p 2048 (M 8), cRB (p + 1) 400 (M 10), cRI (p + 2) 2 (M 11), cRI (p + 3) 48 (M 12), cRZ (p + 4) 48 (M 13), cRB (p + 5) 9600 (M 14), cRI (p + 6) 48 (M 15), cRI (p + 7) 48 (M 16), cRI (p + 8) 48 (M 17), cRB (p + 9) 393216 (M 18), cRZ (p + 10) 912 (M 19), cRI (p + 11) 12 (M 27), cRI (p + 12) 12 (M 28), cRI (p + 13) 12 (M 29), cRB (p + 14) 4800 (M 30), cRI (p + 15) 24 (M 31), cRB (p + 16) 24576 (M 32), cRI (p + 17) 12 (M 33), cRI al AL (M 34), cRI (p + 19) 24576 (M 35), cRI (p + 20) 12 (M 36)] := hF
  refine ar_aload_n 1 d_182_0 rfl rfl ?_
  refine ar_iconst 2 (v := 0) d_182_1 rfl (by decide) ?_
  refine ar_putf 5 (RV p al (upd (M 0) 7 0)) d_182_2 rfl (ci := 11) (k := 7) rfl rfl (hF.at 0 rfl) (Nat.le_of_ble_eq_true rfl) rfl rfl rfl ?_
  replace hF : ax_hs (ax_put h m (.inr (11, RV p al (upd (M 0) 7 0)))) [(m, .inr (11, RV p al (upd (M 0) 7 0))), cRB p 2048 (M 8), cRB (p + 1) 400 (M 10), cRI (p + 2) 2 (M 11), cRI (p + 3) 48 (M 12), cRZ (p + 4) 48 (M 13), cRB (p + 5) 9600 (M 14), cRI (p + 6) 48 (M 15), cRI (p + 7) 48 (M 16), cRI (p + 8) 48 (M 17), cRB (p + 9) 393216 (M 18), cRZ (p + 10) 912 (M 19), cRI (p + 11) 12 (M 27), cRI (p + 12) 12 (M 28), cRI (p + 13) 12 (M 29), cRB (p + 14) 4800 (M 30), cRI (p + 15) 24 (M 31), cRB (p + 16) 24576 (M 32), cRI (p + 17) 12 (M 33), cRI al AL (M 34), cRI (p + 19) 24576 (M 35), cRI (p + 20) 12 (M 36)] := hF.put 0 _ rfl rfl
  replace hf := hf.put (a := m) (c := .inr (11, RV p al (upd (M 0) 7 0))) (show m ≤ m by omega)
  replace hn : (ax_put h m (.inr (11, RV p al (upd (M 0) 7 0)))).1 = h0.1 := hn
  replace hs : (ax_put h m (.inr (11, RV p al (upd (M 0) 7 0)))).2.1 = h0.2.1 := hs
  generalize ax_put h m (.inr (11, RV p al (upd (M 0) 7 0))) = hp_1 at hF hf hn hs ⊢
  have hS9 : RS m p al AL h0 hp_1 (va_up M 0 (upd (M 0) 7 0)) := ⟨hF, hf, hn, hs, hp0⟩
  exact ar_ret d_182_5 rfl (⟨rfl, hS9⟩)
theorem r_183 {L : Nat} {xs : Nat → Int32} {fr lo : Nat} {m p al AL : Nat} {h0 h : ax_H} {M : Nat → Nat → Int32} {x : Int32} (hfr : 0 ≤ fr) (hlo : 0 ≤ lo) (hC : RC m p al) (hS : RS m p al AL h0 h M) : ax_M L xs 183 fr lo [.ref m, .int x] h (fun r h' => r = none ∧ RS m p al AL h0 h' (va_up M 0 (upd (M 0) 7 0))) := by
  have hC0 := hC
  show ax_A (ax_step L xs) ((183, 0, fr, lo), [(0, .ref m), (1, .int x)], [], h) _
  obtain ⟨hmp, hal, hm0⟩ := hC
  obtain ⟨hF, hf, hn, hs, hp0⟩ := hS
  replace hF : ax_hs h [cRo m p al M, cRB p 2048 (M 8), cRB (p + 1) 400 (M 10), cRI (p + 2) 2 (M 11), cRI (p + 3) 48 (M 12), cRZ (p + 4) 48 (M 13), cRB (p + 5) 9600 (M 14), cRI (p + 6) 48 (M 15), cRI (p + 7) 48 (M 16), cRI (p + 8) 48 (M 17), cRB (p + 9) 393216 (M 18), cRZ (p + 10) 912 (M 19), cRI (p + 11) 12 (M 27), cRI (p + 12) 12 (M 28), cRI (p + 13) 12 (M 29), cRB (p + 14) 4800 (M 30), cRI (p + 15) 24 (M 31), cRB (p + 16) 24576 (M 32), cRI (p + 17) 12 (M 33), cRI al AL (M 34), cRI (p + 19) 24576 (M 35), cRI (p + 20) 12 (M 36)] := hF
  refine ar_aload_n 1 d_183_0 rfl rfl ?_
  refine ar_iconst 2 (v := 0) d_183_1 rfl (by decide) ?_
  refine ar_putf 5 (RV p al (upd (M 0) 7 0)) d_183_2 rfl (ci := 11) (k := 7) rfl rfl (hF.at 0 rfl) (Nat.le_of_ble_eq_true rfl) rfl rfl rfl ?_
  replace hF : ax_hs (ax_put h m (.inr (11, RV p al (upd (M 0) 7 0)))) [(m, .inr (11, RV p al (upd (M 0) 7 0))), cRB p 2048 (M 8), cRB (p + 1) 400 (M 10), cRI (p + 2) 2 (M 11), cRI (p + 3) 48 (M 12), cRZ (p + 4) 48 (M 13), cRB (p + 5) 9600 (M 14), cRI (p + 6) 48 (M 15), cRI (p + 7) 48 (M 16), cRI (p + 8) 48 (M 17), cRB (p + 9) 393216 (M 18), cRZ (p + 10) 912 (M 19), cRI (p + 11) 12 (M 27), cRI (p + 12) 12 (M 28), cRI (p + 13) 12 (M 29), cRB (p + 14) 4800 (M 30), cRI (p + 15) 24 (M 31), cRB (p + 16) 24576 (M 32), cRI (p + 17) 12 (M 33), cRI al AL (M 34), cRI (p + 19) 24576 (M 35), cRI (p + 20) 12 (M 36)] := hF.put 0 _ rfl rfl
  replace hf := hf.put (a := m) (c := .inr (11, RV p al (upd (M 0) 7 0))) (show m ≤ m by omega)
  replace hn : (ax_put h m (.inr (11, RV p al (upd (M 0) 7 0)))).1 = h0.1 := hn
  replace hs : (ax_put h m (.inr (11, RV p al (upd (M 0) 7 0)))).2.1 = h0.2.1 := hs
  generalize ax_put h m (.inr (11, RV p al (upd (M 0) 7 0))) = hp_1 at hF hf hn hs ⊢
  have hS9 : RS m p al AL h0 hp_1 (va_up M 0 (upd (M 0) 7 0)) := ⟨hF, hf, hn, hs, hp0⟩
  exact ar_ret d_183_5 rfl (⟨rfl, hS9⟩)
theorem r_184 {L : Nat} {xs : Nat → Int32} {fr lo : Nat} {m p al AL : Nat} {h0 h : ax_H} {M : Nat → Nat → Int32} {x y : Int32} (hfr : 0 ≤ fr) (hlo : 0 ≤ lo) (hC : RC m p al) (hS : RS m p al AL h0 h M) : ax_M L xs 184 fr lo [.ref m, .int x, .int y] h (fun r h' => ((x < 1 ∨ ¬ x ≤ 500) ∧ r = some (.int (-1)) ∧ RS m p al AL h0 h' M) ∨ (¬ x < 1 ∧ x ≤ 500 ∧ r = some (.int x) ∧ RS m p al AL h0 h' (va_up M 0 (upd (M 0) 7 0)))) := by
  have hC0 := hC
  show ax_A (ax_step L xs) ((184, 0, fr, lo), [(0, .ref m), (1, .int x), (2, .int y)], [], h) _
  obtain ⟨hmp, hal, hm0⟩ := hC
  obtain ⟨hF, hf, hn, hs, hp0⟩ := hS
  replace hF : ax_hs h [cRo m p al M, cRB p 2048 (M 8), cRB (p + 1) 400 (M 10), cRI (p + 2) 2 (M 11), cRI (p + 3) 48 (M 12), cRZ (p + 4) 48 (M 13), cRB (p + 5) 9600 (M 14), cRI (p + 6) 48 (M 15), cRI (p + 7) 48 (M 16), cRI (p + 8) 48 (M 17), cRB (p + 9) 393216 (M 18), cRZ (p + 10) 912 (M 19), cRI (p + 11) 12 (M 27), cRI (p + 12) 12 (M 28), cRI (p + 13) 12 (M 29), cRB (p + 14) 4800 (M 30), cRI (p + 15) 24 (M 31), cRB (p + 16) 24576 (M 32), cRI (p + 17) 12 (M 33), cRI al AL (M 34), cRI (p + 19) 24576 (M 35), cRI (p + 20) 12 (M 36)] := hF
  refine ar_iload_n 1 d_184_0 rfl rfl ?_
  refine ar_iconst 2 (v := 1) d_184_1 rfl (by decide) ?_
  refine ar_icmp_lt 12 5 d_184_2 (by decide) rfl (fun c1 => ?_) (fun c1 => ?_)
  · refine ar_iconst 13 (v := -1) d_184_12 rfl (by decide) ?_
    have hS9 : RS m p al AL h0 h M := ⟨hF, hf, hn, hs, hp0⟩
    exact ar_iret d_184_13 rfl rfl (Or.inl ⟨Or.inl c1, rfl, hS9⟩)
  · refine ar_iload_n 6 d_184_5 rfl rfl ?_
    refine ar_sipush 9 (v := 500) d_184_6 rfl (by decide) ?_
    refine ar_icmp_le 14 12 d_184_9 (by decide) rfl (fun c2 => ?_) (fun c2 => ?_)
    · refine ar_aload_n 15 d_184_14 rfl rfl ?_
      refine ar_iconst 16 (v := 0) d_184_15 rfl (by decide) ?_
      refine ar_putf 19 (RV p al (upd (M 0) 7 0)) d_184_16 rfl (ci := 11) (k := 7) rfl rfl (hF.at 0 rfl) (Nat.le_of_ble_eq_true rfl) rfl rfl rfl ?_
      replace hF : ax_hs (ax_put h m (.inr (11, RV p al (upd (M 0) 7 0)))) [(m, .inr (11, RV p al (upd (M 0) 7 0))), cRB p 2048 (M 8), cRB (p + 1) 400 (M 10), cRI (p + 2) 2 (M 11), cRI (p + 3) 48 (M 12), cRZ (p + 4) 48 (M 13), cRB (p + 5) 9600 (M 14), cRI (p + 6) 48 (M 15), cRI (p + 7) 48 (M 16), cRI (p + 8) 48 (M 17), cRB (p + 9) 393216 (M 18), cRZ (p + 10) 912 (M 19), cRI (p + 11) 12 (M 27), cRI (p + 12) 12 (M 28), cRI (p + 13) 12 (M 29), cRB (p + 14) 4800 (M 30), cRI (p + 15) 24 (M 31), cRB (p + 16) 24576 (M 32), cRI (p + 17) 12 (M 33), cRI al AL (M 34), cRI (p + 19) 24576 (M 35), cRI (p + 20) 12 (M 36)] := hF.put 0 _ rfl rfl
      replace hf := hf.put (a := m) (c := .inr (11, RV p al (upd (M 0) 7 0))) (show m ≤ m by omega)
      replace hn : (ax_put h m (.inr (11, RV p al (upd (M 0) 7 0)))).1 = h0.1 := hn
      replace hs : (ax_put h m (.inr (11, RV p al (upd (M 0) 7 0)))).2.1 = h0.2.1 := hs
      generalize ax_put h m (.inr (11, RV p al (upd (M 0) 7 0))) = hp_1 at hF hf hn hs ⊢
      refine ar_iload_n 20 d_184_19 rfl rfl ?_
      have hS9 : RS m p al AL h0 hp_1 (va_up M 0 (upd (M 0) 7 0)) := ⟨hF, hf, hn, hs, hp0⟩
      exact ar_iret d_184_20 rfl rfl (Or.inr ⟨c1, c2, rfl, hS9⟩)
    · refine ar_iconst 13 (v := -1) d_184_12 rfl (by decide) ?_
      have hS9 : RS m p al AL h0 h M := ⟨hF, hf, hn, hs, hp0⟩
      exact ar_iret d_184_13 rfl rfl (Or.inl ⟨Or.inr c2, rfl, hS9⟩)
theorem r_185 {L : Nat} {xs : Nat → Int32} {fr lo : Nat} {m p al AL : Nat} {h0 h : ax_H} {M : Nat → Nat → Int32} {x : Int32} (hfr : 0 ≤ fr) (hlo : 0 ≤ lo) (hC : RC m p al) (hS : RS m p al AL h0 h M) : ax_M L xs 185 fr lo [.ref m, .int x] h (fun r h' => ((x < 1 ∨ ¬ x ≤ 50) ∧ r = some (.int (-1)) ∧ RS m p al AL h0 h' M) ∨ (¬ x < 1 ∧ x ≤ 50 ∧ r = some (.int x) ∧ RS m p al AL h0 h' (va_up M 0 (upd (M 0) 7 0)))) := by
  have hC0 := hC
  show ax_A (ax_step L xs) ((185, 0, fr, lo), [(0, .ref m), (1, .int x)], [], h) _
  obtain ⟨hmp, hal, hm0⟩ := hC
  obtain ⟨hF, hf, hn, hs, hp0⟩ := hS
  replace hF : ax_hs h [cRo m p al M, cRB p 2048 (M 8), cRB (p + 1) 400 (M 10), cRI (p + 2) 2 (M 11), cRI (p + 3) 48 (M 12), cRZ (p + 4) 48 (M 13), cRB (p + 5) 9600 (M 14), cRI (p + 6) 48 (M 15), cRI (p + 7) 48 (M 16), cRI (p + 8) 48 (M 17), cRB (p + 9) 393216 (M 18), cRZ (p + 10) 912 (M 19), cRI (p + 11) 12 (M 27), cRI (p + 12) 12 (M 28), cRI (p + 13) 12 (M 29), cRB (p + 14) 4800 (M 30), cRI (p + 15) 24 (M 31), cRB (p + 16) 24576 (M 32), cRI (p + 17) 12 (M 33), cRI al AL (M 34), cRI (p + 19) 24576 (M 35), cRI (p + 20) 12 (M 36)] := hF
  refine ar_iload_n 1 d_185_0 rfl rfl ?_
  refine ar_iconst 2 (v := 1) d_185_1 rfl (by decide) ?_
  refine ar_icmp_lt 11 5 d_185_2 (by decide) rfl (fun c1 => ?_) (fun c1 => ?_)
  · refine ar_iconst 12 (v := -1) d_185_11 rfl (by decide) ?_
    have hS9 : RS m p al AL h0 h M := ⟨hF, hf, hn, hs, hp0⟩
    exact ar_iret d_185_12 rfl rfl (Or.inl ⟨Or.inl c1, rfl, hS9⟩)
  · refine ar_iload_n 6 d_185_5 rfl rfl ?_
    refine ar_bipush 8 (v := 50) d_185_6 rfl (by decide) ?_
    refine ar_icmp_le 13 11 d_185_8 (by decide) rfl (fun c2 => ?_) (fun c2 => ?_)
    · refine ar_aload_n 14 d_185_13 rfl rfl ?_
      refine ar_iconst 15 (v := 0) d_185_14 rfl (by decide) ?_
      refine ar_putf 18 (RV p al (upd (M 0) 7 0)) d_185_15 rfl (ci := 11) (k := 7) rfl rfl (hF.at 0 rfl) (Nat.le_of_ble_eq_true rfl) rfl rfl rfl ?_
      replace hF : ax_hs (ax_put h m (.inr (11, RV p al (upd (M 0) 7 0)))) [(m, .inr (11, RV p al (upd (M 0) 7 0))), cRB p 2048 (M 8), cRB (p + 1) 400 (M 10), cRI (p + 2) 2 (M 11), cRI (p + 3) 48 (M 12), cRZ (p + 4) 48 (M 13), cRB (p + 5) 9600 (M 14), cRI (p + 6) 48 (M 15), cRI (p + 7) 48 (M 16), cRI (p + 8) 48 (M 17), cRB (p + 9) 393216 (M 18), cRZ (p + 10) 912 (M 19), cRI (p + 11) 12 (M 27), cRI (p + 12) 12 (M 28), cRI (p + 13) 12 (M 29), cRB (p + 14) 4800 (M 30), cRI (p + 15) 24 (M 31), cRB (p + 16) 24576 (M 32), cRI (p + 17) 12 (M 33), cRI al AL (M 34), cRI (p + 19) 24576 (M 35), cRI (p + 20) 12 (M 36)] := hF.put 0 _ rfl rfl
      replace hf := hf.put (a := m) (c := .inr (11, RV p al (upd (M 0) 7 0))) (show m ≤ m by omega)
      replace hn : (ax_put h m (.inr (11, RV p al (upd (M 0) 7 0)))).1 = h0.1 := hn
      replace hs : (ax_put h m (.inr (11, RV p al (upd (M 0) 7 0)))).2.1 = h0.2.1 := hs
      generalize ax_put h m (.inr (11, RV p al (upd (M 0) 7 0))) = hp_1 at hF hf hn hs ⊢
      refine ar_iload_n 19 d_185_18 rfl rfl ?_
      have hS9 : RS m p al AL h0 hp_1 (va_up M 0 (upd (M 0) 7 0)) := ⟨hF, hf, hn, hs, hp0⟩
      exact ar_iret d_185_19 rfl rfl (Or.inr ⟨c1, c2, rfl, hS9⟩)
    · refine ar_iconst 12 (v := -1) d_185_11 rfl (by decide) ?_
      have hS9 : RS m p al AL h0 h M := ⟨hF, hf, hn, hs, hp0⟩
      exact ar_iret d_185_12 rfl rfl (Or.inl ⟨Or.inr c2, rfl, hS9⟩)
def upQ (M : Nat → Nat → Int32) (x : Int32) : Prop := ¬ x < 0 ∧ x < M 0 0 ∧ ¬ ((M 0 3) >>> (x &&& 31)) &&& 1 = 0
def dnQ (M : Nat → Nat → Int32) (x : Int32) : Prop := ¬ x < 0 ∧ x < M 0 0 ∧ ((M 0 3) >>> (x &&& 31)) &&& 1 = 0
theorem r_187 {L : Nat} {xs : Nat → Int32} {fr lo : Nat} {m p al AL : Nat} {h0 h : ax_H} {M : Nat → Nat → Int32} {x : Int32} (hfr : 0 ≤ fr) (hlo : 0 ≤ lo) (hC : RC m p al) (hS : RS m p al AL h0 h M) : ax_M L xs 187 fr lo [.ref m, .int x] h (fun r h' => ∃ y : Int32, r = some (.int y) ∧ (y = 0 ∧ ¬ upQ M x ∨ y = 1 ∧ upQ M x) ∧ RS m p al AL h0 h' M) := by
  have hC0 := hC
  show ax_A (ax_step L xs) ((187, 0, fr, lo), [(0, .ref m), (1, .int x)], [], h) _
  obtain ⟨hmp, hal, hm0⟩ := hC
  obtain ⟨hF, hf, hn, hs, hp0⟩ := hS
  replace hF : ax_hs h [cRo m p al M, cRB p 2048 (M 8), cRB (p + 1) 400 (M 10), cRI (p + 2) 2 (M 11), cRI (p + 3) 48 (M 12), cRZ (p + 4) 48 (M 13), cRB (p + 5) 9600 (M 14), cRI (p + 6) 48 (M 15), cRI (p + 7) 48 (M 16), cRI (p + 8) 48 (M 17), cRB (p + 9) 393216 (M 18), cRZ (p + 10) 912 (M 19), cRI (p + 11) 12 (M 27), cRI (p + 12) 12 (M 28), cRI (p + 13) 12 (M 29), cRB (p + 14) 4800 (M 30), cRI (p + 15) 24 (M 31), cRB (p + 16) 24576 (M 32), cRI (p + 17) 12 (M 33), cRI al AL (M 34), cRI (p + 19) 24576 (M 35), cRI (p + 20) 12 (M 36)] := hF
  refine ar_iload_n 1 d_187_0 rfl rfl ?_
  refine ar_if_lt 27 4 d_187_1 (by decide) rfl (fun c1 => ?_) (fun c1 => ?_)
  · refine ar_iconst 28 (v := 0) d_187_27 rfl (by decide) ?_
    have hS9 : RS m p al AL h0 h M := ⟨hF, hf, hn, hs, hp0⟩
    exact ar_iret d_187_28 rfl rfl (⟨_, rfl, Or.inl ⟨rfl, fun z => z.1 c1⟩, hS9⟩)
  · refine ar_iload_n 5 d_187_4 rfl rfl ?_
    refine ar_aload_n 6 d_187_5 rfl rfl ?_
    refine ar_getf 9 d_187_6 rfl (ci := 11) (k := 0) rfl (hF.at 0 rfl) (show _ = some (.int ((M 0) 0)) from rfl) ?_
    refine ar_icmp_ge 27 12 d_187_9 (by decide) rfl (fun c2 => ?_) (fun c2 => ?_)
    · refine ar_iconst 28 (v := 0) d_187_27 rfl (by decide) ?_
      have hS9 : RS m p al AL h0 h M := ⟨hF, hf, hn, hs, hp0⟩
      exact ar_iret d_187_28 rfl rfl (⟨_, rfl, Or.inl ⟨rfl, fun z => absurd z.2.1 (Int32.not_lt.mpr c2)⟩, hS9⟩)
    · refine ar_aload_n 13 d_187_12 rfl rfl ?_
      refine ar_getf 16 d_187_13 rfl (ci := 11) (k := 3) rfl (hF.at 0 rfl) (show _ = some (.int ((M 0) 3)) from rfl) ?_
      refine ar_iload_n 17 d_187_16 rfl rfl ?_
      refine ar_ishr 18 d_187_17 rfl ?_
      refine ar_iconst 19 (v := 1) d_187_18 rfl (by decide) ?_
      refine ar_iand 20 d_187_19 rfl ?_
      refine ar_if_eq 27 23 d_187_20 (by decide) rfl (fun c3 => ?_) (fun c3 => ?_)
      · refine ar_iconst 28 (v := 0) d_187_27 rfl (by decide) ?_
        have hS9 : RS m p al AL h0 h M := ⟨hF, hf, hn, hs, hp0⟩
        exact ar_iret d_187_28 rfl rfl (⟨_, rfl, Or.inl ⟨rfl, fun z => z.2.2 c3⟩, hS9⟩)
      · refine ar_iconst 24 (v := 1) d_187_23 rfl (by decide) ?_
        refine ar_goto 28 d_187_24 (by decide) ?_
        have hS9 : RS m p al AL h0 h M := ⟨hF, hf, hn, hs, hp0⟩
        exact ar_iret d_187_28 rfl rfl (⟨_, rfl, Or.inr ⟨rfl, c1, Int32.not_le.mp c2, c3⟩, hS9⟩)
theorem r_189 {L : Nat} {xs : Nat → Int32} {fr lo : Nat} {m p al AL : Nat} {h0 h : ax_H} {M : Nat → Nat → Int32} {x : Int32} (hfr : 0 ≤ fr) (hlo : 0 ≤ lo) (hC : RC m p al) (hS : RS m p al AL h0 h M) : ax_M L xs 189 fr lo [.ref m, .int x] h (fun r h' => ∃ y : Int32, r = some (.int y) ∧ (y = 0 ∧ ¬ dnQ M x ∨ y = 1 ∧ dnQ M x) ∧ RS m p al AL h0 h' M) := by
  have hC0 := hC
  show ax_A (ax_step L xs) ((189, 0, fr, lo), [(0, .ref m), (1, .int x)], [], h) _
  obtain ⟨hmp, hal, hm0⟩ := hC
  obtain ⟨hF, hf, hn, hs, hp0⟩ := hS
  replace hF : ax_hs h [cRo m p al M, cRB p 2048 (M 8), cRB (p + 1) 400 (M 10), cRI (p + 2) 2 (M 11), cRI (p + 3) 48 (M 12), cRZ (p + 4) 48 (M 13), cRB (p + 5) 9600 (M 14), cRI (p + 6) 48 (M 15), cRI (p + 7) 48 (M 16), cRI (p + 8) 48 (M 17), cRB (p + 9) 393216 (M 18), cRZ (p + 10) 912 (M 19), cRI (p + 11) 12 (M 27), cRI (p + 12) 12 (M 28), cRI (p + 13) 12 (M 29), cRB (p + 14) 4800 (M 30), cRI (p + 15) 24 (M 31), cRB (p + 16) 24576 (M 32), cRI (p + 17) 12 (M 33), cRI al AL (M 34), cRI (p + 19) 24576 (M 35), cRI (p + 20) 12 (M 36)] := hF
  refine ar_iload_n 1 d_189_0 rfl rfl ?_
  refine ar_if_lt 27 4 d_189_1 (by decide) rfl (fun c1 => ?_) (fun c1 => ?_)
  · refine ar_iconst 28 (v := 0) d_189_27 rfl (by decide) ?_
    have hS9 : RS m p al AL h0 h M := ⟨hF, hf, hn, hs, hp0⟩
    exact ar_iret d_189_28 rfl rfl (⟨_, rfl, Or.inl ⟨rfl, fun z => z.1 c1⟩, hS9⟩)
  · refine ar_iload_n 5 d_189_4 rfl rfl ?_
    refine ar_aload_n 6 d_189_5 rfl rfl ?_
    refine ar_getf 9 d_189_6 rfl (ci := 11) (k := 0) rfl (hF.at 0 rfl) (show _ = some (.int ((M 0) 0)) from rfl) ?_
    refine ar_icmp_ge 27 12 d_189_9 (by decide) rfl (fun c2 => ?_) (fun c2 => ?_)
    · refine ar_iconst 28 (v := 0) d_189_27 rfl (by decide) ?_
      have hS9 : RS m p al AL h0 h M := ⟨hF, hf, hn, hs, hp0⟩
      exact ar_iret d_189_28 rfl rfl (⟨_, rfl, Or.inl ⟨rfl, fun z => absurd z.2.1 (Int32.not_lt.mpr c2)⟩, hS9⟩)
    · refine ar_aload_n 13 d_189_12 rfl rfl ?_
      refine ar_getf 16 d_189_13 rfl (ci := 11) (k := 3) rfl (hF.at 0 rfl) (show _ = some (.int ((M 0) 3)) from rfl) ?_
      refine ar_iload_n 17 d_189_16 rfl rfl ?_
      refine ar_ishr 18 d_189_17 rfl ?_
      refine ar_iconst 19 (v := 1) d_189_18 rfl (by decide) ?_
      refine ar_iand 20 d_189_19 rfl ?_
      refine ar_if_ne 27 23 d_189_20 (by decide) rfl (fun c3 => ?_) (fun c3 => ?_)
      · refine ar_iconst 28 (v := 0) d_189_27 rfl (by decide) ?_
        have hS9 : RS m p al AL h0 h M := ⟨hF, hf, hn, hs, hp0⟩
        exact ar_iret d_189_28 rfl rfl (⟨_, rfl, Or.inl ⟨rfl, fun z => c3 z.2.2⟩, hS9⟩)
      · refine ar_iconst 24 (v := 1) d_189_23 rfl (by decide) ?_
        refine ar_goto 28 d_189_24 (by decide) ?_
        have hS9 : RS m p al AL h0 h M := ⟨hF, hf, hn, hs, hp0⟩
        exact ar_iret d_189_28 rfl rfl (⟨_, rfl, Or.inr ⟨rfl, c1, Int32.not_le.mp c2, Decidable.not_not.mp c3⟩, hS9⟩)
theorem r_186 {L : Nat} {xs : Nat → Int32} {fr lo : Nat} {m p al AL : Nat} {h0 h : ax_H} {M : Nat → Nat → Int32} {x y z : Int32} (hfr : 1 ≤ fr) (hlo : 40 ≤ lo) (hC : RC m p al) (hS : RS m p al AL h0 h M) : ax_M L xs 186 fr lo [.ref m, .int x, .int y, .int z] h (fun r h' => (¬ upQ M x ∧ r = some (.int 0) ∧ RS m p al AL h0 h' M) ∨ (upQ M x ∧ r = some (.int 1) ∧ RS m p al AL h0 h' (va_up M 0 (upd (upd (M 0) 3 ((M 0 3) ^^^ ((1 : Int32) <<< (x &&& 31)))) 7 0)))) := by
  have hC0 := hC
  show ax_A (ax_step L xs) ((186, 0, fr, lo), [(0, .ref m), (1, .int x), (2, .int y), (3, .int z)], [], h) _
  obtain ⟨hmp, hal, hm0⟩ := hC
  obtain ⟨hF, hf, hn, hs, hp0⟩ := hS
  replace hF : ax_hs h [cRo m p al M, cRB p 2048 (M 8), cRB (p + 1) 400 (M 10), cRI (p + 2) 2 (M 11), cRI (p + 3) 48 (M 12), cRZ (p + 4) 48 (M 13), cRB (p + 5) 9600 (M 14), cRI (p + 6) 48 (M 15), cRI (p + 7) 48 (M 16), cRI (p + 8) 48 (M 17), cRB (p + 9) 393216 (M 18), cRZ (p + 10) 912 (M 19), cRI (p + 11) 12 (M 27), cRI (p + 12) 12 (M 28), cRI (p + 13) 12 (M 29), cRB (p + 14) 4800 (M 30), cRI (p + 15) 24 (M 31), cRB (p + 16) 24576 (M 32), cRI (p + 17) 12 (M 33), cRI al AL (M 34), cRI (p + 19) 24576 (M 35), cRI (p + 20) 12 (M 36)] := hF
  refine ar_aload_n 1 d_186_0 rfl rfl ?_
  refine ar_iload_n 2 d_186_1 rfl rfl ?_
  have hS1 : RS m p al AL h0 h M := ⟨hF, hf, hn, hs, hp0⟩
  refine ar_call (r := []) (na := 0) (kd := 0) (cm := 187) (fr2 := fr - 1) (lo2 := lo - 21) 5 d_186_2 (ar_hoV (as := [.int x]) rfl rfl rfl (hF.at 0 rfl)) rfl (by omega) (show lo - 21 + (19 + 2) = lo by omega) (Nat.le_of_ble_eq_true rfl) (Nat.le_of_ble_eq_true rfl) (r_187 (by omega) (by omega) hC0 hS1) ?_
  intro v hp_1 hq
  obtain ⟨y1, rfl, hy1, hS2⟩ := hq
  clear hS1 hF hf hn hs hp0
  obtain ⟨hF, hf, hn, hs, hp0⟩ := hS2
  replace hF : ax_hs hp_1 [cRo m p al M, cRB p 2048 (M 8), cRB (p + 1) 400 (M 10), cRI (p + 2) 2 (M 11), cRI (p + 3) 48 (M 12), cRZ (p + 4) 48 (M 13), cRB (p + 5) 9600 (M 14), cRI (p + 6) 48 (M 15), cRI (p + 7) 48 (M 16), cRI (p + 8) 48 (M 17), cRB (p + 9) 393216 (M 18), cRZ (p + 10) 912 (M 19), cRI (p + 11) 12 (M 27), cRI (p + 12) 12 (M 28), cRI (p + 13) 12 (M 29), cRB (p + 14) 4800 (M 30), cRI (p + 15) 24 (M 31), cRB (p + 16) 24576 (M 32), cRI (p + 17) 12 (M 33), cRI al AL (M 34), cRI (p + 19) 24576 (M 35), cRI (p + 20) 12 (M 36)] := hF
  rcases hy1 with ⟨rfl, hy1⟩ | ⟨rfl, hy1⟩
  · refine ar_if_ne 10 8 d_186_5 (by decide) rfl (fun c => absurd c (by decide)) (fun _ => ?_)
    refine ar_iconst 9 (v := 0) d_186_8 rfl (by decide) ?_
    have hS9 : RS m p al AL h0 hp_1 M := ⟨hF, hf, hn, hs, hp0⟩
    exact ar_iret d_186_9 rfl rfl (Or.inl ⟨hy1, rfl, hS9⟩)
  · refine ar_if_ne 10 8 d_186_5 (by decide) rfl (fun _ => ?_) (fun c => absurd (by decide) c)
    refine ar_aload_n 11 d_186_10 rfl rfl ?_
    refine ar_dup 12 d_186_11 rfl rfl ?_
    refine ar_getf 15 d_186_12 rfl (ci := 11) (k := 3) rfl (hF.at 0 rfl) (show _ = some (.int ((M 0) 3)) from rfl) ?_
    refine ar_iconst 16 (v := 1) d_186_15 rfl (by decide) ?_
    refine ar_iload_n 17 d_186_16 rfl rfl ?_
    refine ar_ishl 18 d_186_17 rfl ?_
    refine ar_ixor 19 d_186_18 rfl ?_
    refine ar_putf 22 (RV p al (upd (M 0) 3 (((M 0) 3) ^^^ (1 <<< (x &&& 31))))) d_186_19 rfl (ci := 11) (k := 3) rfl rfl (hF.at 0 rfl) (Nat.le_of_ble_eq_true rfl) rfl rfl rfl ?_
    replace hF : ax_hs (ax_put hp_1 m (.inr (11, RV p al (upd (M 0) 3 (((M 0) 3) ^^^ (1 <<< (x &&& 31))))))) [(m, .inr (11, RV p al (upd (M 0) 3 (((M 0) 3) ^^^ (1 <<< (x &&& 31)))))), cRB p 2048 (M 8), cRB (p + 1) 400 (M 10), cRI (p + 2) 2 (M 11), cRI (p + 3) 48 (M 12), cRZ (p + 4) 48 (M 13), cRB (p + 5) 9600 (M 14), cRI (p + 6) 48 (M 15), cRI (p + 7) 48 (M 16), cRI (p + 8) 48 (M 17), cRB (p + 9) 393216 (M 18), cRZ (p + 10) 912 (M 19), cRI (p + 11) 12 (M 27), cRI (p + 12) 12 (M 28), cRI (p + 13) 12 (M 29), cRB (p + 14) 4800 (M 30), cRI (p + 15) 24 (M 31), cRB (p + 16) 24576 (M 32), cRI (p + 17) 12 (M 33), cRI al AL (M 34), cRI (p + 19) 24576 (M 35), cRI (p + 20) 12 (M 36)] := hF.put 0 _ rfl rfl
    replace hf := hf.put (a := m) (c := .inr (11, RV p al (upd (M 0) 3 (((M 0) 3) ^^^ (1 <<< (x &&& 31)))))) (show m ≤ m by omega)
    replace hn : (ax_put hp_1 m (.inr (11, RV p al (upd (M 0) 3 (((M 0) 3) ^^^ (1 <<< (x &&& 31))))))).1 = h0.1 := hn
    replace hs : (ax_put hp_1 m (.inr (11, RV p al (upd (M 0) 3 (((M 0) 3) ^^^ (1 <<< (x &&& 31))))))).2.1 = h0.2.1 := hs
    generalize ax_put hp_1 m (.inr (11, RV p al (upd (M 0) 3 (((M 0) 3) ^^^ (1 <<< (x &&& 31)))))) = hp_2 at hF hf hn hs ⊢
    refine ar_aload_n 23 d_186_22 rfl rfl ?_
    refine ar_iconst 24 (v := 0) d_186_23 rfl (by decide) ?_
    refine ar_putf 27 (RV p al (upd (upd (M 0) 3 (((M 0) 3) ^^^ (1 <<< (x &&& 31)))) 7 0)) d_186_24 rfl (ci := 11) (k := 7) rfl rfl (hF.at 0 rfl) (Nat.le_of_ble_eq_true rfl) rfl rfl rfl ?_
    replace hF : ax_hs (ax_put hp_2 m (.inr (11, RV p al (upd (upd (M 0) 3 (((M 0) 3) ^^^ (1 <<< (x &&& 31)))) 7 0)))) [(m, .inr (11, RV p al (upd (upd (M 0) 3 (((M 0) 3) ^^^ (1 <<< (x &&& 31)))) 7 0))), cRB p 2048 (M 8), cRB (p + 1) 400 (M 10), cRI (p + 2) 2 (M 11), cRI (p + 3) 48 (M 12), cRZ (p + 4) 48 (M 13), cRB (p + 5) 9600 (M 14), cRI (p + 6) 48 (M 15), cRI (p + 7) 48 (M 16), cRI (p + 8) 48 (M 17), cRB (p + 9) 393216 (M 18), cRZ (p + 10) 912 (M 19), cRI (p + 11) 12 (M 27), cRI (p + 12) 12 (M 28), cRI (p + 13) 12 (M 29), cRB (p + 14) 4800 (M 30), cRI (p + 15) 24 (M 31), cRB (p + 16) 24576 (M 32), cRI (p + 17) 12 (M 33), cRI al AL (M 34), cRI (p + 19) 24576 (M 35), cRI (p + 20) 12 (M 36)] := hF.put 0 _ rfl rfl
    replace hf := hf.put (a := m) (c := .inr (11, RV p al (upd (upd (M 0) 3 (((M 0) 3) ^^^ (1 <<< (x &&& 31)))) 7 0))) (show m ≤ m by omega)
    replace hn : (ax_put hp_2 m (.inr (11, RV p al (upd (upd (M 0) 3 (((M 0) 3) ^^^ (1 <<< (x &&& 31)))) 7 0)))).1 = h0.1 := hn
    replace hs : (ax_put hp_2 m (.inr (11, RV p al (upd (upd (M 0) 3 (((M 0) 3) ^^^ (1 <<< (x &&& 31)))) 7 0)))).2.1 = h0.2.1 := hs
    generalize ax_put hp_2 m (.inr (11, RV p al (upd (upd (M 0) 3 (((M 0) 3) ^^^ (1 <<< (x &&& 31)))) 7 0))) = hp_3 at hF hf hn hs ⊢
    refine ar_iconst 28 (v := 1) d_186_27 rfl (by decide) ?_
    have hS9 : RS m p al AL h0 hp_3 (va_up M 0 (upd (upd (M 0) 3 (((M 0) 3) ^^^ (1 <<< (x &&& 31)))) 7 0)) := ⟨hF, hf, hn, hs, hp0⟩
    exact ar_iret d_186_28 rfl rfl (Or.inr ⟨hy1, rfl, hS9⟩)
theorem r_188 {L : Nat} {xs : Nat → Int32} {fr lo : Nat} {m p al AL : Nat} {h0 h : ax_H} {M : Nat → Nat → Int32} {x : Int32} (hfr : 1 ≤ fr) (hlo : 40 ≤ lo) (hC : RC m p al) (hS : RS m p al AL h0 h M) : ax_M L xs 188 fr lo [.ref m, .int x] h (fun r h' => (¬ dnQ M x ∧ r = some (.int 0) ∧ RS m p al AL h0 h' M) ∨ (dnQ M x ∧ r = some (.int 1) ∧ RS m p al AL h0 h' (va_up M 0 (upd (upd (M 0) 3 ((M 0 3) ^^^ ((1 : Int32) <<< (x &&& 31)))) 7 0)))) := by
  have hC0 := hC
  show ax_A (ax_step L xs) ((188, 0, fr, lo), [(0, .ref m), (1, .int x)], [], h) _
  obtain ⟨hmp, hal, hm0⟩ := hC
  obtain ⟨hF, hf, hn, hs, hp0⟩ := hS
  replace hF : ax_hs h [cRo m p al M, cRB p 2048 (M 8), cRB (p + 1) 400 (M 10), cRI (p + 2) 2 (M 11), cRI (p + 3) 48 (M 12), cRZ (p + 4) 48 (M 13), cRB (p + 5) 9600 (M 14), cRI (p + 6) 48 (M 15), cRI (p + 7) 48 (M 16), cRI (p + 8) 48 (M 17), cRB (p + 9) 393216 (M 18), cRZ (p + 10) 912 (M 19), cRI (p + 11) 12 (M 27), cRI (p + 12) 12 (M 28), cRI (p + 13) 12 (M 29), cRB (p + 14) 4800 (M 30), cRI (p + 15) 24 (M 31), cRB (p + 16) 24576 (M 32), cRI (p + 17) 12 (M 33), cRI al AL (M 34), cRI (p + 19) 24576 (M 35), cRI (p + 20) 12 (M 36)] := hF
  refine ar_aload_n 1 d_188_0 rfl rfl ?_
  refine ar_iload_n 2 d_188_1 rfl rfl ?_
  have hS1 : RS m p al AL h0 h M := ⟨hF, hf, hn, hs, hp0⟩
  refine ar_call (r := []) (na := 0) (kd := 0) (cm := 189) (fr2 := fr - 1) (lo2 := lo - 21) 5 d_188_2 (ar_hoV (as := [.int x]) rfl rfl rfl (hF.at 0 rfl)) rfl (by omega) (show lo - 21 + (19 + 2) = lo by omega) (Nat.le_of_ble_eq_true rfl) (Nat.le_of_ble_eq_true rfl) (r_189 (by omega) (by omega) hC0 hS1) ?_
  intro v hp_1 hq
  obtain ⟨y1, rfl, hy1, hS2⟩ := hq
  clear hS1 hF hf hn hs hp0
  obtain ⟨hF, hf, hn, hs, hp0⟩ := hS2
  replace hF : ax_hs hp_1 [cRo m p al M, cRB p 2048 (M 8), cRB (p + 1) 400 (M 10), cRI (p + 2) 2 (M 11), cRI (p + 3) 48 (M 12), cRZ (p + 4) 48 (M 13), cRB (p + 5) 9600 (M 14), cRI (p + 6) 48 (M 15), cRI (p + 7) 48 (M 16), cRI (p + 8) 48 (M 17), cRB (p + 9) 393216 (M 18), cRZ (p + 10) 912 (M 19), cRI (p + 11) 12 (M 27), cRI (p + 12) 12 (M 28), cRI (p + 13) 12 (M 29), cRB (p + 14) 4800 (M 30), cRI (p + 15) 24 (M 31), cRB (p + 16) 24576 (M 32), cRI (p + 17) 12 (M 33), cRI al AL (M 34), cRI (p + 19) 24576 (M 35), cRI (p + 20) 12 (M 36)] := hF
  rcases hy1 with ⟨rfl, hy1⟩ | ⟨rfl, hy1⟩
  · refine ar_if_ne 10 8 d_188_5 (by decide) rfl (fun c => absurd c (by decide)) (fun _ => ?_)
    refine ar_iconst 9 (v := 0) d_188_8 rfl (by decide) ?_
    have hS9 : RS m p al AL h0 hp_1 M := ⟨hF, hf, hn, hs, hp0⟩
    exact ar_iret d_188_9 rfl rfl (Or.inl ⟨hy1, rfl, hS9⟩)
  · refine ar_if_ne 10 8 d_188_5 (by decide) rfl (fun _ => ?_) (fun c => absurd (by decide) c)
    refine ar_aload_n 11 d_188_10 rfl rfl ?_
    refine ar_dup 12 d_188_11 rfl rfl ?_
    refine ar_getf 15 d_188_12 rfl (ci := 11) (k := 3) rfl (hF.at 0 rfl) (show _ = some (.int ((M 0) 3)) from rfl) ?_
    refine ar_iconst 16 (v := 1) d_188_15 rfl (by decide) ?_
    refine ar_iload_n 17 d_188_16 rfl rfl ?_
    refine ar_ishl 18 d_188_17 rfl ?_
    refine ar_ixor 19 d_188_18 rfl ?_
    refine ar_putf 22 (RV p al (upd (M 0) 3 (((M 0) 3) ^^^ (1 <<< (x &&& 31))))) d_188_19 rfl (ci := 11) (k := 3) rfl rfl (hF.at 0 rfl) (Nat.le_of_ble_eq_true rfl) rfl rfl rfl ?_
    replace hF : ax_hs (ax_put hp_1 m (.inr (11, RV p al (upd (M 0) 3 (((M 0) 3) ^^^ (1 <<< (x &&& 31))))))) [(m, .inr (11, RV p al (upd (M 0) 3 (((M 0) 3) ^^^ (1 <<< (x &&& 31)))))), cRB p 2048 (M 8), cRB (p + 1) 400 (M 10), cRI (p + 2) 2 (M 11), cRI (p + 3) 48 (M 12), cRZ (p + 4) 48 (M 13), cRB (p + 5) 9600 (M 14), cRI (p + 6) 48 (M 15), cRI (p + 7) 48 (M 16), cRI (p + 8) 48 (M 17), cRB (p + 9) 393216 (M 18), cRZ (p + 10) 912 (M 19), cRI (p + 11) 12 (M 27), cRI (p + 12) 12 (M 28), cRI (p + 13) 12 (M 29), cRB (p + 14) 4800 (M 30), cRI (p + 15) 24 (M 31), cRB (p + 16) 24576 (M 32), cRI (p + 17) 12 (M 33), cRI al AL (M 34), cRI (p + 19) 24576 (M 35), cRI (p + 20) 12 (M 36)] := hF.put 0 _ rfl rfl
    replace hf := hf.put (a := m) (c := .inr (11, RV p al (upd (M 0) 3 (((M 0) 3) ^^^ (1 <<< (x &&& 31)))))) (show m ≤ m by omega)
    replace hn : (ax_put hp_1 m (.inr (11, RV p al (upd (M 0) 3 (((M 0) 3) ^^^ (1 <<< (x &&& 31))))))).1 = h0.1 := hn
    replace hs : (ax_put hp_1 m (.inr (11, RV p al (upd (M 0) 3 (((M 0) 3) ^^^ (1 <<< (x &&& 31))))))).2.1 = h0.2.1 := hs
    generalize ax_put hp_1 m (.inr (11, RV p al (upd (M 0) 3 (((M 0) 3) ^^^ (1 <<< (x &&& 31)))))) = hp_2 at hF hf hn hs ⊢
    refine ar_aload_n 23 d_188_22 rfl rfl ?_
    refine ar_iconst 24 (v := 0) d_188_23 rfl (by decide) ?_
    refine ar_putf 27 (RV p al (upd (upd (M 0) 3 (((M 0) 3) ^^^ (1 <<< (x &&& 31)))) 7 0)) d_188_24 rfl (ci := 11) (k := 7) rfl rfl (hF.at 0 rfl) (Nat.le_of_ble_eq_true rfl) rfl rfl rfl ?_
    replace hF : ax_hs (ax_put hp_2 m (.inr (11, RV p al (upd (upd (M 0) 3 (((M 0) 3) ^^^ (1 <<< (x &&& 31)))) 7 0)))) [(m, .inr (11, RV p al (upd (upd (M 0) 3 (((M 0) 3) ^^^ (1 <<< (x &&& 31)))) 7 0))), cRB p 2048 (M 8), cRB (p + 1) 400 (M 10), cRI (p + 2) 2 (M 11), cRI (p + 3) 48 (M 12), cRZ (p + 4) 48 (M 13), cRB (p + 5) 9600 (M 14), cRI (p + 6) 48 (M 15), cRI (p + 7) 48 (M 16), cRI (p + 8) 48 (M 17), cRB (p + 9) 393216 (M 18), cRZ (p + 10) 912 (M 19), cRI (p + 11) 12 (M 27), cRI (p + 12) 12 (M 28), cRI (p + 13) 12 (M 29), cRB (p + 14) 4800 (M 30), cRI (p + 15) 24 (M 31), cRB (p + 16) 24576 (M 32), cRI (p + 17) 12 (M 33), cRI al AL (M 34), cRI (p + 19) 24576 (M 35), cRI (p + 20) 12 (M 36)] := hF.put 0 _ rfl rfl
    replace hf := hf.put (a := m) (c := .inr (11, RV p al (upd (upd (M 0) 3 (((M 0) 3) ^^^ (1 <<< (x &&& 31)))) 7 0))) (show m ≤ m by omega)
    replace hn : (ax_put hp_2 m (.inr (11, RV p al (upd (upd (M 0) 3 (((M 0) 3) ^^^ (1 <<< (x &&& 31)))) 7 0)))).1 = h0.1 := hn
    replace hs : (ax_put hp_2 m (.inr (11, RV p al (upd (upd (M 0) 3 (((M 0) 3) ^^^ (1 <<< (x &&& 31)))) 7 0)))).2.1 = h0.2.1 := hs
    generalize ax_put hp_2 m (.inr (11, RV p al (upd (upd (M 0) 3 (((M 0) 3) ^^^ (1 <<< (x &&& 31)))) 7 0))) = hp_3 at hF hf hn hs ⊢
    refine ar_iconst 28 (v := 1) d_188_27 rfl (by decide) ?_
    have hS9 : RS m p al AL h0 hp_3 (va_up M 0 (upd (upd (M 0) 3 (((M 0) 3) ^^^ (1 <<< (x &&& 31)))) 7 0)) := ⟨hF, hf, hn, hs, hp0⟩
    exact ar_iret d_188_28 rfl rfl (Or.inr ⟨hy1, rfl, hS9⟩)
theorem r_190 {L : Nat} {xs : Nat → Int32} {fr lo : Nat} {m p al AL : Nat} {h0 h : ax_H} {M : Nat → Nat → Int32} {x : Int32} (hfr : 0 ≤ fr) (hlo : 0 ≤ lo) (hC : RC m p al) (hS : RS m p al AL h0 h M) : ax_M L xs 190 fr lo [.ref m, .int x] h (fun r h' => r = some (.int (M 0 5 + 1)) ∧ RS m p al AL h0 h' (va_up M 0 (upd (upd (upd (M 0) 4 (x &&& (((1 : Int32) <<< (M 0 0 &&& 31)) - 1))) 5 (M 0 5 + 1)) 7 0))) := by
  have hC0 := hC
  show ax_A (ax_step L xs) ((190, 0, fr, lo), [(0, .ref m), (1, .int x)], [], h) _
  obtain ⟨hmp, hal, hm0⟩ := hC
  obtain ⟨hF, hf, hn, hs, hp0⟩ := hS
  replace hF : ax_hs h [cRo m p al M, cRB p 2048 (M 8), cRB (p + 1) 400 (M 10), cRI (p + 2) 2 (M 11), cRI (p + 3) 48 (M 12), cRZ (p + 4) 48 (M 13), cRB (p + 5) 9600 (M 14), cRI (p + 6) 48 (M 15), cRI (p + 7) 48 (M 16), cRI (p + 8) 48 (M 17), cRB (p + 9) 393216 (M 18), cRZ (p + 10) 912 (M 19), cRI (p + 11) 12 (M 27), cRI (p + 12) 12 (M 28), cRI (p + 13) 12 (M 29), cRB (p + 14) 4800 (M 30), cRI (p + 15) 24 (M 31), cRB (p + 16) 24576 (M 32), cRI (p + 17) 12 (M 33), cRI al AL (M 34), cRI (p + 19) 24576 (M 35), cRI (p + 20) 12 (M 36)] := hF
  refine ar_aload_n 1 d_190_0 rfl rfl ?_
  refine ar_iload_n 2 d_190_1 rfl rfl ?_
  refine ar_iconst 3 (v := 1) d_190_2 rfl (by decide) ?_
  refine ar_aload_n 4 d_190_3 rfl rfl ?_
  refine ar_getf 7 d_190_4 rfl (ci := 11) (k := 0) rfl (hF.at 0 rfl) (show _ = some (.int ((M 0) 0)) from rfl) ?_
  refine ar_ishl 8 d_190_7 rfl ?_
  refine ar_iconst 9 (v := 1) d_190_8 rfl (by decide) ?_
  refine ar_isub 10 d_190_9 rfl ?_
  refine ar_iand 11 d_190_10 rfl ?_
  refine ar_putf 14 (RV p al (upd (M 0) 4 (x &&& ((1 <<< (((M 0) 0) &&& 31)) - 1)))) d_190_11 rfl (ci := 11) (k := 4) rfl rfl (hF.at 0 rfl) (Nat.le_of_ble_eq_true rfl) rfl rfl rfl ?_
  replace hF : ax_hs (ax_put h m (.inr (11, RV p al (upd (M 0) 4 (x &&& ((1 <<< (((M 0) 0) &&& 31)) - 1)))))) [(m, .inr (11, RV p al (upd (M 0) 4 (x &&& ((1 <<< (((M 0) 0) &&& 31)) - 1))))), cRB p 2048 (M 8), cRB (p + 1) 400 (M 10), cRI (p + 2) 2 (M 11), cRI (p + 3) 48 (M 12), cRZ (p + 4) 48 (M 13), cRB (p + 5) 9600 (M 14), cRI (p + 6) 48 (M 15), cRI (p + 7) 48 (M 16), cRI (p + 8) 48 (M 17), cRB (p + 9) 393216 (M 18), cRZ (p + 10) 912 (M 19), cRI (p + 11) 12 (M 27), cRI (p + 12) 12 (M 28), cRI (p + 13) 12 (M 29), cRB (p + 14) 4800 (M 30), cRI (p + 15) 24 (M 31), cRB (p + 16) 24576 (M 32), cRI (p + 17) 12 (M 33), cRI al AL (M 34), cRI (p + 19) 24576 (M 35), cRI (p + 20) 12 (M 36)] := hF.put 0 _ rfl rfl
  replace hf := hf.put (a := m) (c := .inr (11, RV p al (upd (M 0) 4 (x &&& ((1 <<< (((M 0) 0) &&& 31)) - 1))))) (show m ≤ m by omega)
  replace hn : (ax_put h m (.inr (11, RV p al (upd (M 0) 4 (x &&& ((1 <<< (((M 0) 0) &&& 31)) - 1)))))).1 = h0.1 := hn
  replace hs : (ax_put h m (.inr (11, RV p al (upd (M 0) 4 (x &&& ((1 <<< (((M 0) 0) &&& 31)) - 1)))))).2.1 = h0.2.1 := hs
  generalize ax_put h m (.inr (11, RV p al (upd (M 0) 4 (x &&& ((1 <<< (((M 0) 0) &&& 31)) - 1))))) = hp_1 at hF hf hn hs ⊢
  refine ar_aload_n 15 d_190_14 rfl rfl ?_
  refine ar_dup 16 d_190_15 rfl rfl ?_
  refine ar_getf 19 d_190_16 rfl (ci := 11) (k := 5) rfl (hF.at 0 rfl) (show _ = some (.int ((M 0) 5)) from rfl) ?_
  refine ar_iconst 20 (v := 1) d_190_19 rfl (by decide) ?_
  refine ar_iadd 21 d_190_20 rfl ?_
  refine ar_putf 24 (RV p al (upd (upd (M 0) 4 (x &&& ((1 <<< (((M 0) 0) &&& 31)) - 1))) 5 (((M 0) 5) + 1))) d_190_21 rfl (ci := 11) (k := 5) rfl rfl (hF.at 0 rfl) (Nat.le_of_ble_eq_true rfl) rfl rfl rfl ?_
  replace hF : ax_hs (ax_put hp_1 m (.inr (11, RV p al (upd (upd (M 0) 4 (x &&& ((1 <<< (((M 0) 0) &&& 31)) - 1))) 5 (((M 0) 5) + 1))))) [(m, .inr (11, RV p al (upd (upd (M 0) 4 (x &&& ((1 <<< (((M 0) 0) &&& 31)) - 1))) 5 (((M 0) 5) + 1)))), cRB p 2048 (M 8), cRB (p + 1) 400 (M 10), cRI (p + 2) 2 (M 11), cRI (p + 3) 48 (M 12), cRZ (p + 4) 48 (M 13), cRB (p + 5) 9600 (M 14), cRI (p + 6) 48 (M 15), cRI (p + 7) 48 (M 16), cRI (p + 8) 48 (M 17), cRB (p + 9) 393216 (M 18), cRZ (p + 10) 912 (M 19), cRI (p + 11) 12 (M 27), cRI (p + 12) 12 (M 28), cRI (p + 13) 12 (M 29), cRB (p + 14) 4800 (M 30), cRI (p + 15) 24 (M 31), cRB (p + 16) 24576 (M 32), cRI (p + 17) 12 (M 33), cRI al AL (M 34), cRI (p + 19) 24576 (M 35), cRI (p + 20) 12 (M 36)] := hF.put 0 _ rfl rfl
  replace hf := hf.put (a := m) (c := .inr (11, RV p al (upd (upd (M 0) 4 (x &&& ((1 <<< (((M 0) 0) &&& 31)) - 1))) 5 (((M 0) 5) + 1)))) (show m ≤ m by omega)
  replace hn : (ax_put hp_1 m (.inr (11, RV p al (upd (upd (M 0) 4 (x &&& ((1 <<< (((M 0) 0) &&& 31)) - 1))) 5 (((M 0) 5) + 1))))).1 = h0.1 := hn
  replace hs : (ax_put hp_1 m (.inr (11, RV p al (upd (upd (M 0) 4 (x &&& ((1 <<< (((M 0) 0) &&& 31)) - 1))) 5 (((M 0) 5) + 1))))).2.1 = h0.2.1 := hs
  generalize ax_put hp_1 m (.inr (11, RV p al (upd (upd (M 0) 4 (x &&& ((1 <<< (((M 0) 0) &&& 31)) - 1))) 5 (((M 0) 5) + 1)))) = hp_2 at hF hf hn hs ⊢
  refine ar_aload_n 25 d_190_24 rfl rfl ?_
  refine ar_iconst 26 (v := 0) d_190_25 rfl (by decide) ?_
  refine ar_putf 29 (RV p al (upd (upd (upd (M 0) 4 (x &&& ((1 <<< (((M 0) 0) &&& 31)) - 1))) 5 (((M 0) 5) + 1)) 7 0)) d_190_26 rfl (ci := 11) (k := 7) rfl rfl (hF.at 0 rfl) (Nat.le_of_ble_eq_true rfl) rfl rfl rfl ?_
  replace hF : ax_hs (ax_put hp_2 m (.inr (11, RV p al (upd (upd (upd (M 0) 4 (x &&& ((1 <<< (((M 0) 0) &&& 31)) - 1))) 5 (((M 0) 5) + 1)) 7 0)))) [(m, .inr (11, RV p al (upd (upd (upd (M 0) 4 (x &&& ((1 <<< (((M 0) 0) &&& 31)) - 1))) 5 (((M 0) 5) + 1)) 7 0))), cRB p 2048 (M 8), cRB (p + 1) 400 (M 10), cRI (p + 2) 2 (M 11), cRI (p + 3) 48 (M 12), cRZ (p + 4) 48 (M 13), cRB (p + 5) 9600 (M 14), cRI (p + 6) 48 (M 15), cRI (p + 7) 48 (M 16), cRI (p + 8) 48 (M 17), cRB (p + 9) 393216 (M 18), cRZ (p + 10) 912 (M 19), cRI (p + 11) 12 (M 27), cRI (p + 12) 12 (M 28), cRI (p + 13) 12 (M 29), cRB (p + 14) 4800 (M 30), cRI (p + 15) 24 (M 31), cRB (p + 16) 24576 (M 32), cRI (p + 17) 12 (M 33), cRI al AL (M 34), cRI (p + 19) 24576 (M 35), cRI (p + 20) 12 (M 36)] := hF.put 0 _ rfl rfl
  replace hf := hf.put (a := m) (c := .inr (11, RV p al (upd (upd (upd (M 0) 4 (x &&& ((1 <<< (((M 0) 0) &&& 31)) - 1))) 5 (((M 0) 5) + 1)) 7 0))) (show m ≤ m by omega)
  replace hn : (ax_put hp_2 m (.inr (11, RV p al (upd (upd (upd (M 0) 4 (x &&& ((1 <<< (((M 0) 0) &&& 31)) - 1))) 5 (((M 0) 5) + 1)) 7 0)))).1 = h0.1 := hn
  replace hs : (ax_put hp_2 m (.inr (11, RV p al (upd (upd (upd (M 0) 4 (x &&& ((1 <<< (((M 0) 0) &&& 31)) - 1))) 5 (((M 0) 5) + 1)) 7 0)))).2.1 = h0.2.1 := hs
  generalize ax_put hp_2 m (.inr (11, RV p al (upd (upd (upd (M 0) 4 (x &&& ((1 <<< (((M 0) 0) &&& 31)) - 1))) 5 (((M 0) 5) + 1)) 7 0))) = hp_3 at hF hf hn hs ⊢
  refine ar_aload_n 30 d_190_29 rfl rfl ?_
  refine ar_getf 33 d_190_30 rfl (ci := 11) (k := 5) rfl (hF.at 0 rfl) (show _ = some (.int (((M 0) 5) + 1)) from rfl) ?_
  have hS9 : RS m p al AL h0 hp_3 (va_up M 0 (upd (upd (upd (M 0) 4 (x &&& ((1 <<< (((M 0) 0) &&& 31)) - 1))) 5 (((M 0) 5) + 1)) 7 0)) := ⟨hF, hf, hn, hs, hp0⟩
  exact ar_iret d_190_33 rfl rfl (⟨rfl, hS9⟩)
theorem r_191 {L : Nat} {xs : Nat → Int32} {fr lo : Nat} {m p al AL : Nat} {h0 h : ax_H} {M : Nat → Nat → Int32} {x : Int32} (hfr : 1 ≤ fr) (hlo : 40 ≤ lo) (hC : RC m p al) (hS : RS m p al AL h0 h M) : ax_M L xs 191 fr lo [.ref m, .int x] h (fun r h' => ((¬ dnQ M x ∨ M 0 6 = M 0 1 - 1) ∧ r = some (.int 0) ∧ RS m p al AL h0 h' M) ∨ (dnQ M x ∧ ¬ M 0 6 = M 0 1 - 1 ∧ r = some (.int 1) ∧ RS m p al AL h0 h' (va_up M 0 (upd (upd (upd (M 0) 6 (M 0 6 + 1)) 5 (M 0 5 + 1)) 7 0)))) := by
  have hC0 := hC
  show ax_A (ax_step L xs) ((191, 0, fr, lo), [(0, .ref m), (1, .int x)], [], h) _
  obtain ⟨hmp, hal, hm0⟩ := hC
  obtain ⟨hF, hf, hn, hs, hp0⟩ := hS
  replace hF : ax_hs h [cRo m p al M, cRB p 2048 (M 8), cRB (p + 1) 400 (M 10), cRI (p + 2) 2 (M 11), cRI (p + 3) 48 (M 12), cRZ (p + 4) 48 (M 13), cRB (p + 5) 9600 (M 14), cRI (p + 6) 48 (M 15), cRI (p + 7) 48 (M 16), cRI (p + 8) 48 (M 17), cRB (p + 9) 393216 (M 18), cRZ (p + 10) 912 (M 19), cRI (p + 11) 12 (M 27), cRI (p + 12) 12 (M 28), cRI (p + 13) 12 (M 29), cRB (p + 14) 4800 (M 30), cRI (p + 15) 24 (M 31), cRB (p + 16) 24576 (M 32), cRI (p + 17) 12 (M 33), cRI al AL (M 34), cRI (p + 19) 24576 (M 35), cRI (p + 20) 12 (M 36)] := hF
  refine ar_aload_n 1 d_191_0 rfl rfl ?_
  refine ar_iload_n 2 d_191_1 rfl rfl ?_
  have hS1 : RS m p al AL h0 h M := ⟨hF, hf, hn, hs, hp0⟩
  refine ar_call (r := []) (na := 0) (kd := 0) (cm := 189) (fr2 := fr - 1) (lo2 := lo - 21) 5 d_191_2 (ar_hoV (as := [.int x]) rfl rfl rfl (hF.at 0 rfl)) rfl (by omega) (show lo - 21 + (19 + 2) = lo by omega) (Nat.le_of_ble_eq_true rfl) (Nat.le_of_ble_eq_true rfl) (r_189 (by omega) (by omega) hC0 hS1) ?_
  intro v hp_1 hq
  obtain ⟨y1, rfl, hy1, hS2⟩ := hq
  clear hS1 hF hf hn hs hp0
  obtain ⟨hF, hf, hn, hs, hp0⟩ := hS2
  replace hF : ax_hs hp_1 [cRo m p al M, cRB p 2048 (M 8), cRB (p + 1) 400 (M 10), cRI (p + 2) 2 (M 11), cRI (p + 3) 48 (M 12), cRZ (p + 4) 48 (M 13), cRB (p + 5) 9600 (M 14), cRI (p + 6) 48 (M 15), cRI (p + 7) 48 (M 16), cRI (p + 8) 48 (M 17), cRB (p + 9) 393216 (M 18), cRZ (p + 10) 912 (M 19), cRI (p + 11) 12 (M 27), cRI (p + 12) 12 (M 28), cRI (p + 13) 12 (M 29), cRB (p + 14) 4800 (M 30), cRI (p + 15) 24 (M 31), cRB (p + 16) 24576 (M 32), cRI (p + 17) 12 (M 33), cRI al AL (M 34), cRI (p + 19) 24576 (M 35), cRI (p + 20) 12 (M 36)] := hF
  rcases hy1 with ⟨rfl, hy1⟩ | ⟨rfl, hy1⟩
  · refine ar_if_eq 21 8 d_191_5 (by decide) rfl (fun _ => ?_) (fun c => absurd (by decide) c)
    refine ar_iconst 22 (v := 0) d_191_21 rfl (by decide) ?_
    have hS9 : RS m p al AL h0 hp_1 M := ⟨hF, hf, hn, hs, hp0⟩
    exact ar_iret d_191_22 rfl rfl (Or.inl ⟨Or.inl hy1, rfl, hS9⟩)
  · refine ar_if_eq 21 8 d_191_5 (by decide) rfl (fun c => absurd c (by decide)) (fun _ => ?_)
    refine ar_aload_n 9 d_191_8 rfl rfl ?_
    refine ar_getf 12 d_191_9 rfl (ci := 11) (k := 6) rfl (hF.at 0 rfl) (show _ = some (.int ((M 0) 6)) from rfl) ?_
    refine ar_aload_n 13 d_191_12 rfl rfl ?_
    refine ar_getf 16 d_191_13 rfl (ci := 11) (k := 1) rfl (hF.at 0 rfl) (show _ = some (.int ((M 0) 1)) from rfl) ?_
    refine ar_iconst 17 (v := 1) d_191_16 rfl (by decide) ?_
    refine ar_isub 18 d_191_17 rfl ?_
    refine ar_icmp_ne 23 21 d_191_18 (by decide) rfl (fun c1 => ?_) (fun c1 => ?_)
    · refine ar_aload_n 24 d_191_23 rfl rfl ?_
      refine ar_dup 25 d_191_24 rfl rfl ?_
      refine ar_getf 28 d_191_25 rfl (ci := 11) (k := 6) rfl (hF.at 0 rfl) (show _ = some (.int ((M 0) 6)) from rfl) ?_
      refine ar_iconst 29 (v := 1) d_191_28 rfl (by decide) ?_
      refine ar_iadd 30 d_191_29 rfl ?_
      refine ar_putf 33 (RV p al (upd (M 0) 6 (((M 0) 6) + 1))) d_191_30 rfl (ci := 11) (k := 6) rfl rfl (hF.at 0 rfl) (Nat.le_of_ble_eq_true rfl) rfl rfl rfl ?_
      replace hF : ax_hs (ax_put hp_1 m (.inr (11, RV p al (upd (M 0) 6 (((M 0) 6) + 1))))) [(m, .inr (11, RV p al (upd (M 0) 6 (((M 0) 6) + 1)))), cRB p 2048 (M 8), cRB (p + 1) 400 (M 10), cRI (p + 2) 2 (M 11), cRI (p + 3) 48 (M 12), cRZ (p + 4) 48 (M 13), cRB (p + 5) 9600 (M 14), cRI (p + 6) 48 (M 15), cRI (p + 7) 48 (M 16), cRI (p + 8) 48 (M 17), cRB (p + 9) 393216 (M 18), cRZ (p + 10) 912 (M 19), cRI (p + 11) 12 (M 27), cRI (p + 12) 12 (M 28), cRI (p + 13) 12 (M 29), cRB (p + 14) 4800 (M 30), cRI (p + 15) 24 (M 31), cRB (p + 16) 24576 (M 32), cRI (p + 17) 12 (M 33), cRI al AL (M 34), cRI (p + 19) 24576 (M 35), cRI (p + 20) 12 (M 36)] := hF.put 0 _ rfl rfl
      replace hf := hf.put (a := m) (c := .inr (11, RV p al (upd (M 0) 6 (((M 0) 6) + 1)))) (show m ≤ m by omega)
      replace hn : (ax_put hp_1 m (.inr (11, RV p al (upd (M 0) 6 (((M 0) 6) + 1))))).1 = h0.1 := hn
      replace hs : (ax_put hp_1 m (.inr (11, RV p al (upd (M 0) 6 (((M 0) 6) + 1))))).2.1 = h0.2.1 := hs
      generalize ax_put hp_1 m (.inr (11, RV p al (upd (M 0) 6 (((M 0) 6) + 1)))) = hp_2 at hF hf hn hs ⊢
      refine ar_aload_n 34 d_191_33 rfl rfl ?_
      refine ar_dup 35 d_191_34 rfl rfl ?_
      refine ar_getf 38 d_191_35 rfl (ci := 11) (k := 5) rfl (hF.at 0 rfl) (show _ = some (.int ((M 0) 5)) from rfl) ?_
      refine ar_iconst 39 (v := 1) d_191_38 rfl (by decide) ?_
      refine ar_iadd 40 d_191_39 rfl ?_
      refine ar_putf 43 (RV p al (upd (upd (M 0) 6 (((M 0) 6) + 1)) 5 (((M 0) 5) + 1))) d_191_40 rfl (ci := 11) (k := 5) rfl rfl (hF.at 0 rfl) (Nat.le_of_ble_eq_true rfl) rfl rfl rfl ?_
      replace hF : ax_hs (ax_put hp_2 m (.inr (11, RV p al (upd (upd (M 0) 6 (((M 0) 6) + 1)) 5 (((M 0) 5) + 1))))) [(m, .inr (11, RV p al (upd (upd (M 0) 6 (((M 0) 6) + 1)) 5 (((M 0) 5) + 1)))), cRB p 2048 (M 8), cRB (p + 1) 400 (M 10), cRI (p + 2) 2 (M 11), cRI (p + 3) 48 (M 12), cRZ (p + 4) 48 (M 13), cRB (p + 5) 9600 (M 14), cRI (p + 6) 48 (M 15), cRI (p + 7) 48 (M 16), cRI (p + 8) 48 (M 17), cRB (p + 9) 393216 (M 18), cRZ (p + 10) 912 (M 19), cRI (p + 11) 12 (M 27), cRI (p + 12) 12 (M 28), cRI (p + 13) 12 (M 29), cRB (p + 14) 4800 (M 30), cRI (p + 15) 24 (M 31), cRB (p + 16) 24576 (M 32), cRI (p + 17) 12 (M 33), cRI al AL (M 34), cRI (p + 19) 24576 (M 35), cRI (p + 20) 12 (M 36)] := hF.put 0 _ rfl rfl
      replace hf := hf.put (a := m) (c := .inr (11, RV p al (upd (upd (M 0) 6 (((M 0) 6) + 1)) 5 (((M 0) 5) + 1)))) (show m ≤ m by omega)
      replace hn : (ax_put hp_2 m (.inr (11, RV p al (upd (upd (M 0) 6 (((M 0) 6) + 1)) 5 (((M 0) 5) + 1))))).1 = h0.1 := hn
      replace hs : (ax_put hp_2 m (.inr (11, RV p al (upd (upd (M 0) 6 (((M 0) 6) + 1)) 5 (((M 0) 5) + 1))))).2.1 = h0.2.1 := hs
      generalize ax_put hp_2 m (.inr (11, RV p al (upd (upd (M 0) 6 (((M 0) 6) + 1)) 5 (((M 0) 5) + 1)))) = hp_3 at hF hf hn hs ⊢
      refine ar_aload_n 44 d_191_43 rfl rfl ?_
      refine ar_iconst 45 (v := 0) d_191_44 rfl (by decide) ?_
      refine ar_putf 48 (RV p al (upd (upd (upd (M 0) 6 (((M 0) 6) + 1)) 5 (((M 0) 5) + 1)) 7 0)) d_191_45 rfl (ci := 11) (k := 7) rfl rfl (hF.at 0 rfl) (Nat.le_of_ble_eq_true rfl) rfl rfl rfl ?_
      replace hF : ax_hs (ax_put hp_3 m (.inr (11, RV p al (upd (upd (upd (M 0) 6 (((M 0) 6) + 1)) 5 (((M 0) 5) + 1)) 7 0)))) [(m, .inr (11, RV p al (upd (upd (upd (M 0) 6 (((M 0) 6) + 1)) 5 (((M 0) 5) + 1)) 7 0))), cRB p 2048 (M 8), cRB (p + 1) 400 (M 10), cRI (p + 2) 2 (M 11), cRI (p + 3) 48 (M 12), cRZ (p + 4) 48 (M 13), cRB (p + 5) 9600 (M 14), cRI (p + 6) 48 (M 15), cRI (p + 7) 48 (M 16), cRI (p + 8) 48 (M 17), cRB (p + 9) 393216 (M 18), cRZ (p + 10) 912 (M 19), cRI (p + 11) 12 (M 27), cRI (p + 12) 12 (M 28), cRI (p + 13) 12 (M 29), cRB (p + 14) 4800 (M 30), cRI (p + 15) 24 (M 31), cRB (p + 16) 24576 (M 32), cRI (p + 17) 12 (M 33), cRI al AL (M 34), cRI (p + 19) 24576 (M 35), cRI (p + 20) 12 (M 36)] := hF.put 0 _ rfl rfl
      replace hf := hf.put (a := m) (c := .inr (11, RV p al (upd (upd (upd (M 0) 6 (((M 0) 6) + 1)) 5 (((M 0) 5) + 1)) 7 0))) (show m ≤ m by omega)
      replace hn : (ax_put hp_3 m (.inr (11, RV p al (upd (upd (upd (M 0) 6 (((M 0) 6) + 1)) 5 (((M 0) 5) + 1)) 7 0)))).1 = h0.1 := hn
      replace hs : (ax_put hp_3 m (.inr (11, RV p al (upd (upd (upd (M 0) 6 (((M 0) 6) + 1)) 5 (((M 0) 5) + 1)) 7 0)))).2.1 = h0.2.1 := hs
      generalize ax_put hp_3 m (.inr (11, RV p al (upd (upd (upd (M 0) 6 (((M 0) 6) + 1)) 5 (((M 0) 5) + 1)) 7 0))) = hp_4 at hF hf hn hs ⊢
      refine ar_iconst 49 (v := 1) d_191_48 rfl (by decide) ?_
      have hS9 : RS m p al AL h0 hp_4 (va_up M 0 (upd (upd (upd (M 0) 6 (((M 0) 6) + 1)) 5 (((M 0) 5) + 1)) 7 0)) := ⟨hF, hf, hn, hs, hp0⟩
      exact ar_iret d_191_49 rfl rfl (Or.inr ⟨hy1, c1, rfl, hS9⟩)
    · refine ar_iconst 22 (v := 0) d_191_21 rfl (by decide) ?_
      have hS9 : RS m p al AL h0 hp_1 M := ⟨hF, hf, hn, hs, hp0⟩
      exact ar_iret d_191_22 rfl rfl (Or.inl ⟨Or.inr (Decidable.not_not.mp c1), rfl, hS9⟩)
theorem r_216 {L : Nat} {xs : Nat → Int32} {fr lo : Nat} {m p al AL : Nat} {h0 h : ax_H} {M : Nat → Nat → Int32}  (hfr : 0 ≤ fr) (hlo : 0 ≤ lo) (hC : RC m p al) (hS : RS m p al AL h0 h M) : ax_M L xs 216 fr lo [.ref m] h (fun r h' => ∃ y : Int32, r = some (.int y) ∧ RS m p al AL h0 h' M) := by
  have hC0 := hC
  show ax_A (ax_step L xs) ((216, 0, fr, lo), [(0, .ref m)], [], h) _
  obtain ⟨hmp, hal, hm0⟩ := hC
  obtain ⟨hF, hf, hn, hs, hp0⟩ := hS
  replace hF : ax_hs h [cRo m p al M, cRB p 2048 (M 8), cRB (p + 1) 400 (M 10), cRI (p + 2) 2 (M 11), cRI (p + 3) 48 (M 12), cRZ (p + 4) 48 (M 13), cRB (p + 5) 9600 (M 14), cRI (p + 6) 48 (M 15), cRI (p + 7) 48 (M 16), cRI (p + 8) 48 (M 17), cRB (p + 9) 393216 (M 18), cRZ (p + 10) 912 (M 19), cRI (p + 11) 12 (M 27), cRI (p + 12) 12 (M 28), cRI (p + 13) 12 (M 29), cRB (p + 14) 4800 (M 30), cRI (p + 15) 24 (M 31), cRB (p + 16) 24576 (M 32), cRI (p + 17) 12 (M 33), cRI al AL (M 34), cRI (p + 19) 24576 (M 35), cRI (p + 20) 12 (M 36)] := hF
  refine ar_aload_n 1 d_216_0 rfl rfl ?_
  refine ar_getf 4 d_216_1 rfl (ci := 11) (k := 7) rfl (hF.at 0 rfl) (show _ = some (.int ((M 0) 7)) from rfl) ?_
  refine ar_if_eq 11 7 d_216_4 (by decide) rfl (fun c1 => ?_) (fun c1 => ?_)
  · refine ar_bipush 13 (v := -6) d_216_11 rfl (by decide) ?_
    have hS9 : RS m p al AL h0 h M := ⟨hF, hf, hn, hs, hp0⟩
    exact ar_iret d_216_13 rfl rfl (⟨_, rfl, hS9⟩)
  · refine ar_iconst 8 (v := 0) d_216_7 rfl (by decide) ?_
    refine ar_goto 13 d_216_8 (by decide) ?_
    have hS9 : RS m p al AL h0 h M := ⟨hF, hf, hn, hs, hp0⟩
    exact ar_iret d_216_13 rfl rfl (⟨_, rfl, hS9⟩)


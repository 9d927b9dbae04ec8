/-! holds, exactly -/

def isS (x : Int32) : Int32 := (if (x / 10240) = 512 then 0 else (if 19 ≤ ((x / 512) - (x / 512) / 20 * 20) then 0 else 1))
theorem c_168E {L : Nat} {xs : Nat → Int32} {fr lo : Nat} {h : ax_H} {x : Int32} : ax_M L xs 168 fr lo [.int x] h (fun r h' => ∃ y : Int32, r = some (.int y) ∧ y = isS x ∧ h' = h) := by
  show ax_A (ax_step L xs) ((168, 0, fr, lo), [(0, .int x)], [], h) _
  refine ar_iload_n 1 d_168_0 rfl rfl ?_
  refine ar_sipush 4 (v := 10240) d_168_1 rfl (by decide) ?_
  refine ar_idiv 5 d_168_4 rfl (by decide) ?_
  refine ar_sipush 8 (v := 512) d_168_5 rfl (by decide) ?_
  refine ar_icmp_eq 28 11 d_168_8 (by decide) rfl (fun c0 => ?_) (fun c0 => ?_)
  · refine ar_iconst 29 (v := 0) d_168_28 rfl (by decide) ?_
    exact ar_iret d_168_29 rfl rfl (⟨_, rfl, eq_ifT c0 (rfl), rfl⟩)
  · refine ar_iload_n 12 d_168_11 rfl rfl ?_
    refine ar_sipush 15 (v := 512) d_168_12 rfl (by decide) ?_
    refine ar_idiv 16 d_168_15 rfl (by decide) ?_
    refine ar_bipush 18 (v := 20) d_168_16 rfl (by decide) ?_
    refine ar_irem 19 d_168_18 rfl (by decide) ?_
    refine ar_bipush 21 (v := 19) d_168_19 rfl (by decide) ?_
    refine ar_icmp_ge 28 24 d_168_21 (by decide) rfl (fun c1 => ?_) (fun c1 => ?_)
    · refine ar_iconst 29 (v := 0) d_168_28 rfl (by decide) ?_
      exact ar_iret d_168_29 rfl rfl (⟨_, rfl, eq_ifF c0 (eq_ifT c1 (rfl)), rfl⟩)
    · refine ar_iconst 25 (v := 1) d_168_24 rfl (by decide) ?_
      refine ar_goto 29 d_168_25 (by decide) ?_
      exact ar_iret d_168_29 rfl rfl (⟨_, rfl, eq_ifF c0 (eq_ifF c1 (rfl)), rfl⟩)
def hlS (g : Nat → Int32) : Nat → Nat → Int32 → Int32
  | 0, _, c => c
  | k + 1, i, c => if ¬ fstB (g (i * 128)) = 0 ∧ fstB (g (i * 128)) = lstB (g (i * 128 + 127)) then (if isS (g (i * 128 + 1)) = 0 then hlS g k (i + 1) c else hlS g k (i + 1) (c + 1)) else hlS g k (i + 1) c
def hlV (nn : Nat) (E : Nat → Nat → Int32) (D : Nat → Nat → Nat → Int32) (x : Int32) : Int32 := if x < 0 then -1 else if ¬ x < nI nn then -1 else if E 100 10 = 0 then -6 else hlS (D x.toNatClampNeg 2) 280 0 0
set_option maxRecDepth 100000 in
theorem gh_167 {L : Nat} {xs : Nat → Int32} {fr lo : Nat} {s0 n nn gg : Nat} {C : Int32} {f : Nat → Int32} {q : Nat} {u b : Nat → Int32} {h0 h : ax_H} {Z : ZT} {D : Nat → Nat → Nat → Int32} {K A : Nat → Int64} {E : Nat → Nat → Int32} {TK : Int64} {Q : Nat → Mg} {ms : List Mg} {x : Int32} (hfr : 1 ≤ fr) (hlo : 40 ≤ lo) (hC : CG s0 n nn gg f) (hG : GS Z s0 n nn gg C f q u b h0 h E TK Q ms D K A) : ax_M L xs 167 fr lo [.ref s0, .int x] h (fun r h' => ∃ y : Int32, r = some (.int y) ∧ y = hlV nn E D x ∧ h' = h) := by
  have hC0 := hC
  obtain ⟨hs0, hsn, hnn3, hnn, hgg1, hgg, hRg⟩ := hC
  have key : ∀ (j : Nat), j < nn → ∀ (k i : Nat) (cv : Int32), i + k = 280 → ax_A (ax_step L xs) ((167, 40, fr, lo), [(0, .ref s0), (2, .ref (n + 329 + 22 * j + 1)), (3, .int cv), (4, .int (nI i))], [], h) (fun r h' => ∃ y : Int32, r = some (.int y) ∧ y = hlS (D j 2) k i cv ∧ h' = h) := by
    intro j hj k
    induction k with
    | zero =>
      intro i cv hi
      have e0 : 280 = i := by omega
      subst e0
      have hGG := hG
      obtain ⟨hS, hG0, hM, hE, hK, hz⟩ := hG
      have hM0 := hM
      obtain ⟨hF, hA, hN, hf, hn, hs, hp0⟩ := hS
      replace hF : ax_hs h [cSt s0 n E, cRk n nn gg C, cOr n nn gg f, cAs n E, cEr n 5 512 E, cEr n 6 100 E, cEr n 7 2 E, cAk n, cEr n 9 512 E, cNa n nn, cEr n 0 48 E, cEr n 1 961 E, cTs n gg E TK, cEr n 59 48 E, cEr n 60 48 E, cEr n 61 48 E, cEr n 62 2400 E, cEr n 63 512 E, cEr n 64 961 E, cEr n 65 961 E] := hF
      refine ar_iload 42 d_167_40 rfl rfl ?_
      refine ar_sipush 45 (v := 280) d_167_42 rfl (by decide) ?_
      refine ar_icmp_ge 78 48 d_167_45 (by decide) rfl (fun _ => ?_) (fun c => absurd (Int32.le_refl _) c)
      refine ar_iload_n 79 d_167_78 rfl rfl ?_
      exact ar_iret d_167_79 rfl rfl (⟨_, rfl, rfl, rfl⟩)
    | succ k ih =>
      intro i cv hi
      have hic : i < 280 := by omega
      have hGG := hG
      obtain ⟨hS, hG0, hM, hE, hK, hz⟩ := hG
      have hM0 := hM
      obtain ⟨hF, hA, hN, hf, hn, hs, hp0⟩ := hS
      replace hF : ax_hs h [cSt s0 n E, cRk n nn gg C, cOr n nn gg f, cAs n E, cEr n 5 512 E, cEr n 6 100 E, cEr n 7 2 E, cAk n, cEr n 9 512 E, cNa n nn, cEr n 0 48 E, cEr n 1 961 E, cTs n gg E TK, cEr n 59 48 E, cEr n 60 48 E, cEr n 61 48 E, cEr n 62 2400 E, cEr n 63 512 E, cEr n 64 961 E, cEr n 65 961 E] := hF
      refine ar_iload 42 d_167_40 rfl rfl ?_
      refine ar_sipush 45 (v := 280) d_167_42 rfl (by decide) ?_
      refine ar_icmp_ge 78 48 d_167_45 (by decide) rfl (fun c => absurd c (nI_ge hic (by decide))) (fun _ => ?_)
      refine ar_aload_n 49 d_167_48 rfl rfl ?_
      refine ar_iload 51 d_167_49 rfl rfl ?_
      by_cases hwi : whB (D j 2) i
      · refine ar_call (r := []) (na := 0) (kd := 0) (cm := 20) (fr2 := fr - 1) (lo2 := lo - 23) 54 d_167_51 (ar_hoV (as := [.int (nI i)]) rfl rfl rfl (hf.g ((hG0 j hj).1.at 1 rfl) (by unfold ASA NTA; omega))) rfl (by omega) (show lo - 23 + (19 + 4) = lo by omega) (Nat.le_of_ble_eq_true rfl) (Nat.le_of_ble_eq_true rfl) (c_20T hic hwi (((hG0 j hj).1.fr hf (NWf (fun x hx z => by unfold ASA NTA at z; omega))).sub (F' := [cDk (n + 329 + 22 * j) (D j), cAr (n + 329 + 22 * j) 2 35840 (D j)]) [1, 2] rfl rfl)) ?_
        intro v hh hq
        obtain ⟨rfl, ehh⟩ := hq
        rw [ehh]
        clear ehh
        refine ar_if_eq 72 57 d_167_54 (by decide) rfl (fun c => absurd c (by decide)) (fun _ => ?_)
        refine ar_aload_n 58 d_167_57 rfl rfl ?_
        refine ar_iload 60 d_167_58 rfl rfl ?_
        refine ar_call (r := []) (na := 0) (kd := 0) (cm := 21) (fr2 := fr - 1) (lo2 := lo - 21) 63 d_167_60 (ar_hoV (as := [.int (nI i)]) rfl rfl rfl (hf.g ((hG0 j hj).1.at 1 rfl) (by unfold ASA NTA; omega))) rfl (by omega) (show lo - 21 + (19 + 2) = lo by omega) (Nat.le_of_ble_eq_true rfl) (Nat.le_of_ble_eq_true rfl) (c_21 hic (((hG0 j hj).1.fr hf (NWf (fun x hx z => by unfold ASA NTA at z; omega))).sub (F' := [cDk (n + 329 + 22 * j) (D j), cAr (n + 329 + 22 * j) 2 35840 (D j)]) [1, 2] rfl rfl)) ?_
        intro v hh hq
        obtain ⟨rfl, ehh⟩ := hq
        rw [ehh]
        clear ehh
        refine ar_call (r := []) (na := 0) (kd := 0) (cm := 168) (fr2 := fr - 1) (lo2 := lo - 20) 66 d_167_63 (ar_hoS (as := [.int (D j 2 (i * 128 + 1))]) rfl rfl rfl) rfl (by omega) (show lo - 20 + (19 + 1) = lo by omega) (Nat.le_of_ble_eq_true rfl) (Nat.le_of_ble_eq_true rfl) (c_168E) ?_
        intro v hh hq
        obtain ⟨y, rfl, hy, ehh⟩ := hq
        rw [ehh]
        clear ehh
        refine ar_if_eq 72 69 d_167_66 (by decide) rfl (fun c2 => ?_) (fun c2 => ?_)
        · refine ar_iinc 75 [(0, .ref s0), (2, .ref (n + 329 + 22 * j + 1)), (3, .int cv), (4, .int (nI (i + 1)))] d_167_72 rfl rfl (nI_1 i) (by decide) rfl ?_
          refine ar_goto 40 d_167_75 (by decide) ?_
          rw [← show hlS (D j 2) k (i + 1) cv = hlS (D j 2) (k + 1) i cv from eq_ifT hwi (eq_ifT (hy.symm.trans c2) rfl)]
          exact ih (i + 1) cv (by omega)
        · refine ar_iinc 72 [(0, .ref s0), (2, .ref (n + 329 + 22 * j + 1)), (3, .int (cv + 1)), (4, .int (nI i))] d_167_69 rfl rfl (rfl) (by decide) rfl ?_
          refine ar_iinc 75 [(0, .ref s0), (2, .ref (n + 329 + 22 * j + 1)), (3, .int (cv + 1)), (4, .int (nI (i + 1)))] d_167_72 rfl rfl (nI_1 i) (by decide) rfl ?_
          refine ar_goto 40 d_167_75 (by decide) ?_
          rw [← show hlS (D j 2) k (i + 1) (cv + 1) = hlS (D j 2) (k + 1) i cv from eq_ifT hwi (eq_ifF (fun z => c2 (hy.trans z)) rfl)]
          exact ih (i + 1) (cv + 1) (by omega)
      · refine ar_call (r := []) (na := 0) (kd := 0) (cm := 20) (fr2 := fr - 1) (lo2 := lo - 23) 54 d_167_51 (ar_hoV (as := [.int (nI i)]) rfl rfl rfl (hf.g ((hG0 j hj).1.at 1 rfl) (by unfold ASA NTA; omega))) rfl (by omega) (show lo - 23 + (19 + 4) = lo by omega) (Nat.le_of_ble_eq_true rfl) (Nat.le_of_ble_eq_true rfl) (c_20F hic hwi (((hG0 j hj).1.fr hf (NWf (fun x hx z => by unfold ASA NTA at z; omega))).sub (F' := [cDk (n + 329 + 22 * j) (D j), cAr (n + 329 + 22 * j) 2 35840 (D j)]) [1, 2] rfl rfl)) ?_
        intro v hh hq
        obtain ⟨rfl, ehh⟩ := hq
        rw [ehh]
        clear ehh
        refine ar_if_eq 72 57 d_167_54 (by decide) rfl (fun _ => ?_) (fun c => absurd (by decide) c)
        refine ar_iinc 75 [(0, .ref s0), (2, .ref (n + 329 + 22 * j + 1)), (3, .int cv), (4, .int (nI (i + 1)))] d_167_72 rfl rfl (nI_1 i) (by decide) rfl ?_
        refine ar_goto 40 d_167_75 (by decide) ?_
        rw [← show hlS (D j 2) k (i + 1) cv = hlS (D j 2) (k + 1) i cv from eq_ifF hwi rfl]
        exact ih (i + 1) cv (by omega)
  show ax_A (ax_step L xs) ((167, 0, fr, lo), [(0, .ref s0), (1, .int x)], [], h) _
  have hGG := hG
  obtain ⟨hS, hG0, hM, hE, hK, hz⟩ := hG
  have hM0 := hM
  obtain ⟨hF, hA, hN, hf, hn, hs, hp0⟩ := hS
  replace hF : ax_hs h [cSt s0 n E, cRk n nn gg C, cOr n nn gg f, cAs n E, cEr n 5 512 E, cEr n 6 100 E, cEr n 7 2 E, cAk n, cEr n 9 512 E, cNa n nn, cEr n 0 48 E, cEr n 1 961 E, cTs n gg E TK, cEr n 59 48 E, cEr n 60 48 E, cEr n 61 48 E, cEr n 62 2400 E, cEr n 63 512 E, cEr n 64 961 E, cEr n 65 961 E] := hF
  refine ar_iload_n 1 d_167_0 rfl rfl ?_
  refine ar_if_lt 13 4 d_167_1 (by decide) rfl (fun c1 => ?_) (fun c1 => ?_)
  · refine ar_iconst 14 (v := -1) d_167_13 rfl (by decide) ?_
    exact ar_iret d_167_14 rfl rfl (⟨_, rfl, eq_ifT c1 rfl, rfl⟩)
  · refine ar_iload_n 5 d_167_4 rfl rfl ?_
    refine ar_aload_n 6 d_167_5 rfl rfl ?_
    refine ar_getf 9 d_167_6 rfl (ci := 0) (k := 3) rfl (hF.at 0 rfl) rfl ?_
    refine ar_alen 10 d_167_9 rfl (hF.at 9 rfl) (by decide) ?_
    refine ar_icmp_lt 15 13 d_167_10 (by decide) rfl (fun c2 => ?_) (fun c2 => ?_)
    · have c2b : x < nI nn := c2
      obtain ⟨j, hj, ex⟩ := natLt c1 (by omega) c2b
      have ecl : x.toNatClampNeg = j := by rw [ex, nI_clamp (by omega)]
      subst ex
      refine ar_aload_n 16 d_167_15 rfl rfl ?_
      refine ar_getf 19 d_167_16 rfl (ci := 0) (k := 10) rfl (hF.at 0 rfl) rfl ?_
      refine ar_if_ne 25 22 d_167_19 (by decide) rfl (fun c3 => ?_) (fun c3 => ?_)
      · refine ar_aload_n 26 d_167_25 rfl rfl ?_
        refine ar_getf 29 d_167_26 rfl (ci := 0) (k := 3) rfl (hF.at 0 rfl) rfl ?_
        refine ar_iload_n 30 d_167_29 rfl rfl ?_
        refine ar_aald 31 d_167_30 rfl (hF.at 9 rfl) rfl (vin hj (by omega)) ?_
        refine ar_tv (v' := .ref (n + 329 + 22 * j)) (ndr hnn hj) ?_
        refine ar_getf 34 d_167_31 rfl (ci := 7) (k := 3) rfl (hf.g ((hG0 j hj).1.at 0 rfl) (by unfold ASA NTA; omega)) rfl ?_
        refine ar_astore_n 35 [(0, .ref s0), (1, .int (nI j)), (2, .ref (n + 329 + 22 * j + 1))] d_167_34 rfl (by decide) rfl ?_
        refine ar_iconst 36 (v := 0) d_167_35 rfl (by decide) ?_
        refine ar_istore_n 37 [(0, .ref s0), (1, .int (nI j)), (2, .ref (n + 329 + 22 * j + 1)), (3, .int 0)] d_167_36 rfl (by decide) rfl ?_
        refine ar_iconst 38 (v := 0) d_167_37 rfl (by decide) ?_
        refine ar_istore 40 [(0, .ref s0), (1, .int (nI j)), (2, .ref (n + 329 + 22 * j + 1)), (3, .int 0), (4, .int 0)] d_167_38 rfl (by decide) rfl ?_
        refine ar_wk [0, 2, 3, 4] rfl (by simp) ?_
        rw [show hlV nn E D (nI j) = hlS (D j 2) 280 0 0 from (eq_ifF c1 (eq_ifF (fun z => z c2b) (eq_ifF c3 (by rw [ecl])))).symm]
        exact key j hj 280 0 _ (by omega)
      · refine ar_bipush 24 (v := -6) d_167_22 rfl (by decide) ?_
        exact ar_iret d_167_24 rfl rfl (⟨_, rfl, eq_ifF c1 (eq_ifF (fun z => z c2b) (eq_ifT (Decidable.not_not.mp c3) rfl)), rfl⟩)
    · refine ar_iconst 14 (v := -1) d_167_13 rfl (by decide) ?_
      exact ar_iret d_167_14 rfl rfl (⟨_, rfl, eq_ifF c1 (eq_ifT c2 rfl), rfl⟩)

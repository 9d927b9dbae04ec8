/-! those who begin OPERATIONS, exactly: askNext, tellMap, work, drawMap, publish, mayAsk, takeName, addWord, begin, hear -/

theorem akr {n k : Nat} (h : k < 24) : va_rf ((fun j => if j < 24 then some (n + 272 + 2 * j) else none) (nI k).toNatClampNeg) = .ref (n + 272 + 2 * k) := by
  rw [nI_clamp (show k < 2 ^ 31 by omega)]
  show va_rf (if k < 24 then _ else _) = _
  rw [if_pos h]
  rfl
theorem ndr {n nn k : Nat} (hn : nn ≤ 6) (h : k < nn) : va_rf ((fun j => if j < nn then some (n + 329 + 22 * j) else none) (nI k).toNatClampNeg) = .ref (n + 329 + 22 * k) := by
  rw [nI_clamp (show k < 2 ^ 31 by omega)]
  show va_rf (if k < nn then _ else _) = _
  rw [if_pos h]
  rfl
/-- the MESSAGE that asks for the OPERATION asked by A -/
def askM (nn : Nat) (fi he ef ep st : Int32) (A : Mg) (bm : Nat → Int32) : Mg := (va_up (va_up (va_up (mg 2 (nI nn) fi ep st) 5 he) 6 ef) 7 (A.1 5), va_cpy A.2 (upd (upd (upd (upd (upd bm 0 (A.1 0)) 1 (A.1 1)) 2 (A.1 2)) 3 (A.1 3)) 4 (A.1 4)) 0 5 (100 + ((A.1 5).toNatClampNeg + 3) / 4))
def askR (nn : Nat) (f : Nat → Int32) (E : Nat → Nat → Int32) (Q : Nat → Mg) (ms ms' : List Mg) : Prop := ((E 4 9 = E 4 8 ∨ nof f 0 (E 4 14) nn 0 0 < 0) ∧ ms' = ms) ∨ (¬ E 4 9 = E 4 8 ∧ ¬ nof f 0 (E 4 14) nn 0 0 < 0 ∧ ∃ bm, ms' = pst ms (askM nn (nof f 0 (E 4 14) nn 0 0) (E 4 9) (E 4 12) (E 4 13) (E 4 14) (Q ((E 4 9).toNatClampNeg % 24)) bm))
theorem c_48Y {L : Nat} {xs : Nat → Int32} {fr lo : Nat} {h : ax_H} {n sl : Nat} {ao wd mm mb l : Nat} {k0 k1 k2 k3 k4 k5 k6 u0 u1 u2 u3 u4 u5 u6 u7 : Int32} {wf bf : Nat → Int32} (hfr : 1 ≤ fr) (hlo : 30 ≤ lo) (hl : l ≤ 2048) (e5 : k5 = nI l) (hF : ax_hs h [(ao, .inr (5, [.int k0, .int k1, .int k2, .int k3, .int k4, .int k5, .int k6, .ref wd])), (wd, .inl (0, 612, .inl wf)), (mm, .inr (2, [.int u0, .int u1, .int u2, .int u3, .int u4, .int u5, .int u6, .int u7, .ref mb])), (mb, .inl (0, 617, .inl bf))]) (hn : h.1 = n) (hs : h.2.1 = sl) (hn0 : 0 < n) : ax_M L xs 48 fr lo [.ref ao, .ref mm] h (fun r h' => r = none ∧ ax_hs h' [(ao, .inr (5, [.int k0, .int k1, .int k2, .int k3, .int k4, .int k5, .int k6, .ref wd])), (wd, .inl (0, 612, .inl wf)), (mm, .inr (2, [.int u0, .int u1, .int u2, .int u3, .int u4, .int u5, .int u6, .int k5, .ref mb])), (mb, .inl (0, 617, .inl (va_cpy wf (upd (upd (upd (upd (upd bf 0 k0) 1 k1) 2 k2) 3 k3) 4 k4) 0 5 (100 + (k5.toNatClampNeg + 3) / 4))))] ∧ h'.1 = n ∧ h'.2.1 = sl ∧ ax_fr (fun x => x ∈ [mm, mb]) h h') := by
  subst e5
  rw [nI_clamp (show l < 2 ^ 31 by omega)]
  exact c_48X hfr hlo hl hF hn hs hn0
set_option maxRecDepth 100000 in
theorem ek_47 {L : Nat} {xs : Nat → Int32} {fr lo : Nat} {s0 n nn gg : Nat} {C : Int32} {f : Nat → Int32} {q : Nat} {u b : Nat → Int32} {h0 h : ax_H} {E : Nat → Nat → Int32} {TK : Int64} {Q : Nat → Mg} {ms : List Mg}  (hfr : 2 ≤ fr) (hlo : 60 ≤ lo) (hC : CG s0 n nn gg f) (hS : AS s0 n nn gg C f q u b h0 h E TK Q ms) {he bg : Nat} (e9 : E 4 9 = nI he) (e8 : E 4 8 = nI bg) (hhb : he ≤ bg) (hb : bg ≤ 512) (hL : he < bg → inR 2049 ((Q (he % 24)).1 5)) : ax_M L xs 47 fr lo [.ref (n + 266)] h (fun r h' => r = none ∧ ∃ ms' : List Mg, AS s0 n nn gg C f q u b h0 h' E TK Q ms' ∧ askR nn f E Q ms ms') := by
  have hC0 := hC
  show ax_A (ax_step L xs) ((47, 0, fr, lo), [(0, .ref (n + 266))], [], h) _
  obtain ⟨hs0, hsn, hnn3, hnn, hgg1, hgg, hRg⟩ := hC
  obtain ⟨hF, hA, hN, hf, hn, hs, hp0⟩ := hS
  replace hF : ax_hs h [cSt s0 n E, cRk n nn gg C, cOr n nn gg f, cAs n E, cEr n 5 512 E, cEr n 6 100 E, cEr n 7 2 E, cAk n, cEr n 9 512 E, cNa n nn, cEr n 0 48 E, cEr n 1 961 E, cTs n gg E TK, cEr n 59 48 E, cEr n 60 48 E, cEr n 61 48 E, cEr n 62 2400 E, cEr n 63 512 E, cEr n 64 961 E, cEr n 65 961 E] := hF
  refine ar_aload_n 1 d_47_0 rfl rfl ?_
  refine ar_getf 4 d_47_1 rfl (ci := 4) (k := 0) rfl (hF.at 3 rfl) rfl ?_
  refine ar_iconst 5 (v := 0) d_47_4 rfl (by decide) ?_
  refine ar_iconst 6 (v := 0) d_47_5 rfl (by decide) ?_
  refine ar_aload_n 7 d_47_6 rfl rfl ?_
  refine ar_getf 10 d_47_7 rfl (ci := 4) (k := 14) rfl (hF.at 3 rfl) rfl ?_
  refine ar_call (r := []) (na := 0) (kd := 0) (cm := 31) (fr2 := fr - 1) (lo2 := lo - 26) 13 d_47_10 (ar_hoV (as := [.int 0, .int 0, .int (E 4 14)]) rfl rfl rfl (hF.at 1 rfl)) rfl (by omega) (show lo - 26 + (19 + 7) = lo by omega) (Nat.le_of_ble_eq_true rfl) (Nat.le_of_ble_eq_true rfl) (c_31 hgg hnn (g := 0) (by omega) (hF.sub (F' := [cRk n nn gg C, cOr n nn gg f]) [1, 2] rfl rfl)) ?_
  intro v hh hq
  obtain ⟨rfl, ehh⟩ := hq
  rw [ehh]
  clear ehh
  refine ar_top (x' := nof f 0 (E 4 14) nn 0 0) (by rw [Nat.zero_mul]) ?_
  refine ar_istore_n 14 [(0, .ref (n + 266)), (1, .int (nof f 0 (E 4 14) nn 0 0))] d_47_13 rfl (by decide) rfl ?_
  refine ar_aload_n 15 d_47_14 rfl rfl ?_
  refine ar_getf 18 d_47_15 rfl (ci := 4) (k := 9) rfl (hF.at 3 rfl) rfl ?_
  refine ar_top (x' := nI he) (e9) ?_
  refine ar_aload_n 19 d_47_18 rfl rfl ?_
  refine ar_getf 22 d_47_19 rfl (ci := 4) (k := 8) rfl (hF.at 3 rfl) rfl ?_
  refine ar_top (x' := nI bg) (e8) ?_
  refine ar_icmp_eq 29 25 d_47_22 (by decide) rfl (fun c1 => ?_) (fun c1 => ?_)
  · have hS9 : AS s0 n nn gg C f q u b h0 h E TK Q ms := ⟨hF, hA, hN, hf, hn, hs, hp0⟩
    exact ar_ret d_47_29 rfl (⟨rfl, ms, hS9, Or.inl ⟨Or.inl (by rw [e9, e8]; exact c1), rfl⟩⟩)
  · refine ar_iload_n 26 d_47_25 rfl rfl ?_
    refine ar_if_ge 30 29 d_47_26 (by decide) rfl (fun c2 => ?_) (fun c2 => ?_)
    · have hlt : he < bg := Nat.lt_of_le_of_ne hhb (fun z => c1 (by rw [z]))
      obtain ⟨l, hl, el⟩ := hL hlt
      have haj : he % 24 < 24 := Nat.mod_lt _ (by omega)
      refine ar_aload_n 31 d_47_30 rfl rfl ?_
      refine ar_getf 34 d_47_31 rfl (ci := 4) (k := 6) rfl (hF.at 3 rfl) rfl ?_
      refine ar_aload_n 35 d_47_34 rfl rfl ?_
      refine ar_getf 38 d_47_35 rfl (ci := 4) (k := 9) rfl (hF.at 3 rfl) rfl ?_
      refine ar_top (x' := nI he) (e9) ?_
      refine ar_aload_n 39 d_47_38 rfl rfl ?_
      refine ar_getf 42 d_47_39 rfl (ci := 4) (k := 6) rfl (hF.at 3 rfl) rfl ?_
      refine ar_alen 43 d_47_42 rfl (hF.at 7 rfl) (by decide) ?_
      refine ar_top (x' := 24) (rfl) ?_
      refine ar_irem 44 d_47_43 rfl (by decide) ?_
      refine ar_top (x' := nI (he % 24)) (pk_rem (d := 24) (by omega) (by omega) (by omega)) ?_
      refine ar_aald 45 d_47_44 rfl (hF.at 7 rfl) rfl (vin (by omega) (by omega)) ?_
      refine ar_tv (v' := .ref (n + 272 + 2 * (he % 24))) (akr haj) ?_
      replace hF : ax_hs h [(n + 272 + 2 * (he % 24), .inr (5, [.int ((Q (he % 24)).1 0), .int ((Q (he % 24)).1 1), .int ((Q (he % 24)).1 2), .int ((Q (he % 24)).1 3), .int ((Q (he % 24)).1 4), .int ((Q (he % 24)).1 5), .int ((Q (he % 24)).1 6), .ref (n + 272 + 2 * (he % 24) + 1)])), (n + 272 + 2 * (he % 24) + 1, .inl (0, 612, .inl ((Q (he % 24)).2))), cSt s0 n E, cRk n nn gg C, cOr n nn gg f, cAs n E, cEr n 5 512 E, cEr n 6 100 E, cEr n 7 2 E, cAk n, cEr n 9 512 E, cNa n nn, cEr n 0 48 E, cEr n 1 961 E, cTs n gg E TK, cEr n 59 48 E, cEr n 60 48 E, cEr n 61 48 E, cEr n 62 2400 E, cEr n 63 512 E, cEr n 64 961 E, cEr n 65 961 E] := hF.asc (farK (n := n) (s0 := s0) rfl hsn) haj (hA (he % 24) haj)
      replace hA : AKX h n Q (he % 24) := hA.x
      refine ar_astore_n 46 [(0, .ref (n + 266)), (1, .int (nof f 0 (E 4 14) nn 0 0)), (2, .ref (n + 272 + 2 * (he % 24)))] d_47_45 rfl (by decide) rfl ?_
      refine ar_aload_n 47 d_47_46 rfl rfl ?_
      refine ar_getf 50 d_47_47 rfl (ci := 4) (k := 1) rfl (hF.at 5 rfl) rfl ?_
      refine ar_iconst 51 (v := 2) d_47_50 rfl (by decide) ?_
      refine ar_aload_n 52 d_47_51 rfl rfl ?_
      refine ar_getf 55 d_47_52 rfl (ci := 4) (k := 0) rfl (hF.at 5 rfl) rfl ?_
      refine ar_getf 58 d_47_55 rfl (ci := 3) (k := 0) rfl (hF.at 3 rfl) rfl ?_
      refine ar_iload_n 59 d_47_58 rfl rfl ?_
      refine ar_aload_n 60 d_47_59 rfl rfl ?_
      refine ar_getf 63 d_47_60 rfl (ci := 4) (k := 13) rfl (hF.at 5 rfl) rfl ?_
      refine ar_aload_n 64 d_47_63 rfl rfl ?_
      refine ar_getf 67 d_47_64 rfl (ci := 4) (k := 14) rfl (hF.at 5 rfl) rfl ?_
      obtain ⟨zk, za, zc, hnet⟩ := hN.net
      refine ar_call (r := []) (na := 0) (kd := 0) (cm := 36) (fr2 := fr - 1) (lo2 := lo - 26) 70 d_47_67 (ar_hoV (as := [.int 2, .int (nI nn), .int (nof f 0 (E 4 14) nn 0 0), .int (E 4 13), .int (E 4 14)]) rfl rfl rfl hnet) rfl (by omega) (show lo - 26 + (19 + 7) = lo by omega) (Nat.le_of_ble_eq_true rfl) (Nat.le_of_ble_eq_true rfl) (hN.post) ?_
      intro v hp_1 hq
      obtain ⟨m, bm, hm, hmq, rfl, hmm, hed, hf2, hz1, hz2, hqm⟩ := hq
      have hNm : NTA n (n + 1) (n + 1 + 1 + 2 * m) := Or.inr (by omega)
      have hNm1 : NTA n (n + 1) (n + 1 + 1 + 2 * m + 1) := Or.inr (by omega)
      replace hF : ax_hs hp_1 [(n + 272 + 2 * (he % 24), .inr (5, [.int ((Q (he % 24)).1 0), .int ((Q (he % 24)).1 1), .int ((Q (he % 24)).1 2), .int ((Q (he % 24)).1 3), .int ((Q (he % 24)).1 4), .int ((Q (he % 24)).1 5), .int ((Q (he % 24)).1 6), .ref (n + 272 + 2 * (he % 24) + 1)])), (n + 272 + 2 * (he % 24) + 1, .inl (0, 612, .inl ((Q (he % 24)).2))), cSt s0 n E, cRk n nn gg C, cOr n nn gg f, cAs n E, cEr n 5 512 E, cEr n 6 100 E, cEr n 7 2 E, cAk n, cEr n 9 512 E, cNa n nn, cEr n 0 48 E, cEr n 1 961 E, cTs n gg E TK, cEr n 59 48 E, cEr n 60 48 E, cEr n 61 48 E, cEr n 62 2400 E, cEr n 63 512 E, cEr n 64 961 E, cEr n 65 961 E] := hF.fr hf2 (farEA (n := n) (s0 := s0) rfl hsn haj)
      replace hF : ax_hs hp_1 [(n + 1 + 1 + 2 * m, .inr (2, [.int 2, .int (nI nn), .int (nof f 0 (E 4 14) nn 0 0), .int (E 4 13), .int (E 4 14), .int (-1), .int 0, .int 0, .ref (n + 1 + 1 + 2 * m + 1)])), (n + 1 + 1 + 2 * m + 1, .inl (0, 617, .inl bm)), (n + 272 + 2 * (he % 24), .inr (5, [.int ((Q (he % 24)).1 0), .int ((Q (he % 24)).1 1), .int ((Q (he % 24)).1 2), .int ((Q (he % 24)).1 3), .int ((Q (he % 24)).1 4), .int ((Q (he % 24)).1 5), .int ((Q (he % 24)).1 6), .ref (n + 272 + 2 * (he % 24) + 1)])), (n + 272 + 2 * (he % 24) + 1, .inl (0, 612, .inl ((Q (he % 24)).2))), cSt s0 n E, cRk n nn gg C, cOr n nn gg f, cAs n E, cEr n 5 512 E, cEr n 6 100 E, cEr n 7 2 E, cAk n, cEr n 9 512 E, cNa n nn, cEr n 0 48 E, cEr n 1 961 E, cTs n gg E TK, cEr n 59 48 E, cEr n 60 48 E, cEr n 61 48 E, cEr n 62 2400 E, cEr n 63 512 E, cEr n 64 961 E, cEr n 65 961 E] := hF.msg (farEA (n := n) (s0 := s0) rfl hsn haj) hm hmm
      replace hf := hf.trC hf2 (fun _ _ z => Or.inl z)
      replace hA := hA.net hf2
      replace hn : hp_1.1 = h0.1 := by omega
      replace hs : hp_1.2.1 = h0.2.1 := by omega
      have hfm : ax_fr (fun x => x = n + 1 + 1 + 2 * m ∨ x = n + 1 + 1 + 2 * m + 1) hp_1 hp_1 := ax_fr.rf
      clear hN hnet hf2 hz1 hz2 hmm hqm
      refine ar_astore_n 71 [(0, .ref (n + 266)), (1, .int (nof f 0 (E 4 14) nn 0 0)), (2, .ref (n + 272 + 2 * (he % 24))), (3, .ref (n + 1 + 1 + 2 * m))] d_47_70 rfl (by decide) rfl ?_
      refine ar_aload_n 72 d_47_71 rfl rfl ?_
      refine ar_aload_n 73 d_47_72 rfl rfl ?_
      refine ar_getf 76 d_47_73 rfl (ci := 4) (k := 9) rfl (hF.at 7 rfl) rfl ?_
      refine ar_putf 79 [.int 2, .int (nI nn), .int (nof f 0 (E 4 14) nn 0 0), .int (E 4 13), .int (E 4 14), .int (E 4 9), .int 0, .int 0, .ref (n + 1 + 1 + 2 * m + 1)] d_47_76 rfl (ci := 2) (k := 5) rfl rfl (hF.at 0 rfl) (Nat.le_of_ble_eq_true rfl) rfl rfl rfl ?_
      replace hF : ax_hs (ax_put hp_1 (n + 1 + 1 + 2 * m) (.inr (2, [.int 2, .int (nI nn), .int (nof f 0 (E 4 14) nn 0 0), .int (E 4 13), .int (E 4 14), .int (E 4 9), .int 0, .int 0, .ref (n + 1 + 1 + 2 * m + 1)]))) [(n + 1 + 1 + 2 * m, .inr (2, [.int 2, .int (nI nn), .int (nof f 0 (E 4 14) nn 0 0), .int (E 4 13), .int (E 4 14), .int (E 4 9), .int 0, .int 0, .ref (n + 1 + 1 + 2 * m + 1)])), (n + 1 + 1 + 2 * m + 1, .inl (0, 617, .inl bm)), (n + 272 + 2 * (he % 24), .inr (5, [.int ((Q (he % 24)).1 0), .int ((Q (he % 24)).1 1), .int ((Q (he % 24)).1 2), .int ((Q (he % 24)).1 3), .int ((Q (he % 24)).1 4), .int ((Q (he % 24)).1 5), .int ((Q (he % 24)).1 6), .ref (n + 272 + 2 * (he % 24) + 1)])), (n + 272 + 2 * (he % 24) + 1, .inl (0, 612, .inl ((Q (he % 24)).2))), cSt s0 n E, cRk n nn gg C, cOr n nn gg f, cAs n E, cEr n 5 512 E, cEr n 6 100 E, cEr n 7 2 E, cAk n, cEr n 9 512 E, cNa n nn, cEr n 0 48 E, cEr n 1 961 E, cTs n gg E TK, cEr n 59 48 E, cEr n 60 48 E, cEr n 61 48 E, cEr n 62 2400 E, cEr n 63 512 E, cEr n 64 961 E, cEr n 65 961 E] := hF.put 0 _ rfl rfl
      replace hf := hf.put (a := n + 1 + 1 + 2 * m) (c := .inr (2, [.int 2, .int (nI nn), .int (nof f 0 (E 4 14) nn 0 0), .int (E 4 13), .int (E 4 14), .int (E 4 9), .int 0, .int 0, .ref (n + 1 + 1 + 2 * m + 1)])) (Or.inl hNm)
      replace hfm := hfm.put (a := n + 1 + 1 + 2 * m) (c := .inr (2, [.int 2, .int (nI nn), .int (nof f 0 (E 4 14) nn 0 0), .int (E 4 13), .int (E 4 14), .int (E 4 9), .int 0, .int 0, .ref (n + 1 + 1 + 2 * m + 1)])) (Or.inl rfl)
      replace hA := hA.put (a := n + 1 + 1 + 2 * m) (c := .inr (2, [.int 2, .int (nI nn), .int (nof f 0 (E 4 14) nn 0 0), .int (E 4 13), .int (E 4 14), .int (E 4 9), .int 0, .int 0, .ref (n + 1 + 1 + 2 * m + 1)])) (by omega)
      replace hn : (ax_put hp_1 (n + 1 + 1 + 2 * m) (.inr (2, [.int 2, .int (nI nn), .int (nof f 0 (E 4 14) nn 0 0), .int (E 4 13), .int (E 4 14), .int (E 4 9), .int 0, .int 0, .ref (n + 1 + 1 + 2 * m + 1)]))).1 = h0.1 := hn
      replace hs : (ax_put hp_1 (n + 1 + 1 + 2 * m) (.inr (2, [.int 2, .int (nI nn), .int (nof f 0 (E 4 14) nn 0 0), .int (E 4 13), .int (E 4 14), .int (E 4 9), .int 0, .int 0, .ref (n + 1 + 1 + 2 * m + 1)]))).2.1 = h0.2.1 := hs
      generalize ax_put hp_1 (n + 1 + 1 + 2 * m) (.inr (2, [.int 2, .int (nI nn), .int (nof f 0 (E 4 14) nn 0 0), .int (E 4 13), .int (E 4 14), .int (E 4 9), .int 0, .int 0, .ref (n + 1 + 1 + 2 * m + 1)])) = hp_2 at hF hf hA hfm hn hs ⊢
      refine ar_aload_n 80 d_47_79 rfl rfl ?_
      refine ar_aload_n 81 d_47_80 rfl rfl ?_
      refine ar_getf 84 d_47_81 rfl (ci := 4) (k := 12) rfl (hF.at 7 rfl) rfl ?_
      refine ar_putf 87 [.int 2, .int (nI nn), .int (nof f 0 (E 4 14) nn 0 0), .int (E 4 13), .int (E 4 14), .int (E 4 9), .int (E 4 12), .int 0, .ref (n + 1 + 1 + 2 * m + 1)] d_47_84 rfl (ci := 2) (k := 6) rfl rfl (hF.at 0 rfl) (Nat.le_of_ble_eq_true rfl) rfl rfl rfl ?_
      replace hF : ax_hs (ax_put hp_2 (n + 1 + 1 + 2 * m) (.inr (2, [.int 2, .int (nI nn), .int (nof f 0 (E 4 14) nn 0 0), .int (E 4 13), .int (E 4 14), .int (E 4 9), .int (E 4 12), .int 0, .ref (n + 1 + 1 + 2 * m + 1)]))) [(n + 1 + 1 + 2 * m, .inr (2, [.int 2, .int (nI nn), .int (nof f 0 (E 4 14) nn 0 0), .int (E 4 13), .int (E 4 14), .int (E 4 9), .int (E 4 12), .int 0, .ref (n + 1 + 1 + 2 * m + 1)])), (n + 1 + 1 + 2 * m + 1, .inl (0, 617, .inl bm)), (n + 272 + 2 * (he % 24), .inr (5, [.int ((Q (he % 24)).1 0), .int ((Q (he % 24)).1 1), .int ((Q (he % 24)).1 2), .int ((Q (he % 24)).1 3), .int ((Q (he % 24)).1 4), .int ((Q (he % 24)).1 5), .int ((Q (he % 24)).1 6), .ref (n + 272 + 2 * (he % 24) + 1)])), (n + 272 + 2 * (he % 24) + 1, .inl (0, 612, .inl ((Q (he % 24)).2))), cSt s0 n E, cRk n nn gg C, cOr n nn gg f, cAs n E, cEr n 5 512 E, cEr n 6 100 E, cEr n 7 2 E, cAk n, cEr n 9 512 E, cNa n nn, cEr n 0 48 E, cEr n 1 961 E, cTs n gg E TK, cEr n 59 48 E, cEr n 60 48 E, cEr n 61 48 E, cEr n 62 2400 E, cEr n 63 512 E, cEr n 64 961 E, cEr n 65 961 E] := hF.put 0 _ rfl rfl
      replace hf := hf.put (a := n + 1 + 1 + 2 * m) (c := .inr (2, [.int 2, .int (nI nn), .int (nof f 0 (E 4 14) nn 0 0), .int (E 4 13), .int (E 4 14), .int (E 4 9), .int (E 4 12), .int 0, .ref (n + 1 + 1 + 2 * m + 1)])) (Or.inl hNm)
      replace hfm := hfm.put (a := n + 1 + 1 + 2 * m) (c := .inr (2, [.int 2, .int (nI nn), .int (nof f 0 (E 4 14) nn 0 0), .int (E 4 13), .int (E 4 14), .int (E 4 9), .int (E 4 12), .int 0, .ref (n + 1 + 1 + 2 * m + 1)])) (Or.inl rfl)
      replace hA := hA.put (a := n + 1 + 1 + 2 * m) (c := .inr (2, [.int 2, .int (nI nn), .int (nof f 0 (E 4 14) nn 0 0), .int (E 4 13), .int (E 4 14), .int (E 4 9), .int (E 4 12), .int 0, .ref (n + 1 + 1 + 2 * m + 1)])) (by omega)
      replace hn : (ax_put hp_2 (n + 1 + 1 + 2 * m) (.inr (2, [.int 2, .int (nI nn), .int (nof f 0 (E 4 14) nn 0 0), .int (E 4 13), .int (E 4 14), .int (E 4 9), .int (E 4 12), .int 0, .ref (n + 1 + 1 + 2 * m + 1)]))).1 = h0.1 := hn
      replace hs : (ax_put hp_2 (n + 1 + 1 + 2 * m) (.inr (2, [.int 2, .int (nI nn), .int (nof f 0 (E 4 14) nn 0 0), .int (E 4 13), .int (E 4 14), .int (E 4 9), .int (E 4 12), .int 0, .ref (n + 1 + 1 + 2 * m + 1)]))).2.1 = h0.2.1 := hs
      generalize ax_put hp_2 (n + 1 + 1 + 2 * m) (.inr (2, [.int 2, .int (nI nn), .int (nof f 0 (E 4 14) nn 0 0), .int (E 4 13), .int (E 4 14), .int (E 4 9), .int (E 4 12), .int 0, .ref (n + 1 + 1 + 2 * m + 1)])) = hp_3 at hF hf hA hfm hn hs ⊢
      refine ar_aload_n 88 d_47_87 rfl rfl ?_
      refine ar_aload_n 89 d_47_88 rfl rfl ?_
      refine ar_call (r := []) (na := 0) (kd := 0) (cm := 48) (fr2 := fr - 1) (lo2 := lo - 21) 92 d_47_89 (ar_hoV (as := [.ref (n + 1 + 1 + 2 * m)]) rfl rfl rfl (hF.at 2 rfl)) rfl (by omega) (show lo - 21 + (19 + 2) = lo by omega) (Nat.le_of_ble_eq_true rfl) (Nat.le_of_ble_eq_true rfl) (c_48Y (by omega) (by omega) (by omega) el (hF.sub (F' := [(n + 272 + 2 * (he % 24), .inr (5, [.int ((Q (he % 24)).1 0), .int ((Q (he % 24)).1 1), .int ((Q (he % 24)).1 2), .int ((Q (he % 24)).1 3), .int ((Q (he % 24)).1 4), .int ((Q (he % 24)).1 5), .int ((Q (he % 24)).1 6), .ref (n + 272 + 2 * (he % 24) + 1)])), (n + 272 + 2 * (he % 24) + 1, .inl (0, 612, .inl ((Q (he % 24)).2))), (n + 1 + 1 + 2 * m, .inr (2, [.int 2, .int (nI nn), .int (nof f 0 (E 4 14) nn 0 0), .int (E 4 13), .int (E 4 14), .int (E 4 9), .int (E 4 12), .int 0, .ref (n + 1 + 1 + 2 * m + 1)])), (n + 1 + 1 + 2 * m + 1, .inl (0, 617, .inl bm))]) [2, 3, 0, 1] rfl rfl) rfl rfl (by omega)) ?_
      intro v hp_4 hq
      obtain ⟨rfl, qF, qn, qs, qf⟩ := hq
      have qF : ax_hs hp_4 [(n + 272 + 2 * (he % 24), .inr (5, [.int ((Q (he % 24)).1 0), .int ((Q (he % 24)).1 1), .int ((Q (he % 24)).1 2), .int ((Q (he % 24)).1 3), .int ((Q (he % 24)).1 4), .int ((Q (he % 24)).1 5), .int ((Q (he % 24)).1 6), .ref (n + 272 + 2 * (he % 24) + 1)])), (n + 272 + 2 * (he % 24) + 1, .inl (0, 612, .inl ((Q (he % 24)).2))), (n + 1 + 1 + 2 * m, .inr (2, [.int 2, .int (nI nn), .int (nof f 0 (E 4 14) nn 0 0), .int (E 4 13), .int (E 4 14), .int (E 4 9), .int (E 4 12), .int ((Q (he % 24)).1 5), .ref (n + 1 + 1 + 2 * m + 1)])), (n + 1 + 1 + 2 * m + 1, .inl (0, 617, .inl (va_cpy (Q (he % 24)).2 (upd (upd (upd (upd (upd bm 0 ((Q (he % 24)).1 0)) 1 ((Q (he % 24)).1 1)) 2 ((Q (he % 24)).1 2)) 3 ((Q (he % 24)).1 3)) 4 ((Q (he % 24)).1 4)) 0 5 (100 + (((Q (he % 24)).1 5).toNatClampNeg + 3) / 4))))] := qF
      replace hF : ax_hs hp_4 [cSt s0 n E, cRk n nn gg C, cOr n nn gg f, cAs n E, cEr n 5 512 E, cEr n 6 100 E, cEr n 7 2 E, cAk n, cEr n 9 512 E, cNa n nn, cEr n 0 48 E, cEr n 1 961 E, cTs n gg E TK, cEr n 59 48 E, cEr n 60 48 E, cEr n 61 48 E, cEr n 62 2400 E, cEr n 63 512 E, cEr n 64 961 E, cEr n 65 961 E, (n + 272 + 2 * (he % 24), .inr (5, [.int ((Q (he % 24)).1 0), .int ((Q (he % 24)).1 1), .int ((Q (he % 24)).1 2), .int ((Q (he % 24)).1 3), .int ((Q (he % 24)).1 4), .int ((Q (he % 24)).1 5), .int ((Q (he % 24)).1 6), .ref (n + 272 + 2 * (he % 24) + 1)])), (n + 272 + 2 * (he % 24) + 1, .inl (0, 612, .inl ((Q (he % 24)).2))), (n + 1 + 1 + 2 * m, .inr (2, [.int 2, .int (nI nn), .int (nof f 0 (E 4 14) nn 0 0), .int (E 4 13), .int (E 4 14), .int (E 4 9), .int (E 4 12), .int ((Q (he % 24)).1 5), .ref (n + 1 + 1 + 2 * m + 1)])), (n + 1 + 1 + 2 * m + 1, .inl (0, 617, .inl (va_cpy (Q (he % 24)).2 (upd (upd (upd (upd (upd bm 0 ((Q (he % 24)).1 0)) 1 ((Q (he % 24)).1 1)) 2 ((Q (he % 24)).1 2)) 3 ((Q (he % 24)).1 3)) 4 ((Q (he % 24)).1 4)) 0 5 (100 + (((Q (he % 24)).1 5).toNatClampNeg + 3) / 4))))] := ax_hs.call (rest := [cSt s0 n E, cRk n nn gg C, cOr n nn gg f, cAs n E, cEr n 5 512 E, cEr n 6 100 E, cEr n 7 2 E, cAk n, cEr n 9 512 E, cNa n nn, cEr n 0 48 E, cEr n 1 961 E, cTs n gg E TK, cEr n 59 48 E, cEr n 60 48 E, cEr n 61 48 E, cEr n 62 2400 E, cEr n 63 512 E, cEr n 64 961 E, cEr n 65 961 E]) [2, 3, 0, 1] [4, 5, 6, 7, 8, 9, 10, 11, 12, 13, 14, 15, 16, 17, 18, 19, 20, 21, 22, 23] hF qf qF rfl rfl rfl [0, 1] rfl rfl [2, 3, 0, 1] (news := []) rfl rfl (fun _ z => absurd z List.not_mem_nil) rfl
      replace hF := hF.sub (F' := [(n + 1 + 1 + 2 * m, .inr (2, [.int 2, .int (nI nn), .int (nof f 0 (E 4 14) nn 0 0), .int (E 4 13), .int (E 4 14), .int (E 4 9), .int (E 4 12), .int ((Q (he % 24)).1 5), .ref (n + 1 + 1 + 2 * m + 1)])), (n + 1 + 1 + 2 * m + 1, .inl (0, 617, .inl (va_cpy (Q (he % 24)).2 (upd (upd (upd (upd (upd bm 0 ((Q (he % 24)).1 0)) 1 ((Q (he % 24)).1 1)) 2 ((Q (he % 24)).1 2)) 3 ((Q (he % 24)).1 3)) 4 ((Q (he % 24)).1 4)) 0 5 (100 + (((Q (he % 24)).1 5).toNatClampNeg + 3) / 4)))), (n + 272 + 2 * (he % 24), .inr (5, [.int ((Q (he % 24)).1 0), .int ((Q (he % 24)).1 1), .int ((Q (he % 24)).1 2), .int ((Q (he % 24)).1 3), .int ((Q (he % 24)).1 4), .int ((Q (he % 24)).1 5), .int ((Q (he % 24)).1 6), .ref (n + 272 + 2 * (he % 24) + 1)])), (n + 272 + 2 * (he % 24) + 1, .inl (0, 612, .inl ((Q (he % 24)).2))), cSt s0 n E, cRk n nn gg C, cOr n nn gg f, cAs n E, cEr n 5 512 E, cEr n 6 100 E, cEr n 7 2 E, cAk n, cEr n 9 512 E, cNa n nn, cEr n 0 48 E, cEr n 1 961 E, cTs n gg E TK, cEr n 59 48 E, cEr n 60 48 E, cEr n 61 48 E, cEr n 62 2400 E, cEr n 63 512 E, cEr n 64 961 E, cEr n 65 961 E]) [22, 23, 20, 21, 0, 1, 2, 3, 4, 5, 6, 7, 8, 9, 10, 11, 12, 13, 14, 15, 16, 17, 18, 19] rfl rfl
      replace hfm := hfm.trC qf (fun x _ z => by simp only [List.mem_cons, List.not_mem_nil, or_false] at z; first | exact z | exact Or.inl z | exact Or.inr z)
      replace hf := hf.trC qf (fun x _ z => Or.inl (by simp only [List.mem_cons, List.not_mem_nil, or_false] at z; unfold NTA; omega))
      replace hA := hA.fr qf (fun x hx z => by simp only [List.mem_cons, List.not_mem_nil, or_false] at z; omega)
      replace hn : hp_4.1 = h0.1 := by omega
      replace hs : hp_4.2.1 = h0.2.1 := by omega
      clear qF qn qs qf
      have hN : NeX hp_4 n (pst ms ((va_up (va_up (va_up (mg 2 (nI nn) (nof f 0 (E 4 14) nn 0 0) (E 4 13) (E 4 14)) 5 (E 4 9)) 6 (E 4 12)) 7 ((Q (he % 24)).1 5)), (va_cpy (Q (he % 24)).2 (upd (upd (upd (upd (upd bm 0 ((Q (he % 24)).1 0)) 1 ((Q (he % 24)).1 1)) 2 ((Q (he % 24)).1 2)) 3 ((Q (he % 24)).1 3)) 4 ((Q (he % 24)).1 4)) 0 5 (100 + (((Q (he % 24)).1 5).toNatClampNeg + 3) / 4)))) q u b := hed _ (va_up (va_up (va_up (mg 2 (nI nn) (nof f 0 (E 4 14) nn 0 0) (E 4 13) (E 4 14)) 5 (E 4 9)) 6 (E 4 12)) 7 ((Q (he % 24)).1 5)) (va_cpy (Q (he % 24)).2 (upd (upd (upd (upd (upd bm 0 ((Q (he % 24)).1 0)) 1 ((Q (he % 24)).1 1)) 2 ((Q (he % 24)).1 2)) 3 ((Q (he % 24)).1 3)) 4 ((Q (he % 24)).1 4)) 0 5 (100 + (((Q (he % 24)).1 5).toNatClampNeg + 3) / 4)) hfm ⟨hF.at 0 rfl, hF.at 1 rfl⟩
      replace hF := hF.sub (F' := [(n + 272 + 2 * (he % 24), .inr (5, [.int ((Q (he % 24)).1 0), .int ((Q (he % 24)).1 1), .int ((Q (he % 24)).1 2), .int ((Q (he % 24)).1 3), .int ((Q (he % 24)).1 4), .int ((Q (he % 24)).1 5), .int ((Q (he % 24)).1 6), .ref (n + 272 + 2 * (he % 24) + 1)])), (n + 272 + 2 * (he % 24) + 1, .inl (0, 612, .inl ((Q (he % 24)).2))), cSt s0 n E, cRk n nn gg C, cOr n nn gg f, cAs n E, cEr n 5 512 E, cEr n 6 100 E, cEr n 7 2 E, cAk n, cEr n 9 512 E, cNa n nn, cEr n 0 48 E, cEr n 1 961 E, cTs n gg E TK, cEr n 59 48 E, cEr n 60 48 E, cEr n 61 48 E, cEr n 62 2400 E, cEr n 63 512 E, cEr n 64 961 E, cEr n 65 961 E]) [2, 3, 4, 5, 6, 7, 8, 9, 10, 11, 12, 13, 14, 15, 16, 17, 18, 19, 20, 21, 22, 23] rfl rfl
      clear hed hfm hNm hNm1 hm hmq
      replace hA : AKS hp_4 n Q := hA.same haj ⟨hF.at 0 rfl, hF.at 1 rfl⟩
      replace hF := hF.sub (F' := [cSt s0 n E, cRk n nn gg C, cOr n nn gg f, cAs n E, cEr n 5 512 E, cEr n 6 100 E, cEr n 7 2 E, cAk n, cEr n 9 512 E, cNa n nn, cEr n 0 48 E, cEr n 1 961 E, cTs n gg E TK, cEr n 59 48 E, cEr n 60 48 E, cEr n 61 48 E, cEr n 62 2400 E, cEr n 63 512 E, cEr n 64 961 E, cEr n 65 961 E]) [2, 3, 4, 5, 6, 7, 8, 9, 10, 11, 12, 13, 14, 15, 16, 17, 18, 19, 20, 21] rfl rfl
      have hS9 : AS s0 n nn gg C f q u b h0 hp_4 E TK Q (pst ms ((va_up (va_up (va_up (mg 2 (nI nn) (nof f 0 (E 4 14) nn 0 0) (E 4 13) (E 4 14)) 5 (E 4 9)) 6 (E 4 12)) 7 ((Q (he % 24)).1 5)), (va_cpy (Q (he % 24)).2 (upd (upd (upd (upd (upd bm 0 ((Q (he % 24)).1 0)) 1 ((Q (he % 24)).1 1)) 2 ((Q (he % 24)).1 2)) 3 ((Q (he % 24)).1 3)) 4 ((Q (he % 24)).1 4)) 0 5 (100 + (((Q (he % 24)).1 5).toNatClampNeg + 3) / 4)))) := ⟨hF, hA, hN, hf, hn, hs, hp0⟩
      exact ar_ret d_47_92 rfl (⟨rfl, _, hS9, Or.inr ⟨fun z => c1 (by rw [← e9, ← e8]; exact z), Int32.not_lt.mpr c2, bm, by rw [e9, nI_clamp (show he < 2 ^ 31 by omega)]; rfl⟩⟩)
    · have hS9 : AS s0 n nn gg C f q u b h0 h E TK Q ms := ⟨hF, hA, hN, hf, hn, hs, hp0⟩
      exact ar_ret d_47_29 rfl (⟨rfl, ms, hS9, Or.inl ⟨Or.inr (Int32.not_le.mp c2), rfl⟩⟩)
def tmR (nn : Nat) (mh ep st : Int32) : Nat → Nat → List Mg → List Mg → Prop
  | 0, _, ms, ms' => ms' = ms
  | k + 1, i, ms, ms' => ((mh >>> (nI i &&& 31)) &&& 1 = 0 ∧ ∃ bm, tmR nn mh ep st k (i + 1) (pst ms (mg 0 (nI nn) (nI i) ep st, bm)) ms') ∨ (¬ (mh >>> (nI i &&& 31)) &&& 1 = 0 ∧ tmR nn mh ep st k (i + 1) ms ms')
set_option maxRecDepth 100000 in
theorem ek_135 {L : Nat} {xs : Nat → Int32} {fr lo : Nat} {s0 n nn gg : Nat} {C : Int32} {f : Nat → Int32} {q : Nat} {u b : Nat → Int32} {h0 h : ax_H} {E : Nat → Nat → Int32} {TK : Int64} {Q : Nat → Mg} {ms : List Mg}  (hfr : 1 ≤ fr) (hlo : 40 ≤ lo) (hC : CG s0 n nn gg f) (hS : AS s0 n nn gg C f q u b h0 h E TK Q ms) : ax_M L xs 135 fr lo [.ref (n + 266)] h (fun r h' => r = none ∧ ∃ ms' : List Mg, AS s0 n nn gg C f q u b h0 h' E TK Q ms' ∧ tmR nn (E 4 15) (E 4 13) (E 4 14) nn 0 ms ms') := by
  have hC0 := hC
  have key : ∀ (k i : Nat) (h : ax_H) (ms1 : List Mg), i + k = nn → AS s0 n nn gg C f q u b h0 h E TK Q ms1 → (∀ ms', tmR nn (E 4 15) (E 4 13) (E 4 14) k i ms1 ms' → tmR nn (E 4 15) (E 4 13) (E 4 14) nn 0 ms ms') → ax_A (ax_step L xs) ((135, 2, fr, lo), [(0, .ref (n + 266)), (1, .int (nI i))], [], h) (fun r h' => r = none ∧ ∃ ms' : List Mg, AS s0 n nn gg C f q u b h0 h' E TK Q ms' ∧ tmR nn (E 4 15) (E 4 13) (E 4 14) nn 0 ms ms') := by
    obtain ⟨hs0, hsn, hnn3, hnn, hgg1, hgg, hRg⟩ := hC
    intro k
    induction k with
    | zero =>
      intro i h ms1 hi hS hR
      have e0 : nn = i := by omega
      subst e0
      obtain ⟨hF, hA, hN, hf, hn, hs, hp0⟩ := hS
      replace hF : ax_hs h [cSt s0 n E, cRk n nn gg C, cOr n nn gg f, cAs n E, cEr n 5 512 E, cEr n 6 100 E, cEr n 7 2 E, cAk n, cEr n 9 512 E, cNa n nn, cEr n 0 48 E, cEr n 1 961 E, cTs n gg E TK, cEr n 59 48 E, cEr n 60 48 E, cEr n 61 48 E, cEr n 62 2400 E, cEr n 63 512 E, cEr n 64 961 E, cEr n 65 961 E] := hF
      refine ar_iload_n 3 d_135_2 rfl rfl ?_
      refine ar_aload_n 4 d_135_3 rfl rfl ?_
      refine ar_getf 7 d_135_4 rfl (ci := 4) (k := 0) rfl (hF.at 3 rfl) rfl ?_
      refine ar_getf 10 d_135_7 rfl (ci := 3) (k := 0) rfl (hF.at 1 rfl) rfl ?_
      refine ar_icmp_ge 55 13 d_135_10 (by decide) rfl (fun _ => ?_) (fun c => absurd (Int32.le_refl _) c)
      have hS9 : AS s0 n nn gg C f q u b h0 h E TK Q ms1 := ⟨hF, hA, hN, hf, hn, hs, hp0⟩
      exact ar_ret d_135_55 rfl (⟨rfl, ms1, hS9, hR ms1 rfl⟩)
    | succ k ih =>
      intro i h ms1 hi hS hR
      have hic : i < nn := by omega
      obtain ⟨hF, hA, hN, hf, hn, hs, hp0⟩ := hS
      replace hF : ax_hs h [cSt s0 n E, cRk n nn gg C, cOr n nn gg f, cAs n E, cEr n 5 512 E, cEr n 6 100 E, cEr n 7 2 E, cAk n, cEr n 9 512 E, cNa n nn, cEr n 0 48 E, cEr n 1 961 E, cTs n gg E TK, cEr n 59 48 E, cEr n 60 48 E, cEr n 61 48 E, cEr n 62 2400 E, cEr n 63 512 E, cEr n 64 961 E, cEr n 65 961 E] := hF
      refine ar_iload_n 3 d_135_2 rfl rfl ?_
      refine ar_aload_n 4 d_135_3 rfl rfl ?_
      refine ar_getf 7 d_135_4 rfl (ci := 4) (k := 0) rfl (hF.at 3 rfl) rfl ?_
      refine ar_getf 10 d_135_7 rfl (ci := 3) (k := 0) rfl (hF.at 1 rfl) rfl ?_
      refine ar_icmp_ge 55 13 d_135_10 (by decide) rfl (fun c => absurd c (nI_ge hic (by omega))) (fun _ => ?_)
      refine ar_aload_n 14 d_135_13 rfl rfl ?_
      refine ar_getf 17 d_135_14 rfl (ci := 4) (k := 15) rfl (hF.at 3 rfl) rfl ?_
      refine ar_iload_n 18 d_135_17 rfl rfl ?_
      refine ar_ishr 19 d_135_18 rfl ?_
      refine ar_iconst 20 (v := 1) d_135_19 rfl (by decide) ?_
      refine ar_iand 21 d_135_20 rfl ?_
      refine ar_if_ne 49 24 d_135_21 (by decide) rfl (fun c1 => ?_) (fun c1 => ?_)
      · refine ar_iinc 52 [(0, .ref (n + 266)), (1, .int (nI (i + 1)))] d_135_49 rfl rfl (nI_1 i) (by decide) rfl ?_
        refine ar_goto 2 d_135_52 (by decide) ?_
        have hS1 : AS s0 n nn gg C f q u b h0 h E TK Q ms1 := ⟨hF, hA, hN, hf, hn, hs, hp0⟩
        exact ih (i + 1) h ms1 (by omega) hS1 (fun m hm => hR m (Or.inr ⟨c1, hm⟩))
      · refine ar_aload_n 25 d_135_24 rfl rfl ?_
        refine ar_getf 28 d_135_25 rfl (ci := 4) (k := 1) rfl (hF.at 3 rfl) rfl ?_
        refine ar_iconst 29 (v := 0) d_135_28 rfl (by decide) ?_
        refine ar_aload_n 30 d_135_29 rfl rfl ?_
        refine ar_getf 33 d_135_30 rfl (ci := 4) (k := 0) rfl (hF.at 3 rfl) rfl ?_
        refine ar_getf 36 d_135_33 rfl (ci := 3) (k := 0) rfl (hF.at 1 rfl) rfl ?_
        refine ar_iload_n 37 d_135_36 rfl rfl ?_
        refine ar_aload_n 38 d_135_37 rfl rfl ?_
        refine ar_getf 41 d_135_38 rfl (ci := 4) (k := 13) rfl (hF.at 3 rfl) rfl ?_
        refine ar_aload_n 42 d_135_41 rfl rfl ?_
        refine ar_getf 45 d_135_42 rfl (ci := 4) (k := 14) rfl (hF.at 3 rfl) rfl ?_
        obtain ⟨zk, za, zc, hnet⟩ := hN.net
        refine ar_call (r := []) (na := 0) (kd := 0) (cm := 36) (fr2 := fr - 1) (lo2 := lo - 26) 48 d_135_45 (ar_hoV (as := [.int 0, .int (nI nn), .int (nI i), .int (E 4 13), .int (E 4 14)]) rfl rfl rfl hnet) rfl (by omega) (show lo - 26 + (19 + 7) = lo by omega) (Nat.le_of_ble_eq_true rfl) (Nat.le_of_ble_eq_true rfl) (hN.post) ?_
        intro v hp_1 hq
        obtain ⟨m, bm, hm, hmq, rfl, hmm, hed, hf2, hz1, hz2, hqm⟩ := hq
        have hNm : NTA n (n + 1) (n + 1 + 1 + 2 * m) := Or.inr (by omega)
        have hNm1 : NTA n (n + 1) (n + 1 + 1 + 2 * m + 1) := Or.inr (by omega)
        replace hF : ax_hs hp_1 [cSt s0 n E, cRk n nn gg C, cOr n nn gg f, cAs n E, cEr n 5 512 E, cEr n 6 100 E, cEr n 7 2 E, cAk n, cEr n 9 512 E, cNa n nn, cEr n 0 48 E, cEr n 1 961 E, cTs n gg E TK, cEr n 59 48 E, cEr n 60 48 E, cEr n 61 48 E, cEr n 62 2400 E, cEr n 63 512 E, cEr n 64 961 E, cEr n 65 961 E] := hF.fr hf2 (farE (n := n) (s0 := s0) rfl hsn)
        replace hF : ax_hs hp_1 [(n + 1 + 1 + 2 * m, .inr (2, [.int 0, .int (nI nn), .int (nI i), .int (E 4 13), .int (E 4 14), .int (-1), .int 0, .int 0, .ref (n + 1 + 1 + 2 * m + 1)])), (n + 1 + 1 + 2 * m + 1, .inl (0, 617, .inl bm)), cSt s0 n E, cRk n nn gg C, cOr n nn gg f, cAs n E, cEr n 5 512 E, cEr n 6 100 E, cEr n 7 2 E, cAk n, cEr n 9 512 E, cNa n nn, cEr n 0 48 E, cEr n 1 961 E, cTs n gg E TK, cEr n 59 48 E, cEr n 60 48 E, cEr n 61 48 E, cEr n 62 2400 E, cEr n 63 512 E, cEr n 64 961 E, cEr n 65 961 E] := hF.msg (farE (n := n) (s0 := s0) rfl hsn) hm hmm
        replace hf := hf.trC hf2 (fun _ _ z => Or.inl z)
        replace hA := hA.net hf2
        replace hn : hp_1.1 = h0.1 := by omega
        replace hs : hp_1.2.1 = h0.2.1 := by omega
        have hfm : ax_fr (fun x => x = n + 1 + 1 + 2 * m ∨ x = n + 1 + 1 + 2 * m + 1) hp_1 hp_1 := ax_fr.rf
        clear hN hnet hf2 hz1 hz2 hmm hqm
        have hN : NeX hp_1 n (pst ms1 ((mg 0 (nI nn) (nI i) (E 4 13) (E 4 14)), bm)) q u b := hed _ (mg 0 (nI nn) (nI i) (E 4 13) (E 4 14)) bm hfm ⟨hF.at 0 rfl, hF.at 1 rfl⟩
        replace hF := hF.sub (F' := [cSt s0 n E, cRk n nn gg C, cOr n nn gg f, cAs n E, cEr n 5 512 E, cEr n 6 100 E, cEr n 7 2 E, cAk n, cEr n 9 512 E, cNa n nn, cEr n 0 48 E, cEr n 1 961 E, cTs n gg E TK, cEr n 59 48 E, cEr n 60 48 E, cEr n 61 48 E, cEr n 62 2400 E, cEr n 63 512 E, cEr n 64 961 E, cEr n 65 961 E]) [2, 3, 4, 5, 6, 7, 8, 9, 10, 11, 12, 13, 14, 15, 16, 17, 18, 19, 20, 21] rfl rfl
        clear hed hfm hNm hNm1 hm hmq
        refine ar_pop 49 d_135_48 rfl rfl ?_
        refine ar_iinc 52 [(0, .ref (n + 266)), (1, .int (nI (i + 1)))] d_135_49 rfl rfl (nI_1 i) (by decide) rfl ?_
        refine ar_goto 2 d_135_52 (by decide) ?_
        have hS1 : AS s0 n nn gg C f q u b h0 hp_1 E TK Q (pst ms1 ((mg 0 (nI nn) (nI i) (E 4 13) (E 4 14)), bm)) := ⟨hF, hA, hN, hf, hn, hs, hp0⟩
        exact ih (i + 1) hp_1 _ (by omega) hS1 (fun m hm => hR m (Or.inl ⟨Decidable.not_not.mp c1, _, hm⟩))
  show ax_A (ax_step L xs) ((135, 0, fr, lo), [(0, .ref (n + 266))], [], h) _
  refine ar_iconst 1 (v := 0) d_135_0 rfl (by decide) ?_
  refine ar_istore_n 2 [(0, .ref (n + 266)), (1, .int 0)] d_135_1 rfl (by decide) rfl ?_
  exact key nn 0 h ms (by omega) hS (fun _ z => z)
theorem ek_134 {L : Nat} {xs : Nat → Int32} {fr lo : Nat} {s0 n nn gg : Nat} {C : Int32} {f : Nat → Int32} {q : Nat} {u b : Nat → Int32} {h0 h : ax_H} {E : Nat → Nat → Int32} {TK : Int64} {Q : Nat → Mg} {ms : List Mg}  (hfr : 3 ≤ fr) (hlo : 90 ≤ lo) (hC : CG s0 n nn gg f) (hS : AS s0 n nn gg C f q u b h0 h E TK Q ms) {he bg : Nat} (e9 : E 4 9 = nI he) (e8 : E 4 8 = nI bg) (hhb : he ≤ bg) (hb : bg ≤ 512) (hL : he < bg → inR 2049 ((Q (he % 24)).1 5)) : ax_M L xs 134 fr lo [.ref (n + 266)] h (fun r h' => r = none ∧ ∃ ms1 ms' : List Mg, AS s0 n nn gg C f q u b h0 h' E TK Q ms' ∧ tmR nn (E 4 15) (E 4 13) (E 4 14) nn 0 ms ms1 ∧ askR nn f E Q ms1 ms') := by
  have hC0 := hC
  show ax_A (ax_step L xs) ((134, 0, fr, lo), [(0, .ref (n + 266))], [], h) _
  obtain ⟨hs0, hsn, hnn3, hnn, hgg1, hgg, hRg⟩ := hC
  obtain ⟨hF, hA, hN, hf, hn, hs, hp0⟩ := hS
  replace hF : ax_hs h [cSt s0 n E, cRk n nn gg C, cOr n nn gg f, cAs n E, cEr n 5 512 E, cEr n 6 100 E, cEr n 7 2 E, cAk n, cEr n 9 512 E, cNa n nn, cEr n 0 48 E, cEr n 1 961 E, cTs n gg E TK, cEr n 59 48 E, cEr n 60 48 E, cEr n 61 48 E, cEr n 62 2400 E, cEr n 63 512 E, cEr n 64 961 E, cEr n 65 961 E] := hF
  refine ar_aload_n 1 d_134_0 rfl rfl ?_
  have hS1 : AS s0 n nn gg C f q u b h0 h E TK Q ms := ⟨hF, hA, hN, hf, hn, hs, hp0⟩
  refine ar_call (r := []) (na := 0) (kd := 0) (cm := 135) (fr2 := fr - 1) (lo2 := lo - 21) 4 d_134_1 (ar_hoV (as := []) rfl rfl rfl (hF.at 3 rfl)) rfl (by omega) (show lo - 21 + (19 + 2) = lo by omega) (Nat.le_of_ble_eq_true rfl) (Nat.le_of_ble_eq_true rfl) (ek_135 (by omega) (by omega) hC0 hS1) ?_
  intro v hp_1 hq
  obtain ⟨rfl, ms1, hS2, hr1⟩ := hq
  clear hS1 hF hA hN hf hn hs hp0
  obtain ⟨hF, hA, hN, hf, hn, hs, hp0⟩ := hS2
  replace hF : ax_hs hp_1 [cSt s0 n E, cRk n nn gg C, cOr n nn gg f, cAs n E, cEr n 5 512 E, cEr n 6 100 E, cEr n 7 2 E, cAk n, cEr n 9 512 E, cNa n nn, cEr n 0 48 E, cEr n 1 961 E, cTs n gg E TK, cEr n 59 48 E, cEr n 60 48 E, cEr n 61 48 E, cEr n 62 2400 E, cEr n 63 512 E, cEr n 64 961 E, cEr n 65 961 E] := hF
  refine ar_aload_n 5 d_134_4 rfl rfl ?_
  have hS1 : AS s0 n nn gg C f q u b h0 hp_1 E TK Q ms1 := ⟨hF, hA, hN, hf, hn, hs, hp0⟩
  refine ar_call (r := []) (na := 0) (kd := 0) (cm := 47) (fr2 := fr - 1) (lo2 := lo - 23) 8 d_134_5 (ar_hoV (as := []) rfl rfl rfl (hF.at 3 rfl)) rfl (by omega) (show lo - 23 + (19 + 4) = lo by omega) (Nat.le_of_ble_eq_true rfl) (Nat.le_of_ble_eq_true rfl) (ek_47 (by omega) (by omega) hC0 hS1 e9 e8 hhb hb hL) ?_
  intro v hp_2 hq
  obtain ⟨rfl, ms2, hS2, hq2⟩ := hq
  clear hS1 hF hA hN hf hn hs hp0
  obtain ⟨hF, hA, hN, hf, hn, hs, hp0⟩ := hS2
  replace hF : ax_hs hp_2 [cSt s0 n E, cRk n nn gg C, cOr n nn gg f, cAs n E, cEr n 5 512 E, cEr n 6 100 E, cEr n 7 2 E, cAk n, cEr n 9 512 E, cNa n nn, cEr n 0 48 E, cEr n 1 961 E, cTs n gg E TK, cEr n 59 48 E, cEr n 60 48 E, cEr n 61 48 E, cEr n 62 2400 E, cEr n 63 512 E, cEr n 64 961 E, cEr n 65 961 E] := hF
  have hS9 : AS s0 n nn gg C f q u b h0 hp_2 E TK Q ms2 := ⟨hF, hA, hN, hf, hn, hs, hp0⟩
  exact ar_ret d_134_8 rfl (⟨rfl, ms1, _, hS9, hr1, hq2⟩)
def drE (E : Nat → Nat → Int32) (s2 : Int32) : Nat → Nat → Int32 := va_up E 4 (upd (upd (upd (E 4) 13 (E 4 13 + 1)) 14 s2) 15 0)
theorem ek_147 {L : Nat} {xs : Nat → Int32} {fr lo : Nat} {s0 n nn gg : Nat} {C : Int32} {f : Nat → Int32} {q : Nat} {u b : Nat → Int32} {h0 h : ax_H} {E : Nat → Nat → Int32} {TK : Int64} {Q : Nat → Mg} {ms : List Mg} {s2 : Int32} (hfr : 2 ≤ fr) (hlo : 70 ≤ lo) (hC : CG s0 n nn gg f) (hS : AS s0 n nn gg C f q u b h0 h E TK Q ms) : ax_M L xs 147 fr lo [.ref (n + 266), .int s2] h (fun r h' => r = none ∧ ∃ ms' : List Mg, AS s0 n nn gg C f q u b h0 h' (drE E s2) TK Q ms' ∧ tmR nn 0 (E 4 13 + 1) s2 nn 0 ms ms') := by
  have hC0 := hC
  show ax_A (ax_step L xs) ((147, 0, fr, lo), [(0, .ref (n + 266)), (1, .int s2)], [], h) _
  obtain ⟨hs0, hsn, hnn3, hnn, hgg1, hgg, hRg⟩ := hC
  obtain ⟨hF, hA, hN, hf, hn, hs, hp0⟩ := hS
  replace hF : ax_hs h [cSt s0 n E, cRk n nn gg C, cOr n nn gg f, cAs n E, cEr n 5 512 E, cEr n 6 100 E, cEr n 7 2 E, cAk n, cEr n 9 512 E, cNa n nn, cEr n 0 48 E, cEr n 1 961 E, cTs n gg E TK, cEr n 59 48 E, cEr n 60 48 E, cEr n 61 48 E, cEr n 62 2400 E, cEr n 63 512 E, cEr n 64 961 E, cEr n 65 961 E] := hF
  refine ar_aload_n 1 d_147_0 rfl rfl ?_
  refine ar_dup 2 d_147_1 rfl rfl ?_
  refine ar_getf 5 d_147_2 rfl (ci := 4) (k := 13) rfl (hF.at 3 rfl) rfl ?_
  refine ar_iconst 6 (v := 1) d_147_5 rfl (by decide) ?_
  refine ar_iadd 7 d_147_6 rfl ?_
  refine ar_putf 10 [.ref (n + 264), .ref n, .ref (n + 267), .int (E 4 3), .ref (n + 268), .ref (n + 269), .ref (n + 270), .ref (n + 271), .int (E 4 8), .int (E 4 9), .int (E 4 10), .int (E 4 11), .int (E 4 12), .int ((E 4 13) + 1), .int (E 4 14), .int (E 4 15)] d_147_7 rfl (ci := 4) (k := 13) rfl rfl (hF.at 3 rfl) (Nat.le_of_ble_eq_true rfl) rfl rfl rfl ?_
  replace hF : ax_hs (ax_put h (n + 266) (.inr (4, [.ref (n + 264), .ref n, .ref (n + 267), .int (E 4 3), .ref (n + 268), .ref (n + 269), .ref (n + 270), .ref (n + 271), .int (E 4 8), .int (E 4 9), .int (E 4 10), .int (E 4 11), .int (E 4 12), .int ((E 4 13) + 1), .int (E 4 14), .int (E 4 15)]))) [cSt s0 n E, cRk n nn gg C, cOr n nn gg f, (n + 266, .inr (4, [.ref (n + 264), .ref n, .ref (n + 267), .int (E 4 3), .ref (n + 268), .ref (n + 269), .ref (n + 270), .ref (n + 271), .int (E 4 8), .int (E 4 9), .int (E 4 10), .int (E 4 11), .int (E 4 12), .int ((E 4 13) + 1), .int (E 4 14), .int (E 4 15)])), cEr n 5 512 E, cEr n 6 100 E, cEr n 7 2 E, cAk n, cEr n 9 512 E, cNa n nn, cEr n 0 48 E, cEr n 1 961 E, cTs n gg E TK, cEr n 59 48 E, cEr n 60 48 E, cEr n 61 48 E, cEr n 62 2400 E, cEr n 63 512 E, cEr n 64 961 E, cEr n 65 961 E] := hF.put 3 _ rfl rfl
  replace hf := hf.put (a := n + 266) (c := .inr (4, [.ref (n + 264), .ref n, .ref (n + 267), .int (E 4 3), .ref (n + 268), .ref (n + 269), .ref (n + 270), .ref (n + 271), .int (E 4 8), .int (E 4 9), .int (E 4 10), .int (E 4 11), .int (E 4 12), .int ((E 4 13) + 1), .int (E 4 14), .int (E 4 15)])) (Or.inr (by omega))
  replace hN := hN.put (a := n + 266) (c := .inr (4, [.ref (n + 264), .ref n, .ref (n + 267), .int (E 4 3), .ref (n + 268), .ref (n + 269), .ref (n + 270), .ref (n + 271), .int (E 4 8), .int (E 4 9), .int (E 4 10), .int (E 4 11), .int (E 4 12), .int ((E 4 13) + 1), .int (E 4 14), .int (E 4 15)])) (by omega)
  replace hA := hA.put (a := n + 266) (c := .inr (4, [.ref (n + 264), .ref n, .ref (n + 267), .int (E 4 3), .ref (n + 268), .ref (n + 269), .ref (n + 270), .ref (n + 271), .int (E 4 8), .int (E 4 9), .int (E 4 10), .int (E 4 11), .int (E 4 12), .int ((E 4 13) + 1), .int (E 4 14), .int (E 4 15)])) (by omega)
  replace hn : (ax_put h (n + 266) (.inr (4, [.ref (n + 264), .ref n, .ref (n + 267), .int (E 4 3), .ref (n + 268), .ref (n + 269), .ref (n + 270), .ref (n + 271), .int (E 4 8), .int (E 4 9), .int (E 4 10), .int (E 4 11), .int (E 4 12), .int ((E 4 13) + 1), .int (E 4 14), .int (E 4 15)]))).1 = h0.1 := hn
  replace hs : (ax_put h (n + 266) (.inr (4, [.ref (n + 264), .ref n, .ref (n + 267), .int (E 4 3), .ref (n + 268), .ref (n + 269), .ref (n + 270), .ref (n + 271), .int (E 4 8), .int (E 4 9), .int (E 4 10), .int (E 4 11), .int (E 4 12), .int ((E 4 13) + 1), .int (E 4 14), .int (E 4 15)]))).2.1 = h0.2.1 := hs
  generalize ax_put h (n + 266) (.inr (4, [.ref (n + 264), .ref n, .ref (n + 267), .int (E 4 3), .ref (n + 268), .ref (n + 269), .ref (n + 270), .ref (n + 271), .int (E 4 8), .int (E 4 9), .int (E 4 10), .int (E 4 11), .int (E 4 12), .int ((E 4 13) + 1), .int (E 4 14), .int (E 4 15)])) = hp_1 at hF hf hA hN hn hs ⊢
  refine ar_aload_n 11 d_147_10 rfl rfl ?_
  refine ar_iload_n 12 d_147_11 rfl rfl ?_
  refine ar_putf 15 [.ref (n + 264), .ref n, .ref (n + 267), .int (E 4 3), .ref (n + 268), .ref (n + 269), .ref (n + 270), .ref (n + 271), .int (E 4 8), .int (E 4 9), .int (E 4 10), .int (E 4 11), .int (E 4 12), .int ((E 4 13) + 1), .int s2, .int (E 4 15)] d_147_12 rfl (ci := 4) (k := 14) rfl rfl (hF.at 3 rfl) (Nat.le_of_ble_eq_true rfl) rfl rfl rfl ?_
  replace hF : ax_hs (ax_put hp_1 (n + 266) (.inr (4, [.ref (n + 264), .ref n, .ref (n + 267), .int (E 4 3), .ref (n + 268), .ref (n + 269), .ref (n + 270), .ref (n + 271), .int (E 4 8), .int (E 4 9), .int (E 4 10), .int (E 4 11), .int (E 4 12), .int ((E 4 13) + 1), .int s2, .int (E 4 15)]))) [cSt s0 n E, cRk n nn gg C, cOr n nn gg f, (n + 266, .inr (4, [.ref (n + 264), .ref n, .ref (n + 267), .int (E 4 3), .ref (n + 268), .ref (n + 269), .ref (n + 270), .ref (n + 271), .int (E 4 8), .int (E 4 9), .int (E 4 10), .int (E 4 11), .int (E 4 12), .int ((E 4 13) + 1), .int s2, .int (E 4 15)])), cEr n 5 512 E, cEr n 6 100 E, cEr n 7 2 E, cAk n, cEr n 9 512 E, cNa n nn, cEr n 0 48 E, cEr n 1 961 E, cTs n gg E TK, cEr n 59 48 E, cEr n 60 48 E, cEr n 61 48 E, cEr n 62 2400 E, cEr n 63 512 E, cEr n 64 961 E, cEr n 65 961 E] := hF.put 3 _ rfl rfl
  replace hf := hf.put (a := n + 266) (c := .inr (4, [.ref (n + 264), .ref n, .ref (n + 267), .int (E 4 3), .ref (n + 268), .ref (n + 269), .ref (n + 270), .ref (n + 271), .int (E 4 8), .int (E 4 9), .int (E 4 10), .int (E 4 11), .int (E 4 12), .int ((E 4 13) + 1), .int s2, .int (E 4 15)])) (Or.inr (by omega))
  replace hN := hN.put (a := n + 266) (c := .inr (4, [.ref (n + 264), .ref n, .ref (n + 267), .int (E 4 3), .ref (n + 268), .ref (n + 269), .ref (n + 270), .ref (n + 271), .int (E 4 8), .int (E 4 9), .int (E 4 10), .int (E 4 11), .int (E 4 12), .int ((E 4 13) + 1), .int s2, .int (E 4 15)])) (by omega)
  replace hA := hA.put (a := n + 266) (c := .inr (4, [.ref (n + 264), .ref n, .ref (n + 267), .int (E 4 3), .ref (n + 268), .ref (n + 269), .ref (n + 270), .ref (n + 271), .int (E 4 8), .int (E 4 9), .int (E 4 10), .int (E 4 11), .int (E 4 12), .int ((E 4 13) + 1), .int s2, .int (E 4 15)])) (by omega)
  replace hn : (ax_put hp_1 (n + 266) (.inr (4, [.ref (n + 264), .ref n, .ref (n + 267), .int (E 4 3), .ref (n + 268), .ref (n + 269), .ref (n + 270), .ref (n + 271), .int (E 4 8), .int (E 4 9), .int (E 4 10), .int (E 4 11), .int (E 4 12), .int ((E 4 13) + 1), .int s2, .int (E 4 15)]))).1 = h0.1 := hn
  replace hs : (ax_put hp_1 (n + 266) (.inr (4, [.ref (n + 264), .ref n, .ref (n + 267), .int (E 4 3), .ref (n + 268), .ref (n + 269), .ref (n + 270), .ref (n + 271), .int (E 4 8), .int (E 4 9), .int (E 4 10), .int (E 4 11), .int (E 4 12), .int ((E 4 13) + 1), .int s2, .int (E 4 15)]))).2.1 = h0.2.1 := hs
  generalize ax_put hp_1 (n + 266) (.inr (4, [.ref (n + 264), .ref n, .ref (n + 267), .int (E 4 3), .ref (n + 268), .ref (n + 269), .ref (n + 270), .ref (n + 271), .int (E 4 8), .int (E 4 9), .int (E 4 10), .int (E 4 11), .int (E 4 12), .int ((E 4 13) + 1), .int s2, .int (E 4 15)])) = hp_2 at hF hf hA hN hn hs ⊢
  refine ar_aload_n 16 d_147_15 rfl rfl ?_
  refine ar_iconst 17 (v := 0) d_147_16 rfl (by decide) ?_
  refine ar_putf 20 [.ref (n + 264), .ref n, .ref (n + 267), .int (E 4 3), .ref (n + 268), .ref (n + 269), .ref (n + 270), .ref (n + 271), .int (E 4 8), .int (E 4 9), .int (E 4 10), .int (E 4 11), .int (E 4 12), .int ((E 4 13) + 1), .int s2, .int 0] d_147_17 rfl (ci := 4) (k := 15) rfl rfl (hF.at 3 rfl) (Nat.le_of_ble_eq_true rfl) rfl rfl rfl ?_
  replace hF : ax_hs (ax_put hp_2 (n + 266) (.inr (4, [.ref (n + 264), .ref n, .ref (n + 267), .int (E 4 3), .ref (n + 268), .ref (n + 269), .ref (n + 270), .ref (n + 271), .int (E 4 8), .int (E 4 9), .int (E 4 10), .int (E 4 11), .int (E 4 12), .int ((E 4 13) + 1), .int s2, .int 0]))) [cSt s0 n E, cRk n nn gg C, cOr n nn gg f, (n + 266, .inr (4, [.ref (n + 264), .ref n, .ref (n + 267), .int (E 4 3), .ref (n + 268), .ref (n + 269), .ref (n + 270), .ref (n + 271), .int (E 4 8), .int (E 4 9), .int (E 4 10), .int (E 4 11), .int (E 4 12), .int ((E 4 13) + 1), .int s2, .int 0])), cEr n 5 512 E, cEr n 6 100 E, cEr n 7 2 E, cAk n, cEr n 9 512 E, cNa n nn, cEr n 0 48 E, cEr n 1 961 E, cTs n gg E TK, cEr n 59 48 E, cEr n 60 48 E, cEr n 61 48 E, cEr n 62 2400 E, cEr n 63 512 E, cEr n 64 961 E, cEr n 65 961 E] := hF.put 3 _ rfl rfl
  replace hf := hf.put (a := n + 266) (c := .inr (4, [.ref (n + 264), .ref n, .ref (n + 267), .int (E 4 3), .ref (n + 268), .ref (n + 269), .ref (n + 270), .ref (n + 271), .int (E 4 8), .int (E 4 9), .int (E 4 10), .int (E 4 11), .int (E 4 12), .int ((E 4 13) + 1), .int s2, .int 0])) (Or.inr (by omega))
  replace hN := hN.put (a := n + 266) (c := .inr (4, [.ref (n + 264), .ref n, .ref (n + 267), .int (E 4 3), .ref (n + 268), .ref (n + 269), .ref (n + 270), .ref (n + 271), .int (E 4 8), .int (E 4 9), .int (E 4 10), .int (E 4 11), .int (E 4 12), .int ((E 4 13) + 1), .int s2, .int 0])) (by omega)
  replace hA := hA.put (a := n + 266) (c := .inr (4, [.ref (n + 264), .ref n, .ref (n + 267), .int (E 4 3), .ref (n + 268), .ref (n + 269), .ref (n + 270), .ref (n + 271), .int (E 4 8), .int (E 4 9), .int (E 4 10), .int (E 4 11), .int (E 4 12), .int ((E 4 13) + 1), .int s2, .int 0])) (by omega)
  replace hn : (ax_put hp_2 (n + 266) (.inr (4, [.ref (n + 264), .ref n, .ref (n + 267), .int (E 4 3), .ref (n + 268), .ref (n + 269), .ref (n + 270), .ref (n + 271), .int (E 4 8), .int (E 4 9), .int (E 4 10), .int (E 4 11), .int (E 4 12), .int ((E 4 13) + 1), .int s2, .int 0]))).1 = h0.1 := hn
  replace hs : (ax_put hp_2 (n + 266) (.inr (4, [.ref (n + 264), .ref n, .ref (n + 267), .int (E 4 3), .ref (n + 268), .ref (n + 269), .ref (n + 270), .ref (n + 271), .int (E 4 8), .int (E 4 9), .int (E 4 10), .int (E 4 11), .int (E 4 12), .int ((E 4 13) + 1), .int s2, .int 0]))).2.1 = h0.2.1 := hs
  generalize ax_put hp_2 (n + 266) (.inr (4, [.ref (n + 264), .ref n, .ref (n + 267), .int (E 4 3), .ref (n + 268), .ref (n + 269), .ref (n + 270), .ref (n + 271), .int (E 4 8), .int (E 4 9), .int (E 4 10), .int (E 4 11), .int (E 4 12), .int ((E 4 13) + 1), .int s2, .int 0])) = hp_3 at hF hf hA hN hn hs ⊢
  refine ar_aload_n 21 d_147_20 rfl rfl ?_
  have hS1 : AS s0 n nn gg C f q u b h0 hp_3 (va_up E 4 (upd (upd (upd (E 4) 13 ((E 4 13) + 1)) 14 s2) 15 0)) TK Q ms := ⟨hF, hA, hN, hf, hn, hs, hp0⟩
  refine ar_call (r := []) (na := 0) (kd := 0) (cm := 135) (fr2 := fr - 1) (lo2 := lo - 21) 24 d_147_21 (ar_hoV (as := []) rfl rfl rfl (hF.at 3 rfl)) rfl (by omega) (show lo - 21 + (19 + 2) = lo by omega) (Nat.le_of_ble_eq_true rfl) (Nat.le_of_ble_eq_true rfl) (ek_135 (by omega) (by omega) hC0 hS1) ?_
  intro v hp_4 hq
  obtain ⟨rfl, ms4, hS2, hr4⟩ := hq
  clear hS1 hF hA hN hf hn hs hp0
  obtain ⟨hF, hA, hN, hf, hn, hs, hp0⟩ := hS2
  replace hF : ax_hs hp_4 [cSt s0 n (va_up E 4 (upd (upd (upd (E 4) 13 ((E 4 13) + 1)) 14 s2) 15 0)), cRk n nn gg C, cOr n nn gg f, cAs n (va_up E 4 (upd (upd (upd (E 4) 13 ((E 4 13) + 1)) 14 s2) 15 0)), cEr n 5 512 (va_up E 4 (upd (upd (upd (E 4) 13 ((E 4 13) + 1)) 14 s2) 15 0)), cEr n 6 100 (va_up E 4 (upd (upd (upd (E 4) 13 ((E 4 13) + 1)) 14 s2) 15 0)), cEr n 7 2 (va_up E 4 (upd (upd (upd (E 4) 13 ((E 4 13) + 1)) 14 s2) 15 0)), cAk n, cEr n 9 512 (va_up E 4 (upd (upd (upd (E 4) 13 ((E 4 13) + 1)) 14 s2) 15 0)), cNa n nn, cEr n 0 48 (va_up E 4 (upd (upd (upd (E 4) 13 ((E 4 13) + 1)) 14 s2) 15 0)), cEr n 1 961 (va_up E 4 (upd (upd (upd (E 4) 13 ((E 4 13) + 1)) 14 s2) 15 0)), cTs n gg (va_up E 4 (upd (upd (upd (E 4) 13 ((E 4 13) + 1)) 14 s2) 15 0)) TK, cEr n 59 48 (va_up E 4 (upd (upd (upd (E 4) 13 ((E 4 13) + 1)) 14 s2) 15 0)), cEr n 60 48 (va_up E 4 (upd (upd (upd (E 4) 13 ((E 4 13) + 1)) 14 s2) 15 0)), cEr n 61 48 (va_up E 4 (upd (upd (upd (E 4) 13 ((E 4 13) + 1)) 14 s2) 15 0)), cEr n 62 2400 (va_up E 4 (upd (upd (upd (E 4) 13 ((E 4 13) + 1)) 14 s2) 15 0)), cEr n 63 512 (va_up E 4 (upd (upd (upd (E 4) 13 ((E 4 13) + 1)) 14 s2) 15 0)), cEr n 64 961 (va_up E 4 (upd (upd (upd (E 4) 13 ((E 4 13) + 1)) 14 s2) 15 0)), cEr n 65 961 (va_up E 4 (upd (upd (upd (E 4) 13 ((E 4 13) + 1)) 14 s2) 15 0))] := hF
  have hS9 : AS s0 n nn gg C f q u b h0 hp_4 (va_up E 4 (upd (upd (upd (E 4) 13 ((E 4 13) + 1)) 14 s2) 15 0)) TK Q ms4 := ⟨hF, hA, hN, hf, hn, hs, hp0⟩
  exact ar_ret d_147_24 rfl (⟨rfl, _, hS9, by exact hr4⟩)
def pbE (E : Nat → Nat → Int32) : Nat → Nat → Int32 := va_up E 4 (upd (upd (E 4) 10 (E 4 8)) 11 (E 4 10))
theorem ek_153 {L : Nat} {xs : Nat → Int32} {fr lo : Nat} {s0 n nn gg : Nat} {C : Int32} {f : Nat → Int32} {q : Nat} {u b : Nat → Int32} {h0 h : ax_H} {E : Nat → Nat → Int32} {TK : Int64} {Q : Nat → Mg} {ms : List Mg}  (hfr : 0 ≤ fr) (hlo : 0 ≤ lo) (hC : CG s0 n nn gg f) (hS : AS s0 n nn gg C f q u b h0 h E TK Q ms) : ax_M L xs 153 fr lo [.ref (n + 266)] h (fun r h' => r = none ∧ AS s0 n nn gg C f q u b h0 h' (pbE E) TK Q ms) := by
  have hC0 := hC
  show ax_A (ax_step L xs) ((153, 0, fr, lo), [(0, .ref (n + 266))], [], h) _
  obtain ⟨hs0, hsn, hnn3, hnn, hgg1, hgg, hRg⟩ := hC
  obtain ⟨hF, hA, hN, hf, hn, hs, hp0⟩ := hS
  replace hF : ax_hs h [cSt s0 n E, cRk n nn gg C, cOr n nn gg f, cAs n E, cEr n 5 512 E, cEr n 6 100 E, cEr n 7 2 E, cAk n, cEr n 9 512 E, cNa n nn, cEr n 0 48 E, cEr n 1 961 E, cTs n gg E TK, cEr n 59 48 E, cEr n 60 48 E, cEr n 61 48 E, cEr n 62 2400 E, cEr n 63 512 E, cEr n 64 961 E, cEr n 65 961 E] := hF
  refine ar_aload_n 1 d_153_0 rfl rfl ?_
  refine ar_aload_n 2 d_153_1 rfl rfl ?_
  refine ar_getf 5 d_153_2 rfl (ci := 4) (k := 10) rfl (hF.at 3 rfl) rfl ?_
  refine ar_putf 8 [.ref (n + 264), .ref n, .ref (n + 267), .int (E 4 3), .ref (n + 268), .ref (n + 269), .ref (n + 270), .ref (n + 271), .int (E 4 8), .int (E 4 9), .int (E 4 10), .int (E 4 10), .int (E 4 12), .int (E 4 13), .int (E 4 14), .int (E 4 15)] d_153_5 rfl (ci := 4) (k := 11) rfl rfl (hF.at 3 rfl) (Nat.le_of_ble_eq_true rfl) rfl rfl rfl ?_
  replace hF : ax_hs (ax_put h (n + 266) (.inr (4, [.ref (n + 264), .ref n, .ref (n + 267), .int (E 4 3), .ref (n + 268), .ref (n + 269), .ref (n + 270), .ref (n + 271), .int (E 4 8), .int (E 4 9), .int (E 4 10), .int (E 4 10), .int (E 4 12), .int (E 4 13), .int (E 4 14), .int (E 4 15)]))) [cSt s0 n E, cRk n nn gg C, cOr n nn gg f, (n + 266, .inr (4, [.ref (n + 264), .ref n, .ref (n + 267), .int (E 4 3), .ref (n + 268), .ref (n + 269), .ref (n + 270), .ref (n + 271), .int (E 4 8), .int (E 4 9), .int (E 4 10), .int (E 4 10), .int (E 4 12), .int (E 4 13), .int (E 4 14), .int (E 4 15)])), cEr n 5 512 E, cEr n 6 100 E, cEr n 7 2 E, cAk n, cEr n 9 512 E, cNa n nn, cEr n 0 48 E, cEr n 1 961 E, cTs n gg E TK, cEr n 59 48 E, cEr n 60 48 E, cEr n 61 48 E, cEr n 62 2400 E, cEr n 63 512 E, cEr n 64 961 E, cEr n 65 961 E] := hF.put 3 _ rfl rfl
  replace hf := hf.put (a := n + 266) (c := .inr (4, [.ref (n + 264), .ref n, .ref (n + 267), .int (E 4 3), .ref (n + 268), .ref (n + 269), .ref (n + 270), .ref (n + 271), .int (E 4 8), .int (E 4 9), .int (E 4 10), .int (E 4 10), .int (E 4 12), .int (E 4 13), .int (E 4 14), .int (E 4 15)])) (Or.inr (by omega))
  replace hN := hN.put (a := n + 266) (c := .inr (4, [.ref (n + 264), .ref n, .ref (n + 267), .int (E 4 3), .ref (n + 268), .ref (n + 269), .ref (n + 270), .ref (n + 271), .int (E 4 8), .int (E 4 9), .int (E 4 10), .int (E 4 10), .int (E 4 12), .int (E 4 13), .int (E 4 14), .int (E 4 15)])) (by omega)
  replace hA := hA.put (a := n + 266) (c := .inr (4, [.ref (n + 264), .ref n, .ref (n + 267), .int (E 4 3), .ref (n + 268), .ref (n + 269), .ref (n + 270), .ref (n + 271), .int (E 4 8), .int (E 4 9), .int (E 4 10), .int (E 4 10), .int (E 4 12), .int (E 4 13), .int (E 4 14), .int (E 4 15)])) (by omega)
  replace hn : (ax_put h (n + 266) (.inr (4, [.ref (n + 264), .ref n, .ref (n + 267), .int (E 4 3), .ref (n + 268), .ref (n + 269), .ref (n + 270), .ref (n + 271), .int (E 4 8), .int (E 4 9), .int (E 4 10), .int (E 4 10), .int (E 4 12), .int (E 4 13), .int (E 4 14), .int (E 4 15)]))).1 = h0.1 := hn
  replace hs : (ax_put h (n + 266) (.inr (4, [.ref (n + 264), .ref n, .ref (n + 267), .int (E 4 3), .ref (n + 268), .ref (n + 269), .ref (n + 270), .ref (n + 271), .int (E 4 8), .int (E 4 9), .int (E 4 10), .int (E 4 10), .int (E 4 12), .int (E 4 13), .int (E 4 14), .int (E 4 15)]))).2.1 = h0.2.1 := hs
  generalize ax_put h (n + 266) (.inr (4, [.ref (n + 264), .ref n, .ref (n + 267), .int (E 4 3), .ref (n + 268), .ref (n + 269), .ref (n + 270), .ref (n + 271), .int (E 4 8), .int (E 4 9), .int (E 4 10), .int (E 4 10), .int (E 4 12), .int (E 4 13), .int (E 4 14), .int (E 4 15)])) = hp_1 at hF hf hA hN hn hs ⊢
  refine ar_aload_n 9 d_153_8 rfl rfl ?_
  refine ar_aload_n 10 d_153_9 rfl rfl ?_
  refine ar_getf 13 d_153_10 rfl (ci := 4) (k := 8) rfl (hF.at 3 rfl) rfl ?_
  refine ar_putf 16 [.ref (n + 264), .ref n, .ref (n + 267), .int (E 4 3), .ref (n + 268), .ref (n + 269), .ref (n + 270), .ref (n + 271), .int (E 4 8), .int (E 4 9), .int (E 4 8), .int (E 4 10), .int (E 4 12), .int (E 4 13), .int (E 4 14), .int (E 4 15)] d_153_13 rfl (ci := 4) (k := 10) rfl rfl (hF.at 3 rfl) (Nat.le_of_ble_eq_true rfl) rfl rfl rfl ?_
  replace hF : ax_hs (ax_put hp_1 (n + 266) (.inr (4, [.ref (n + 264), .ref n, .ref (n + 267), .int (E 4 3), .ref (n + 268), .ref (n + 269), .ref (n + 270), .ref (n + 271), .int (E 4 8), .int (E 4 9), .int (E 4 8), .int (E 4 10), .int (E 4 12), .int (E 4 13), .int (E 4 14), .int (E 4 15)]))) [cSt s0 n E, cRk n nn gg C, cOr n nn gg f, (n + 266, .inr (4, [.ref (n + 264), .ref n, .ref (n + 267), .int (E 4 3), .ref (n + 268), .ref (n + 269), .ref (n + 270), .ref (n + 271), .int (E 4 8), .int (E 4 9), .int (E 4 8), .int (E 4 10), .int (E 4 12), .int (E 4 13), .int (E 4 14), .int (E 4 15)])), cEr n 5 512 E, cEr n 6 100 E, cEr n 7 2 E, cAk n, cEr n 9 512 E, cNa n nn, cEr n 0 48 E, cEr n 1 961 E, cTs n gg E TK, cEr n 59 48 E, cEr n 60 48 E, cEr n 61 48 E, cEr n 62 2400 E, cEr n 63 512 E, cEr n 64 961 E, cEr n 65 961 E] := hF.put 3 _ rfl rfl
  replace hf := hf.put (a := n + 266) (c := .inr (4, [.ref (n + 264), .ref n, .ref (n + 267), .int (E 4 3), .ref (n + 268), .ref (n + 269), .ref (n + 270), .ref (n + 271), .int (E 4 8), .int (E 4 9), .int (E 4 8), .int (E 4 10), .int (E 4 12), .int (E 4 13), .int (E 4 14), .int (E 4 15)])) (Or.inr (by omega))
  replace hN := hN.put (a := n + 266) (c := .inr (4, [.ref (n + 264), .ref n, .ref (n + 267), .int (E 4 3), .ref (n + 268), .ref (n + 269), .ref (n + 270), .ref (n + 271), .int (E 4 8), .int (E 4 9), .int (E 4 8), .int (E 4 10), .int (E 4 12), .int (E 4 13), .int (E 4 14), .int (E 4 15)])) (by omega)
  replace hA := hA.put (a := n + 266) (c := .inr (4, [.ref (n + 264), .ref n, .ref (n + 267), .int (E 4 3), .ref (n + 268), .ref (n + 269), .ref (n + 270), .ref (n + 271), .int (E 4 8), .int (E 4 9), .int (E 4 8), .int (E 4 10), .int (E 4 12), .int (E 4 13), .int (E 4 14), .int (E 4 15)])) (by omega)
  replace hn : (ax_put hp_1 (n + 266) (.inr (4, [.ref (n + 264), .ref n, .ref (n + 267), .int (E 4 3), .ref (n + 268), .ref (n + 269), .ref (n + 270), .ref (n + 271), .int (E 4 8), .int (E 4 9), .int (E 4 8), .int (E 4 10), .int (E 4 12), .int (E 4 13), .int (E 4 14), .int (E 4 15)]))).1 = h0.1 := hn
  replace hs : (ax_put hp_1 (n + 266) (.inr (4, [.ref (n + 264), .ref n, .ref (n + 267), .int (E 4 3), .ref (n + 268), .ref (n + 269), .ref (n + 270), .ref (n + 271), .int (E 4 8), .int (E 4 9), .int (E 4 8), .int (E 4 10), .int (E 4 12), .int (E 4 13), .int (E 4 14), .int (E 4 15)]))).2.1 = h0.2.1 := hs
  generalize ax_put hp_1 (n + 266) (.inr (4, [.ref (n + 264), .ref n, .ref (n + 267), .int (E 4 3), .ref (n + 268), .ref (n + 269), .ref (n + 270), .ref (n + 271), .int (E 4 8), .int (E 4 9), .int (E 4 8), .int (E 4 10), .int (E 4 12), .int (E 4 13), .int (E 4 14), .int (E 4 15)])) = hp_2 at hF hf hA hN hn hs ⊢
  have hS9 : AS s0 n nn gg C f q u b h0 hp_2 (va_up E 4 (upd (upd (E 4) 10 (E 4 8)) 11 (E 4 10))) TK Q ms := ⟨hF, hA, hN, hf, hn, hs, hp0⟩
  exact ar_ret d_153_16 rfl (⟨rfl, hS9⟩)
def mayA (l0 l1 k a b : Int32) : Prop := ¬ k < 0 ∧ ¬ 9 < k ∧ (k = 9 ∨ ¬ l0 = 0) ∧ (k = 6 ∨ k = 7 → ¬ l1 = 0) ∧ (k = 1 ∨ k = 3 ∨ k = 4 → ¬ a < 0 ∧ a ≤ 8192) ∧ (k = 4 → ¬ b < 0 ∧ ¬ 2048 < b)
theorem ek_45 {L : Nat} {xs : Nat → Int32} {fr lo : Nat} {s0 n nn gg : Nat} {C : Int32} {f : Nat → Int32} {q : Nat} {u b : Nat → Int32} {h0 h : ax_H} {E : Nat → Nat → Int32} {TK : Int64} {Q : Nat → Mg} {ms : List Mg} {x y z : Int32} (hfr : 0 ≤ fr) (hlo : 0 ≤ lo) (hC : CG s0 n nn gg f) (hS : AS s0 n nn gg C f q u b h0 h E TK Q ms) : ax_M L xs 45 fr lo [.ref (n + 266), .int x, .int y, .int z] h (fun r h' => ∃ v : Int32, r = some (.int v) ∧ ((v = 1 ∧ mayA (E 7 0) (E 7 1) x y z) ∨ (v = 0 ∧ ¬ mayA (E 7 0) (E 7 1) x y z)) ∧ AS s0 n nn gg C f q u b h0 h' E TK Q ms) := by
  have hC0 := hC
  show ax_A (ax_step L xs) ((45, 0, fr, lo), [(0, .ref (n + 266)), (1, .int x), (2, .int y), (3, .int z)], [], h) _
  obtain ⟨hs0, hsn, hnn3, hnn, hgg1, hgg, hRg⟩ := hC
  obtain ⟨hF, hA, hN, hf, hn, hs, hp0⟩ := hS
  replace hF : ax_hs h [cSt s0 n E, cRk n nn gg C, cOr n nn gg f, cAs n E, cEr n 5 512 E, cEr n 6 100 E, cEr n 7 2 E, cAk n, cEr n 9 512 E, cNa n nn, cEr n 0 48 E, cEr n 1 961 E, cTs n gg E TK, cEr n 59 48 E, cEr n 60 48 E, cEr n 61 48 E, cEr n 62 2400 E, cEr n 63 512 E, cEr n 64 961 E, cEr n 65 961 E] := hF
  refine ar_iload_n 1 d_45_0 rfl rfl ?_
  refine ar_if_lt 25 4 d_45_1 (by decide) rfl (fun cc1 => ?_) (fun cc1 => ?_)
  · refine ar_iconst 26 (v := 0) d_45_25 rfl (by decide) ?_
    have hS9 : AS s0 n nn gg C f q u b h0 h E TK Q ms := ⟨hF, hA, hN, hf, hn, hs, hp0⟩
    exact ar_iret d_45_26 rfl rfl (⟨_, rfl, Or.inr ⟨rfl, by unfold mayA; grind⟩, hS9⟩)
  · refine ar_iload_n 5 d_45_4 rfl rfl ?_
    refine ar_bipush 7 (v := 9) d_45_5 rfl (by decide) ?_
    refine ar_icmp_gt 25 10 d_45_7 (by decide) rfl (fun cc2 => ?_) (fun cc2 => ?_)
    · refine ar_iconst 26 (v := 0) d_45_25 rfl (by decide) ?_
      have hS9 : AS s0 n nn gg C f q u b h0 h E TK Q ms := ⟨hF, hA, hN, hf, hn, hs, hp0⟩
      exact ar_iret d_45_26 rfl rfl (⟨_, rfl, Or.inr ⟨rfl, by unfold mayA; grind⟩, hS9⟩)
    · refine ar_iload_n 11 d_45_10 rfl rfl ?_
      refine ar_bipush 13 (v := 9) d_45_11 rfl (by decide) ?_
      refine ar_icmp_eq 27 16 d_45_13 (by decide) rfl (fun cc3 => ?_) (fun cc3 => ?_)
      · refine ar_iload_n 28 d_45_27 rfl rfl ?_
        refine ar_bipush 30 (v := 6) d_45_28 rfl (by decide) ?_
        refine ar_icmp_eq 39 33 d_45_30 (by decide) rfl (fun cc4 => ?_) (fun cc4 => ?_)
        · refine ar_aload_n 40 d_45_39 rfl rfl ?_
          refine ar_getf 43 d_45_40 rfl (ci := 4) (k := 5) rfl (hF.at 3 rfl) rfl ?_
          refine ar_iconst 44 (v := 1) d_45_43 rfl (by decide) ?_
          refine ar_iald 45 d_45_44 rfl (hF.at 6 rfl) (vin (i := 1) (by omega) (by omega)) ?_
          refine ar_top (x' := E 7 1) (by rw [show (1 : Int32).toNatClampNeg = 1 by decide]) ?_
          refine ar_if_ne 50 48 d_45_45 (by decide) rfl (fun cc5 => ?_) (fun cc5 => ?_)
          · refine ar_iload_n 51 d_45_50 rfl rfl ?_
            refine ar_iconst 52 (v := 1) d_45_51 rfl (by decide) ?_
            refine ar_icmp_eq 65 55 d_45_52 (by decide) rfl (fun cc6 => ?_) (fun cc6 => ?_)
            · refine ar_iload_n 66 d_45_65 rfl rfl ?_
              refine ar_if_lt 76 69 d_45_66 (by decide) rfl (fun cc7 => ?_) (fun cc7 => ?_)
              · refine ar_iconst 77 (v := 0) d_45_76 rfl (by decide) ?_
                have hS9 : AS s0 n nn gg C f q u b h0 h E TK Q ms := ⟨hF, hA, hN, hf, hn, hs, hp0⟩
                exact ar_iret d_45_77 rfl rfl (⟨_, rfl, Or.inr ⟨rfl, by unfold mayA; grind⟩, hS9⟩)
              · refine ar_iload_n 70 d_45_69 rfl rfl ?_
                refine ar_sipush 73 (v := 8192) d_45_70 rfl (by decide) ?_
                refine ar_icmp_le 78 76 d_45_73 (by decide) rfl (fun cc8 => ?_) (fun cc8 => ?_)
                · refine ar_iload_n 79 d_45_78 rfl rfl ?_
                  refine ar_iconst 80 (v := 4) d_45_79 rfl (by decide) ?_
                  refine ar_icmp_ne 94 83 d_45_80 (by decide) rfl (fun cc9 => ?_) (fun cc9 => ?_)
                  · refine ar_iconst 95 (v := 1) d_45_94 rfl (by decide) ?_
                    refine ar_goto 99 d_45_95 (by decide) ?_
                    have hS9 : AS s0 n nn gg C f q u b h0 h E TK Q ms := ⟨hF, hA, hN, hf, hn, hs, hp0⟩
                    exact ar_iret d_45_99 rfl rfl (⟨_, rfl, Or.inl ⟨rfl, by unfold mayA; grind⟩, hS9⟩)
                  · refine ar_iload_n 84 d_45_83 rfl rfl ?_
                    refine ar_if_lt 98 87 d_45_84 (by decide) rfl (fun cc10 => ?_) (fun cc10 => ?_)
                    · refine ar_iconst 99 (v := 0) d_45_98 rfl (by decide) ?_
                      have hS9 : AS s0 n nn gg C f q u b h0 h E TK Q ms := ⟨hF, hA, hN, hf, hn, hs, hp0⟩
                      exact ar_iret d_45_99 rfl rfl (⟨_, rfl, Or.inr ⟨rfl, by unfold mayA; grind⟩, hS9⟩)
                    · refine ar_iload_n 88 d_45_87 rfl rfl ?_
                      refine ar_sipush 91 (v := 2048) d_45_88 rfl (by decide) ?_
                      refine ar_icmp_gt 98 94 d_45_91 (by decide) rfl (fun cc11 => ?_) (fun cc11 => ?_)
                      · refine ar_iconst 99 (v := 0) d_45_98 rfl (by decide) ?_
                        have hS9 : AS s0 n nn gg C f q u b h0 h E TK Q ms := ⟨hF, hA, hN, hf, hn, hs, hp0⟩
                        exact ar_iret d_45_99 rfl rfl (⟨_, rfl, Or.inr ⟨rfl, by unfold mayA; grind⟩, hS9⟩)
                      · refine ar_iconst 95 (v := 1) d_45_94 rfl (by decide) ?_
                        refine ar_goto 99 d_45_95 (by decide) ?_
                        have hS9 : AS s0 n nn gg C f q u b h0 h E TK Q ms := ⟨hF, hA, hN, hf, hn, hs, hp0⟩
                        exact ar_iret d_45_99 rfl rfl (⟨_, rfl, Or.inl ⟨rfl, by unfold mayA; grind⟩, hS9⟩)
                · refine ar_iconst 77 (v := 0) d_45_76 rfl (by decide) ?_
                  have hS9 : AS s0 n nn gg C f q u b h0 h E TK Q ms := ⟨hF, hA, hN, hf, hn, hs, hp0⟩
                  exact ar_iret d_45_77 rfl rfl (⟨_, rfl, Or.inr ⟨rfl, by unfold mayA; grind⟩, hS9⟩)
            · refine ar_iload_n 56 d_45_55 rfl rfl ?_
              refine ar_iconst 57 (v := 3) d_45_56 rfl (by decide) ?_
              refine ar_icmp_eq 65 60 d_45_57 (by decide) rfl (fun cc12 => ?_) (fun cc12 => ?_)
              · refine ar_iload_n 66 d_45_65 rfl rfl ?_
                refine ar_if_lt 76 69 d_45_66 (by decide) rfl (fun cc13 => ?_) (fun cc13 => ?_)
                · refine ar_iconst 77 (v := 0) d_45_76 rfl (by decide) ?_
                  have hS9 : AS s0 n nn gg C f q u b h0 h E TK Q ms := ⟨hF, hA, hN, hf, hn, hs, hp0⟩
                  exact ar_iret d_45_77 rfl rfl (⟨_, rfl, Or.inr ⟨rfl, by unfold mayA; grind⟩, hS9⟩)
                · refine ar_iload_n 70 d_45_69 rfl rfl ?_
                  refine ar_sipush 73 (v := 8192) d_45_70 rfl (by decide) ?_
                  refine ar_icmp_le 78 76 d_45_73 (by decide) rfl (fun cc14 => ?_) (fun cc14 => ?_)
                  · refine ar_iload_n 79 d_45_78 rfl rfl ?_
                    refine ar_iconst 80 (v := 4) d_45_79 rfl (by decide) ?_
                    refine ar_icmp_ne 94 83 d_45_80 (by decide) rfl (fun cc15 => ?_) (fun cc15 => ?_)
                    · refine ar_iconst 95 (v := 1) d_45_94 rfl (by decide) ?_
                      refine ar_goto 99 d_45_95 (by decide) ?_
                      have hS9 : AS s0 n nn gg C f q u b h0 h E TK Q ms := ⟨hF, hA, hN, hf, hn, hs, hp0⟩
                      exact ar_iret d_45_99 rfl rfl (⟨_, rfl, Or.inl ⟨rfl, by unfold mayA; grind⟩, hS9⟩)
                    · refine ar_iload_n 84 d_45_83 rfl rfl ?_
                      refine ar_if_lt 98 87 d_45_84 (by decide) rfl (fun cc16 => ?_) (fun cc16 => ?_)
                      · refine ar_iconst 99 (v := 0) d_45_98 rfl (by decide) ?_
                        have hS9 : AS s0 n nn gg C f q u b h0 h E TK Q ms := ⟨hF, hA, hN, hf, hn, hs, hp0⟩
                        exact ar_iret d_45_99 rfl rfl (⟨_, rfl, Or.inr ⟨rfl, by unfold mayA; grind⟩, hS9⟩)
                      · refine ar_iload_n 88 d_45_87 rfl rfl ?_
                        refine ar_sipush 91 (v := 2048) d_45_88 rfl (by decide) ?_
                        refine ar_icmp_gt 98 94 d_45_91 (by decide) rfl (fun cc17 => ?_) (fun cc17 => ?_)
                        · refine ar_iconst 99 (v := 0) d_45_98 rfl (by decide) ?_
                          have hS9 : AS s0 n nn gg C f q u b h0 h E TK Q ms := ⟨hF, hA, hN, hf, hn, hs, hp0⟩
                          exact ar_iret d_45_99 rfl rfl (⟨_, rfl, Or.inr ⟨rfl, by unfold mayA; grind⟩, hS9⟩)
                        · refine ar_iconst 95 (v := 1) d_45_94 rfl (by decide) ?_
                          refine ar_goto 99 d_45_95 (by decide) ?_
                          have hS9 : AS s0 n nn gg C f q u b h0 h E TK Q ms := ⟨hF, hA, hN, hf, hn, hs, hp0⟩
                          exact ar_iret d_45_99 rfl rfl (⟨_, rfl, Or.inl ⟨rfl, by unfold mayA; grind⟩, hS9⟩)
                  · refine ar_iconst 77 (v := 0) d_45_76 rfl (by decide) ?_
                    have hS9 : AS s0 n nn gg C f q u b h0 h E TK Q ms := ⟨hF, hA, hN, hf, hn, hs, hp0⟩
                    exact ar_iret d_45_77 rfl rfl (⟨_, rfl, Or.inr ⟨rfl, by unfold mayA; grind⟩, hS9⟩)
              · refine ar_iload_n 61 d_45_60 rfl rfl ?_
                refine ar_iconst 62 (v := 4) d_45_61 rfl (by decide) ?_
                refine ar_icmp_ne 78 65 d_45_62 (by decide) rfl (fun cc18 => ?_) (fun cc18 => ?_)
                · refine ar_iload_n 79 d_45_78 rfl rfl ?_
                  refine ar_iconst 80 (v := 4) d_45_79 rfl (by decide) ?_
                  refine ar_icmp_ne 94 83 d_45_80 (by decide) rfl (fun cc19 => ?_) (fun cc19 => ?_)
                  · refine ar_iconst 95 (v := 1) d_45_94 rfl (by decide) ?_
                    refine ar_goto 99 d_45_95 (by decide) ?_
                    have hS9 : AS s0 n nn gg C f q u b h0 h E TK Q ms := ⟨hF, hA, hN, hf, hn, hs, hp0⟩
                    exact ar_iret d_45_99 rfl rfl (⟨_, rfl, Or.inl ⟨rfl, by unfold mayA; grind⟩, hS9⟩)
                  · refine ar_iload_n 84 d_45_83 rfl rfl ?_
                    refine ar_if_lt 98 87 d_45_84 (by decide) rfl (fun cc20 => ?_) (fun cc20 => ?_)
                    · refine ar_iconst 99 (v := 0) d_45_98 rfl (by decide) ?_
                      have hS9 : AS s0 n nn gg C f q u b h0 h E TK Q ms := ⟨hF, hA, hN, hf, hn, hs, hp0⟩
                      exact ar_iret d_45_99 rfl rfl (⟨_, rfl, Or.inr ⟨rfl, by unfold mayA; grind⟩, hS9⟩)
                    · refine ar_iload_n 88 d_45_87 rfl rfl ?_
                      refine ar_sipush 91 (v := 2048) d_45_88 rfl (by decide) ?_
                      refine ar_icmp_gt 98 94 d_45_91 (by decide) rfl (fun cc21 => ?_) (fun cc21 => ?_)
                      · refine ar_iconst 99 (v := 0) d_45_98 rfl (by decide) ?_
                        have hS9 : AS s0 n nn gg C f q u b h0 h E TK Q ms := ⟨hF, hA, hN, hf, hn, hs, hp0⟩
                        exact ar_iret d_45_99 rfl rfl (⟨_, rfl, Or.inr ⟨rfl, by unfold mayA; grind⟩, hS9⟩)
                      · refine ar_iconst 95 (v := 1) d_45_94 rfl (by decide) ?_
                        refine ar_goto 99 d_45_95 (by decide) ?_
                        have hS9 : AS s0 n nn gg C f q u b h0 h E TK Q ms := ⟨hF, hA, hN, hf, hn, hs, hp0⟩
                        exact ar_iret d_45_99 rfl rfl (⟨_, rfl, Or.inl ⟨rfl, by unfold mayA; grind⟩, hS9⟩)
                · refine ar_iload_n 66 d_45_65 rfl rfl ?_
                  refine ar_if_lt 76 69 d_45_66 (by decide) rfl (fun cc22 => ?_) (fun cc22 => ?_)
                  · refine ar_iconst 77 (v := 0) d_45_76 rfl (by decide) ?_
                    have hS9 : AS s0 n nn gg C f q u b h0 h E TK Q ms := ⟨hF, hA, hN, hf, hn, hs, hp0⟩
                    exact ar_iret d_45_77 rfl rfl (⟨_, rfl, Or.inr ⟨rfl, by unfold mayA; grind⟩, hS9⟩)
                  · refine ar_iload_n 70 d_45_69 rfl rfl ?_
                    refine ar_sipush 73 (v := 8192) d_45_70 rfl (by decide) ?_
                    refine ar_icmp_le 78 76 d_45_73 (by decide) rfl (fun cc23 => ?_) (fun cc23 => ?_)
                    · refine ar_iload_n 79 d_45_78 rfl rfl ?_
                      refine ar_iconst 80 (v := 4) d_45_79 rfl (by decide) ?_
                      refine ar_icmp_ne 94 83 d_45_80 (by decide) rfl (fun cc24 => ?_) (fun cc24 => ?_)
                      · refine ar_iconst 95 (v := 1) d_45_94 rfl (by decide) ?_
                        refine ar_goto 99 d_45_95 (by decide) ?_
                        have hS9 : AS s0 n nn gg C f q u b h0 h E TK Q ms := ⟨hF, hA, hN, hf, hn, hs, hp0⟩
                        exact ar_iret d_45_99 rfl rfl (⟨_, rfl, Or.inl ⟨rfl, by unfold mayA; grind⟩, hS9⟩)
                      · refine ar_iload_n 84 d_45_83 rfl rfl ?_
                        refine ar_if_lt 98 87 d_45_84 (by decide) rfl (fun cc25 => ?_) (fun cc25 => ?_)
                        · refine ar_iconst 99 (v := 0) d_45_98 rfl (by decide) ?_
                          have hS9 : AS s0 n nn gg C f q u b h0 h E TK Q ms := ⟨hF, hA, hN, hf, hn, hs, hp0⟩
                          exact ar_iret d_45_99 rfl rfl (⟨_, rfl, Or.inr ⟨rfl, by unfold mayA; grind⟩, hS9⟩)
                        · refine ar_iload_n 88 d_45_87 rfl rfl ?_
                          refine ar_sipush 91 (v := 2048) d_45_88 rfl (by decide) ?_
                          refine ar_icmp_gt 98 94 d_45_91 (by decide) rfl (fun cc26 => ?_) (fun cc26 => ?_)
                          · refine ar_iconst 99 (v := 0) d_45_98 rfl (by decide) ?_
                            have hS9 : AS s0 n nn gg C f q u b h0 h E TK Q ms := ⟨hF, hA, hN, hf, hn, hs, hp0⟩
                            exact ar_iret d_45_99 rfl rfl (⟨_, rfl, Or.inr ⟨rfl, by unfold mayA; grind⟩, hS9⟩)
                          · refine ar_iconst 95 (v := 1) d_45_94 rfl (by decide) ?_
                            refine ar_goto 99 d_45_95 (by decide) ?_
                            have hS9 : AS s0 n nn gg C f q u b h0 h E TK Q ms := ⟨hF, hA, hN, hf, hn, hs, hp0⟩
                            exact ar_iret d_45_99 rfl rfl (⟨_, rfl, Or.inl ⟨rfl, by unfold mayA; grind⟩, hS9⟩)
                    · refine ar_iconst 77 (v := 0) d_45_76 rfl (by decide) ?_
                      have hS9 : AS s0 n nn gg C f q u b h0 h E TK Q ms := ⟨hF, hA, hN, hf, hn, hs, hp0⟩
                      exact ar_iret d_45_77 rfl rfl (⟨_, rfl, Or.inr ⟨rfl, by unfold mayA; grind⟩, hS9⟩)
          · refine ar_iconst 49 (v := 0) d_45_48 rfl (by decide) ?_
            have hS9 : AS s0 n nn gg C f q u b h0 h E TK Q ms := ⟨hF, hA, hN, hf, hn, hs, hp0⟩
            exact ar_iret d_45_49 rfl rfl (⟨_, rfl, Or.inr ⟨rfl, by unfold mayA; grind⟩, hS9⟩)
        · refine ar_iload_n 34 d_45_33 rfl rfl ?_
          refine ar_bipush 36 (v := 7) d_45_34 rfl (by decide) ?_
          refine ar_icmp_ne 50 39 d_45_36 (by decide) rfl (fun cc27 => ?_) (fun cc27 => ?_)
          · refine ar_iload_n 51 d_45_50 rfl rfl ?_
            refine ar_iconst 52 (v := 1) d_45_51 rfl (by decide) ?_
            refine ar_icmp_eq 65 55 d_45_52 (by decide) rfl (fun cc28 => ?_) (fun cc28 => ?_)
            · refine ar_iload_n 66 d_45_65 rfl rfl ?_
              refine ar_if_lt 76 69 d_45_66 (by decide) rfl (fun cc29 => ?_) (fun cc29 => ?_)
              · refine ar_iconst 77 (v := 0) d_45_76 rfl (by decide) ?_
                have hS9 : AS s0 n nn gg C f q u b h0 h E TK Q ms := ⟨hF, hA, hN, hf, hn, hs, hp0⟩
                exact ar_iret d_45_77 rfl rfl (⟨_, rfl, Or.inr ⟨rfl, by unfold mayA; grind⟩, hS9⟩)
              · refine ar_iload_n 70 d_45_69 rfl rfl ?_
                refine ar_sipush 73 (v := 8192) d_45_70 rfl (by decide) ?_
                refine ar_icmp_le 78 76 d_45_73 (by decide) rfl (fun cc30 => ?_) (fun cc30 => ?_)
                · refine ar_iload_n 79 d_45_78 rfl rfl ?_
                  refine ar_iconst 80 (v := 4) d_45_79 rfl (by decide) ?_
                  refine ar_icmp_ne 94 83 d_45_80 (by decide) rfl (fun cc31 => ?_) (fun cc31 => ?_)
                  · refine ar_iconst 95 (v := 1) d_45_94 rfl (by decide) ?_
                    refine ar_goto 99 d_45_95 (by decide) ?_
                    have hS9 : AS s0 n nn gg C f q u b h0 h E TK Q ms := ⟨hF, hA, hN, hf, hn, hs, hp0⟩
                    exact ar_iret d_45_99 rfl rfl (⟨_, rfl, Or.inl ⟨rfl, by unfold mayA; grind⟩, hS9⟩)
                  · refine ar_iload_n 84 d_45_83 rfl rfl ?_
                    refine ar_if_lt 98 87 d_45_84 (by decide) rfl (fun cc32 => ?_) (fun cc32 => ?_)
                    · refine ar_iconst 99 (v := 0) d_45_98 rfl (by decide) ?_
                      have hS9 : AS s0 n nn gg C f q u b h0 h E TK Q ms := ⟨hF, hA, hN, hf, hn, hs, hp0⟩
                      exact ar_iret d_45_99 rfl rfl (⟨_, rfl, Or.inr ⟨rfl, by unfold mayA; grind⟩, hS9⟩)
                    · refine ar_iload_n 88 d_45_87 rfl rfl ?_
                      refine ar_sipush 91 (v := 2048) d_45_88 rfl (by decide) ?_
                      refine ar_icmp_gt 98 94 d_45_91 (by decide) rfl (fun cc33 => ?_) (fun cc33 => ?_)
                      · refine ar_iconst 99 (v := 0) d_45_98 rfl (by decide) ?_
                        have hS9 : AS s0 n nn gg C f q u b h0 h E TK Q ms := ⟨hF, hA, hN, hf, hn, hs, hp0⟩
                        exact ar_iret d_45_99 rfl rfl (⟨_, rfl, Or.inr ⟨rfl, by unfold mayA; grind⟩, hS9⟩)
                      · refine ar_iconst 95 (v := 1) d_45_94 rfl (by decide) ?_
                        refine ar_goto 99 d_45_95 (by decide) ?_
                        have hS9 : AS s0 n nn gg C f q u b h0 h E TK Q ms := ⟨hF, hA, hN, hf, hn, hs, hp0⟩
                        exact ar_iret d_45_99 rfl rfl (⟨_, rfl, Or.inl ⟨rfl, by unfold mayA; grind⟩, hS9⟩)
                · refine ar_iconst 77 (v := 0) d_45_76 rfl (by decide) ?_
                  have hS9 : AS s0 n nn gg C f q u b h0 h E TK Q ms := ⟨hF, hA, hN, hf, hn, hs, hp0⟩
                  exact ar_iret d_45_77 rfl rfl (⟨_, rfl, Or.inr ⟨rfl, by unfold mayA; grind⟩, hS9⟩)
            · refine ar_iload_n 56 d_45_55 rfl rfl ?_
              refine ar_iconst 57 (v := 3) d_45_56 rfl (by decide) ?_
              refine ar_icmp_eq 65 60 d_45_57 (by decide) rfl (fun cc34 => ?_) (fun cc34 => ?_)
              · refine ar_iload_n 66 d_45_65 rfl rfl ?_
                refine ar_if_lt 76 69 d_45_66 (by decide) rfl (fun cc35 => ?_) (fun cc35 => ?_)
                · refine ar_iconst 77 (v := 0) d_45_76 rfl (by decide) ?_
                  have hS9 : AS s0 n nn gg C f q u b h0 h E TK Q ms := ⟨hF, hA, hN, hf, hn, hs, hp0⟩
                  exact ar_iret d_45_77 rfl rfl (⟨_, rfl, Or.inr ⟨rfl, by unfold mayA; grind⟩, hS9⟩)
                · refine ar_iload_n 70 d_45_69 rfl rfl ?_
                  refine ar_sipush 73 (v := 8192) d_45_70 rfl (by decide) ?_
                  refine ar_icmp_le 78 76 d_45_73 (by decide) rfl (fun cc36 => ?_) (fun cc36 => ?_)
                  · refine ar_iload_n 79 d_45_78 rfl rfl ?_
                    refine ar_iconst 80 (v := 4) d_45_79 rfl (by decide) ?_
                    refine ar_icmp_ne 94 83 d_45_80 (by decide) rfl (fun cc37 => ?_) (fun cc37 => ?_)
                    · refine ar_iconst 95 (v := 1) d_45_94 rfl (by decide) ?_
                      refine ar_goto 99 d_45_95 (by decide) ?_
                      have hS9 : AS s0 n nn gg C f q u b h0 h E TK Q ms := ⟨hF, hA, hN, hf, hn, hs, hp0⟩
                      exact ar_iret d_45_99 rfl rfl (⟨_, rfl, Or.inl ⟨rfl, by unfold mayA; grind⟩, hS9⟩)
                    · refine ar_iload_n 84 d_45_83 rfl rfl ?_
                      refine ar_if_lt 98 87 d_45_84 (by decide) rfl (fun cc38 => ?_) (fun cc38 => ?_)
                      · refine ar_iconst 99 (v := 0) d_45_98 rfl (by decide) ?_
                        have hS9 : AS s0 n nn gg C f q u b h0 h E TK Q ms := ⟨hF, hA, hN, hf, hn, hs, hp0⟩
                        exact ar_iret d_45_99 rfl rfl (⟨_, rfl, Or.inr ⟨rfl, by unfold mayA; grind⟩, hS9⟩)
                      · refine ar_iload_n 88 d_45_87 rfl rfl ?_
                        refine ar_sipush 91 (v := 2048) d_45_88 rfl (by decide) ?_
                        refine ar_icmp_gt 98 94 d_45_91 (by decide) rfl (fun cc39 => ?_) (fun cc39 => ?_)
                        · refine ar_iconst 99 (v := 0) d_45_98 rfl (by decide) ?_
                          have hS9 : AS s0 n nn gg C f q u b h0 h E TK Q ms := ⟨hF, hA, hN, hf, hn, hs, hp0⟩
                          exact ar_iret d_45_99 rfl rfl (⟨_, rfl, Or.inr ⟨rfl, by unfold mayA; grind⟩, hS9⟩)
                        · refine ar_iconst 95 (v := 1) d_45_94 rfl (by decide) ?_
                          refine ar_goto 99 d_45_95 (by decide) ?_
                          have hS9 : AS s0 n nn gg C f q u b h0 h E TK Q ms := ⟨hF, hA, hN, hf, hn, hs, hp0⟩
                          exact ar_iret d_45_99 rfl rfl (⟨_, rfl, Or.inl ⟨rfl, by unfold mayA; grind⟩, hS9⟩)
                  · refine ar_iconst 77 (v := 0) d_45_76 rfl (by decide) ?_
                    have hS9 : AS s0 n nn gg C f q u b h0 h E TK Q ms := ⟨hF, hA, hN, hf, hn, hs, hp0⟩
                    exact ar_iret d_45_77 rfl rfl (⟨_, rfl, Or.inr ⟨rfl, by unfold mayA; grind⟩, hS9⟩)
              · refine ar_iload_n 61 d_45_60 rfl rfl ?_
                refine ar_iconst 62 (v := 4) d_45_61 rfl (by decide) ?_
                refine ar_icmp_ne 78 65 d_45_62 (by decide) rfl (fun cc40 => ?_) (fun cc40 => ?_)
                · refine ar_iload_n 79 d_45_78 rfl rfl ?_
                  refine ar_iconst 80 (v := 4) d_45_79 rfl (by decide) ?_
                  refine ar_icmp_ne 94 83 d_45_80 (by decide) rfl (fun cc41 => ?_) (fun cc41 => ?_)
                  · refine ar_iconst 95 (v := 1) d_45_94 rfl (by decide) ?_
                    refine ar_goto 99 d_45_95 (by decide) ?_
                    have hS9 : AS s0 n nn gg C f q u b h0 h E TK Q ms := ⟨hF, hA, hN, hf, hn, hs, hp0⟩
                    exact ar_iret d_45_99 rfl rfl (⟨_, rfl, Or.inl ⟨rfl, by unfold mayA; grind⟩, hS9⟩)
                  · refine ar_iload_n 84 d_45_83 rfl rfl ?_
                    refine ar_if_lt 98 87 d_45_84 (by decide) rfl (fun cc42 => ?_) (fun cc42 => ?_)
                    · refine ar_iconst 99 (v := 0) d_45_98 rfl (by decide) ?_
                      have hS9 : AS s0 n nn gg C f q u b h0 h E TK Q ms := ⟨hF, hA, hN, hf, hn, hs, hp0⟩
                      exact ar_iret d_45_99 rfl rfl (⟨_, rfl, Or.inr ⟨rfl, by unfold mayA; grind⟩, hS9⟩)
                    · refine ar_iload_n 88 d_45_87 rfl rfl ?_
                      refine ar_sipush 91 (v := 2048) d_45_88 rfl (by decide) ?_
                      refine ar_icmp_gt 98 94 d_45_91 (by decide) rfl (fun cc43 => ?_) (fun cc43 => ?_)
                      · refine ar_iconst 99 (v := 0) d_45_98 rfl (by decide) ?_
                        have hS9 : AS s0 n nn gg C f q u b h0 h E TK Q ms := ⟨hF, hA, hN, hf, hn, hs, hp0⟩
                        exact ar_iret d_45_99 rfl rfl (⟨_, rfl, Or.inr ⟨rfl, by unfold mayA; grind⟩, hS9⟩)
                      · refine ar_iconst 95 (v := 1) d_45_94 rfl (by decide) ?_
                        refine ar_goto 99 d_45_95 (by decide) ?_
                        have hS9 : AS s0 n nn gg C f q u b h0 h E TK Q ms := ⟨hF, hA, hN, hf, hn, hs, hp0⟩
                        exact ar_iret d_45_99 rfl rfl (⟨_, rfl, Or.inl ⟨rfl, by unfold mayA; grind⟩, hS9⟩)
                · refine ar_iload_n 66 d_45_65 rfl rfl ?_
                  refine ar_if_lt 76 69 d_45_66 (by decide) rfl (fun cc44 => ?_) (fun cc44 => ?_)
                  · refine ar_iconst 77 (v := 0) d_45_76 rfl (by decide) ?_
                    have hS9 : AS s0 n nn gg C f q u b h0 h E TK Q ms := ⟨hF, hA, hN, hf, hn, hs, hp0⟩
                    exact ar_iret d_45_77 rfl rfl (⟨_, rfl, Or.inr ⟨rfl, by unfold mayA; grind⟩, hS9⟩)
                  · refine ar_iload_n 70 d_45_69 rfl rfl ?_
                    refine ar_sipush 73 (v := 8192) d_45_70 rfl (by decide) ?_
                    refine ar_icmp_le 78 76 d_45_73 (by decide) rfl (fun cc45 => ?_) (fun cc45 => ?_)
                    · refine ar_iload_n 79 d_45_78 rfl rfl ?_
                      refine ar_iconst 80 (v := 4) d_45_79 rfl (by decide) ?_
                      refine ar_icmp_ne 94 83 d_45_80 (by decide) rfl (fun cc46 => ?_) (fun cc46 => ?_)
                      · refine ar_iconst 95 (v := 1) d_45_94 rfl (by decide) ?_
                        refine ar_goto 99 d_45_95 (by decide) ?_
                        have hS9 : AS s0 n nn gg C f q u b h0 h E TK Q ms := ⟨hF, hA, hN, hf, hn, hs, hp0⟩
                        exact ar_iret d_45_99 rfl rfl (⟨_, rfl, Or.inl ⟨rfl, by unfold mayA; grind⟩, hS9⟩)
                      · refine ar_iload_n 84 d_45_83 rfl rfl ?_
                        refine ar_if_lt 98 87 d_45_84 (by decide) rfl (fun cc47 => ?_) (fun cc47 => ?_)
                        · refine ar_iconst 99 (v := 0) d_45_98 rfl (by decide) ?_
                          have hS9 : AS s0 n nn gg C f q u b h0 h E TK Q ms := ⟨hF, hA, hN, hf, hn, hs, hp0⟩
                          exact ar_iret d_45_99 rfl rfl (⟨_, rfl, Or.inr ⟨rfl, by unfold mayA; grind⟩, hS9⟩)
                        · refine ar_iload_n 88 d_45_87 rfl rfl ?_
                          refine ar_sipush 91 (v := 2048) d_45_88 rfl (by decide) ?_
                          refine ar_icmp_gt 98 94 d_45_91 (by decide) rfl (fun cc48 => ?_) (fun cc48 => ?_)
                          · refine ar_iconst 99 (v := 0) d_45_98 rfl (by decide) ?_
                            have hS9 : AS s0 n nn gg C f q u b h0 h E TK Q ms := ⟨hF, hA, hN, hf, hn, hs, hp0⟩
                            exact ar_iret d_45_99 rfl rfl (⟨_, rfl, Or.inr ⟨rfl, by unfold mayA; grind⟩, hS9⟩)
                          · refine ar_iconst 95 (v := 1) d_45_94 rfl (by decide) ?_
                            refine ar_goto 99 d_45_95 (by decide) ?_
                            have hS9 : AS s0 n nn gg C f q u b h0 h E TK Q ms := ⟨hF, hA, hN, hf, hn, hs, hp0⟩
                            exact ar_iret d_45_99 rfl rfl (⟨_, rfl, Or.inl ⟨rfl, by unfold mayA; grind⟩, hS9⟩)
                    · refine ar_iconst 77 (v := 0) d_45_76 rfl (by decide) ?_
                      have hS9 : AS s0 n nn gg C f q u b h0 h E TK Q ms := ⟨hF, hA, hN, hf, hn, hs, hp0⟩
                      exact ar_iret d_45_77 rfl rfl (⟨_, rfl, Or.inr ⟨rfl, by unfold mayA; grind⟩, hS9⟩)
          · refine ar_aload_n 40 d_45_39 rfl rfl ?_
            refine ar_getf 43 d_45_40 rfl (ci := 4) (k := 5) rfl (hF.at 3 rfl) rfl ?_
            refine ar_iconst 44 (v := 1) d_45_43 rfl (by decide) ?_
            refine ar_iald 45 d_45_44 rfl (hF.at 6 rfl) (vin (i := 1) (by omega) (by omega)) ?_
            refine ar_top (x' := E 7 1) (by rw [show (1 : Int32).toNatClampNeg = 1 by decide]) ?_
            refine ar_if_ne 50 48 d_45_45 (by decide) rfl (fun cc49 => ?_) (fun cc49 => ?_)
            · refine ar_iload_n 51 d_45_50 rfl rfl ?_
              refine ar_iconst 52 (v := 1) d_45_51 rfl (by decide) ?_
              refine ar_icmp_eq 65 55 d_45_52 (by decide) rfl (fun cc50 => ?_) (fun cc50 => ?_)
              · refine ar_iload_n 66 d_45_65 rfl rfl ?_
                refine ar_if_lt 76 69 d_45_66 (by decide) rfl (fun cc51 => ?_) (fun cc51 => ?_)
                · refine ar_iconst 77 (v := 0) d_45_76 rfl (by decide) ?_
                  have hS9 : AS s0 n nn gg C f q u b h0 h E TK Q ms := ⟨hF, hA, hN, hf, hn, hs, hp0⟩
                  exact ar_iret d_45_77 rfl rfl (⟨_, rfl, Or.inr ⟨rfl, by unfold mayA; grind⟩, hS9⟩)
                · refine ar_iload_n 70 d_45_69 rfl rfl ?_
                  refine ar_sipush 73 (v := 8192) d_45_70 rfl (by decide) ?_
                  refine ar_icmp_le 78 76 d_45_73 (by decide) rfl (fun cc52 => ?_) (fun cc52 => ?_)
                  · refine ar_iload_n 79 d_45_78 rfl rfl ?_
                    refine ar_iconst 80 (v := 4) d_45_79 rfl (by decide) ?_
                    refine ar_icmp_ne 94 83 d_45_80 (by decide) rfl (fun cc53 => ?_) (fun cc53 => ?_)
                    · refine ar_iconst 95 (v := 1) d_45_94 rfl (by decide) ?_
                      refine ar_goto 99 d_45_95 (by decide) ?_
                      have hS9 : AS s0 n nn gg C f q u b h0 h E TK Q ms := ⟨hF, hA, hN, hf, hn, hs, hp0⟩
                      exact ar_iret d_45_99 rfl rfl (⟨_, rfl, Or.inl ⟨rfl, by unfold mayA; grind⟩, hS9⟩)
                    · refine ar_iload_n 84 d_45_83 rfl rfl ?_
                      refine ar_if_lt 98 87 d_45_84 (by decide) rfl (fun cc54 => ?_) (fun cc54 => ?_)
                      · refine ar_iconst 99 (v := 0) d_45_98 rfl (by decide) ?_
                        have hS9 : AS s0 n nn gg C f q u b h0 h E TK Q ms := ⟨hF, hA, hN, hf, hn, hs, hp0⟩
                        exact ar_iret d_45_99 rfl rfl (⟨_, rfl, Or.inr ⟨rfl, by unfold mayA; grind⟩, hS9⟩)
                      · refine ar_iload_n 88 d_45_87 rfl rfl ?_
                        refine ar_sipush 91 (v := 2048) d_45_88 rfl (by decide) ?_
                        refine ar_icmp_gt 98 94 d_45_91 (by decide) rfl (fun cc55 => ?_) (fun cc55 => ?_)
                        · refine ar_iconst 99 (v := 0) d_45_98 rfl (by decide) ?_
                          have hS9 : AS s0 n nn gg C f q u b h0 h E TK Q ms := ⟨hF, hA, hN, hf, hn, hs, hp0⟩
                          exact ar_iret d_45_99 rfl rfl (⟨_, rfl, Or.inr ⟨rfl, by unfold mayA; grind⟩, hS9⟩)
                        · refine ar_iconst 95 (v := 1) d_45_94 rfl (by decide) ?_
                          refine ar_goto 99 d_45_95 (by decide) ?_
                          have hS9 : AS s0 n nn gg C f q u b h0 h E TK Q ms := ⟨hF, hA, hN, hf, hn, hs, hp0⟩
                          exact ar_iret d_45_99 rfl rfl (⟨_, rfl, Or.inl ⟨rfl, by unfold mayA; grind⟩, hS9⟩)
                  · refine ar_iconst 77 (v := 0) d_45_76 rfl (by decide) ?_
                    have hS9 : AS s0 n nn gg C f q u b h0 h E TK Q ms := ⟨hF, hA, hN, hf, hn, hs, hp0⟩
                    exact ar_iret d_45_77 rfl rfl (⟨_, rfl, Or.inr ⟨rfl, by unfold mayA; grind⟩, hS9⟩)
              · refine ar_iload_n 56 d_45_55 rfl rfl ?_
                refine ar_iconst 57 (v := 3) d_45_56 rfl (by decide) ?_
                refine ar_icmp_eq 65 60 d_45_57 (by decide) rfl (fun cc56 => ?_) (fun cc56 => ?_)
                · refine ar_iload_n 66 d_45_65 rfl rfl ?_
                  refine ar_if_lt 76 69 d_45_66 (by decide) rfl (fun cc57 => ?_) (fun cc57 => ?_)
                  · refine ar_iconst 77 (v := 0) d_45_76 rfl (by decide) ?_
                    have hS9 : AS s0 n nn gg C f q u b h0 h E TK Q ms := ⟨hF, hA, hN, hf, hn, hs, hp0⟩
                    exact ar_iret d_45_77 rfl rfl (⟨_, rfl, Or.inr ⟨rfl, by unfold mayA; grind⟩, hS9⟩)
                  · refine ar_iload_n 70 d_45_69 rfl rfl ?_
                    refine ar_sipush 73 (v := 8192) d_45_70 rfl (by decide) ?_
                    refine ar_icmp_le 78 76 d_45_73 (by decide) rfl (fun cc58 => ?_) (fun cc58 => ?_)
                    · refine ar_iload_n 79 d_45_78 rfl rfl ?_
                      refine ar_iconst 80 (v := 4) d_45_79 rfl (by decide) ?_
                      refine ar_icmp_ne 94 83 d_45_80 (by decide) rfl (fun cc59 => ?_) (fun cc59 => ?_)
                      · refine ar_iconst 95 (v := 1) d_45_94 rfl (by decide) ?_
                        refine ar_goto 99 d_45_95 (by decide) ?_
                        have hS9 : AS s0 n nn gg C f q u b h0 h E TK Q ms := ⟨hF, hA, hN, hf, hn, hs, hp0⟩
                        exact ar_iret d_45_99 rfl rfl (⟨_, rfl, Or.inl ⟨rfl, by unfold mayA; grind⟩, hS9⟩)
                      · refine ar_iload_n 84 d_45_83 rfl rfl ?_
                        refine ar_if_lt 98 87 d_45_84 (by decide) rfl (fun cc60 => ?_) (fun cc60 => ?_)
                        · refine ar_iconst 99 (v := 0) d_45_98 rfl (by decide) ?_
                          have hS9 : AS s0 n nn gg C f q u b h0 h E TK Q ms := ⟨hF, hA, hN, hf, hn, hs, hp0⟩
                          exact ar_iret d_45_99 rfl rfl (⟨_, rfl, Or.inr ⟨rfl, by unfold mayA; grind⟩, hS9⟩)
                        · refine ar_iload_n 88 d_45_87 rfl rfl ?_
                          refine ar_sipush 91 (v := 2048) d_45_88 rfl (by decide) ?_
                          refine ar_icmp_gt 98 94 d_45_91 (by decide) rfl (fun cc61 => ?_) (fun cc61 => ?_)
                          · refine ar_iconst 99 (v := 0) d_45_98 rfl (by decide) ?_
                            have hS9 : AS s0 n nn gg C f q u b h0 h E TK Q ms := ⟨hF, hA, hN, hf, hn, hs, hp0⟩
                            exact ar_iret d_45_99 rfl rfl (⟨_, rfl, Or.inr ⟨rfl, by unfold mayA; grind⟩, hS9⟩)
                          · refine ar_iconst 95 (v := 1) d_45_94 rfl (by decide) ?_
                            refine ar_goto 99 d_45_95 (by decide) ?_
                            have hS9 : AS s0 n nn gg C f q u b h0 h E TK Q ms := ⟨hF, hA, hN, hf, hn, hs, hp0⟩
                            exact ar_iret d_45_99 rfl rfl (⟨_, rfl, Or.inl ⟨rfl, by unfold mayA; grind⟩, hS9⟩)
                    · refine ar_iconst 77 (v := 0) d_45_76 rfl (by decide) ?_
                      have hS9 : AS s0 n nn gg C f q u b h0 h E TK Q ms := ⟨hF, hA, hN, hf, hn, hs, hp0⟩
                      exact ar_iret d_45_77 rfl rfl (⟨_, rfl, Or.inr ⟨rfl, by unfold mayA; grind⟩, hS9⟩)
                · refine ar_iload_n 61 d_45_60 rfl rfl ?_
                  refine ar_iconst 62 (v := 4) d_45_61 rfl (by decide) ?_
                  refine ar_icmp_ne 78 65 d_45_62 (by decide) rfl (fun cc62 => ?_) (fun cc62 => ?_)
                  · refine ar_iload_n 79 d_45_78 rfl rfl ?_
                    refine ar_iconst 80 (v := 4) d_45_79 rfl (by decide) ?_
                    refine ar_icmp_ne 94 83 d_45_80 (by decide) rfl (fun cc63 => ?_) (fun cc63 => ?_)
                    · refine ar_iconst 95 (v := 1) d_45_94 rfl (by decide) ?_
                      refine ar_goto 99 d_45_95 (by decide) ?_
                      have hS9 : AS s0 n nn gg C f q u b h0 h E TK Q ms := ⟨hF, hA, hN, hf, hn, hs, hp0⟩
                      exact ar_iret d_45_99 rfl rfl (⟨_, rfl, Or.inl ⟨rfl, by unfold mayA; grind⟩, hS9⟩)
                    · refine ar_iload_n 84 d_45_83 rfl rfl ?_
                      refine ar_if_lt 98 87 d_45_84 (by decide) rfl (fun cc64 => ?_) (fun cc64 => ?_)
                      · refine ar_iconst 99 (v := 0) d_45_98 rfl (by decide) ?_
                        have hS9 : AS s0 n nn gg C f q u b h0 h E TK Q ms := ⟨hF, hA, hN, hf, hn, hs, hp0⟩
                        exact ar_iret d_45_99 rfl rfl (⟨_, rfl, Or.inr ⟨rfl, by unfold mayA; grind⟩, hS9⟩)
                      · refine ar_iload_n 88 d_45_87 rfl rfl ?_
                        refine ar_sipush 91 (v := 2048) d_45_88 rfl (by decide) ?_
                        refine ar_icmp_gt 98 94 d_45_91 (by decide) rfl (fun cc65 => ?_) (fun cc65 => ?_)
                        · refine ar_iconst 99 (v := 0) d_45_98 rfl (by decide) ?_
                          have hS9 : AS s0 n nn gg C f q u b h0 h E TK Q ms := ⟨hF, hA, hN, hf, hn, hs, hp0⟩
                          exact ar_iret d_45_99 rfl rfl (⟨_, rfl, Or.inr ⟨rfl, by unfold mayA; grind⟩, hS9⟩)
                        · refine ar_iconst 95 (v := 1) d_45_94 rfl (by decide) ?_
                          refine ar_goto 99 d_45_95 (by decide) ?_
                          have hS9 : AS s0 n nn gg C f q u b h0 h E TK Q ms := ⟨hF, hA, hN, hf, hn, hs, hp0⟩
                          exact ar_iret d_45_99 rfl rfl (⟨_, rfl, Or.inl ⟨rfl, by unfold mayA; grind⟩, hS9⟩)
                  · refine ar_iload_n 66 d_45_65 rfl rfl ?_
                    refine ar_if_lt 76 69 d_45_66 (by decide) rfl (fun cc66 => ?_) (fun cc66 => ?_)
                    · refine ar_iconst 77 (v := 0) d_45_76 rfl (by decide) ?_
                      have hS9 : AS s0 n nn gg C f q u b h0 h E TK Q ms := ⟨hF, hA, hN, hf, hn, hs, hp0⟩
                      exact ar_iret d_45_77 rfl rfl (⟨_, rfl, Or.inr ⟨rfl, by unfold mayA; grind⟩, hS9⟩)
                    · refine ar_iload_n 70 d_45_69 rfl rfl ?_
                      refine ar_sipush 73 (v := 8192) d_45_70 rfl (by decide) ?_
                      refine ar_icmp_le 78 76 d_45_73 (by decide) rfl (fun cc67 => ?_) (fun cc67 => ?_)
                      · refine ar_iload_n 79 d_45_78 rfl rfl ?_
                        refine ar_iconst 80 (v := 4) d_45_79 rfl (by decide) ?_
                        refine ar_icmp_ne 94 83 d_45_80 (by decide) rfl (fun cc68 => ?_) (fun cc68 => ?_)
                        · refine ar_iconst 95 (v := 1) d_45_94 rfl (by decide) ?_
                          refine ar_goto 99 d_45_95 (by decide) ?_
                          have hS9 : AS s0 n nn gg C f q u b h0 h E TK Q ms := ⟨hF, hA, hN, hf, hn, hs, hp0⟩
                          exact ar_iret d_45_99 rfl rfl (⟨_, rfl, Or.inl ⟨rfl, by unfold mayA; grind⟩, hS9⟩)
                        · refine ar_iload_n 84 d_45_83 rfl rfl ?_
                          refine ar_if_lt 98 87 d_45_84 (by decide) rfl (fun cc69 => ?_) (fun cc69 => ?_)
                          · refine ar_iconst 99 (v := 0) d_45_98 rfl (by decide) ?_
                            have hS9 : AS s0 n nn gg C f q u b h0 h E TK Q ms := ⟨hF, hA, hN, hf, hn, hs, hp0⟩
                            exact ar_iret d_45_99 rfl rfl (⟨_, rfl, Or.inr ⟨rfl, by unfold mayA; grind⟩, hS9⟩)
                          · refine ar_iload_n 88 d_45_87 rfl rfl ?_
                            refine ar_sipush 91 (v := 2048) d_45_88 rfl (by decide) ?_
                            refine ar_icmp_gt 98 94 d_45_91 (by decide) rfl (fun cc70 => ?_) (fun cc70 => ?_)
                            · refine ar_iconst 99 (v := 0) d_45_98 rfl (by decide) ?_
                              have hS9 : AS s0 n nn gg C f q u b h0 h E TK Q ms := ⟨hF, hA, hN, hf, hn, hs, hp0⟩
                              exact ar_iret d_45_99 rfl rfl (⟨_, rfl, Or.inr ⟨rfl, by unfold mayA; grind⟩, hS9⟩)
                            · refine ar_iconst 95 (v := 1) d_45_94 rfl (by decide) ?_
                              refine ar_goto 99 d_45_95 (by decide) ?_
                              have hS9 : AS s0 n nn gg C f q u b h0 h E TK Q ms := ⟨hF, hA, hN, hf, hn, hs, hp0⟩
                              exact ar_iret d_45_99 rfl rfl (⟨_, rfl, Or.inl ⟨rfl, by unfold mayA; grind⟩, hS9⟩)
                      · refine ar_iconst 77 (v := 0) d_45_76 rfl (by decide) ?_
                        have hS9 : AS s0 n nn gg C f q u b h0 h E TK Q ms := ⟨hF, hA, hN, hf, hn, hs, hp0⟩
                        exact ar_iret d_45_77 rfl rfl (⟨_, rfl, Or.inr ⟨rfl, by unfold mayA; grind⟩, hS9⟩)
            · refine ar_iconst 49 (v := 0) d_45_48 rfl (by decide) ?_
              have hS9 : AS s0 n nn gg C f q u b h0 h E TK Q ms := ⟨hF, hA, hN, hf, hn, hs, hp0⟩
              exact ar_iret d_45_49 rfl rfl (⟨_, rfl, Or.inr ⟨rfl, by unfold mayA; grind⟩, hS9⟩)
      · refine ar_aload_n 17 d_45_16 rfl rfl ?_
        refine ar_getf 20 d_45_17 rfl (ci := 4) (k := 5) rfl (hF.at 3 rfl) rfl ?_
        refine ar_iconst 21 (v := 0) d_45_20 rfl (by decide) ?_
        refine ar_iald 22 d_45_21 rfl (hF.at 6 rfl) (vin (i := 0) (by omega) (by omega)) ?_
        refine ar_top (x' := E 7 0) (by rw [show (0 : Int32).toNatClampNeg = 0 by decide]) ?_
        refine ar_if_ne 27 25 d_45_22 (by decide) rfl (fun cc71 => ?_) (fun cc71 => ?_)
        · refine ar_iload_n 28 d_45_27 rfl rfl ?_
          refine ar_bipush 30 (v := 6) d_45_28 rfl (by decide) ?_
          refine ar_icmp_eq 39 33 d_45_30 (by decide) rfl (fun cc72 => ?_) (fun cc72 => ?_)
          · refine ar_aload_n 40 d_45_39 rfl rfl ?_
            refine ar_getf 43 d_45_40 rfl (ci := 4) (k := 5) rfl (hF.at 3 rfl) rfl ?_
            refine ar_iconst 44 (v := 1) d_45_43 rfl (by decide) ?_
            refine ar_iald 45 d_45_44 rfl (hF.at 6 rfl) (vin (i := 1) (by omega) (by omega)) ?_
            refine ar_top (x' := E 7 1) (by rw [show (1 : Int32).toNatClampNeg = 1 by decide]) ?_
            refine ar_if_ne 50 48 d_45_45 (by decide) rfl (fun cc73 => ?_) (fun cc73 => ?_)
            · refine ar_iload_n 51 d_45_50 rfl rfl ?_
              refine ar_iconst 52 (v := 1) d_45_51 rfl (by decide) ?_
              refine ar_icmp_eq 65 55 d_45_52 (by decide) rfl (fun cc74 => ?_) (fun cc74 => ?_)
              · refine ar_iload_n 66 d_45_65 rfl rfl ?_
                refine ar_if_lt 76 69 d_45_66 (by decide) rfl (fun cc75 => ?_) (fun cc75 => ?_)
                · refine ar_iconst 77 (v := 0) d_45_76 rfl (by decide) ?_
                  have hS9 : AS s0 n nn gg C f q u b h0 h E TK Q ms := ⟨hF, hA, hN, hf, hn, hs, hp0⟩
                  exact ar_iret d_45_77 rfl rfl (⟨_, rfl, Or.inr ⟨rfl, by unfold mayA; grind⟩, hS9⟩)
                · refine ar_iload_n 70 d_45_69 rfl rfl ?_
                  refine ar_sipush 73 (v := 8192) d_45_70 rfl (by decide) ?_
                  refine ar_icmp_le 78 76 d_45_73 (by decide) rfl (fun cc76 => ?_) (fun cc76 => ?_)
                  · refine ar_iload_n 79 d_45_78 rfl rfl ?_
                    refine ar_iconst 80 (v := 4) d_45_79 rfl (by decide) ?_
                    refine ar_icmp_ne 94 83 d_45_80 (by decide) rfl (fun cc77 => ?_) (fun cc77 => ?_)
                    · refine ar_iconst 95 (v := 1) d_45_94 rfl (by decide) ?_
                      refine ar_goto 99 d_45_95 (by decide) ?_
                      have hS9 : AS s0 n nn gg C f q u b h0 h E TK Q ms := ⟨hF, hA, hN, hf, hn, hs, hp0⟩
                      exact ar_iret d_45_99 rfl rfl (⟨_, rfl, Or.inl ⟨rfl, by unfold mayA; grind⟩, hS9⟩)
                    · refine ar_iload_n 84 d_45_83 rfl rfl ?_
                      refine ar_if_lt 98 87 d_45_84 (by decide) rfl (fun cc78 => ?_) (fun cc78 => ?_)
                      · refine ar_iconst 99 (v := 0) d_45_98 rfl (by decide) ?_
                        have hS9 : AS s0 n nn gg C f q u b h0 h E TK Q ms := ⟨hF, hA, hN, hf, hn, hs, hp0⟩
                        exact ar_iret d_45_99 rfl rfl (⟨_, rfl, Or.inr ⟨rfl, by unfold mayA; grind⟩, hS9⟩)
                      · refine ar_iload_n 88 d_45_87 rfl rfl ?_
                        refine ar_sipush 91 (v := 2048) d_45_88 rfl (by decide) ?_
                        refine ar_icmp_gt 98 94 d_45_91 (by decide) rfl (fun cc79 => ?_) (fun cc79 => ?_)
                        · refine ar_iconst 99 (v := 0) d_45_98 rfl (by decide) ?_
                          have hS9 : AS s0 n nn gg C f q u b h0 h E TK Q ms := ⟨hF, hA, hN, hf, hn, hs, hp0⟩
                          exact ar_iret d_45_99 rfl rfl (⟨_, rfl, Or.inr ⟨rfl, by unfold mayA; grind⟩, hS9⟩)
                        · refine ar_iconst 95 (v := 1) d_45_94 rfl (by decide) ?_
                          refine ar_goto 99 d_45_95 (by decide) ?_
                          have hS9 : AS s0 n nn gg C f q u b h0 h E TK Q ms := ⟨hF, hA, hN, hf, hn, hs, hp0⟩
                          exact ar_iret d_45_99 rfl rfl (⟨_, rfl, Or.inl ⟨rfl, by unfold mayA; grind⟩, hS9⟩)
                  · refine ar_iconst 77 (v := 0) d_45_76 rfl (by decide) ?_
                    have hS9 : AS s0 n nn gg C f q u b h0 h E TK Q ms := ⟨hF, hA, hN, hf, hn, hs, hp0⟩
                    exact ar_iret d_45_77 rfl rfl (⟨_, rfl, Or.inr ⟨rfl, by unfold mayA; grind⟩, hS9⟩)
              · refine ar_iload_n 56 d_45_55 rfl rfl ?_
                refine ar_iconst 57 (v := 3) d_45_56 rfl (by decide) ?_
                refine ar_icmp_eq 65 60 d_45_57 (by decide) rfl (fun cc80 => ?_) (fun cc80 => ?_)
                · refine ar_iload_n 66 d_45_65 rfl rfl ?_
                  refine ar_if_lt 76 69 d_45_66 (by decide) rfl (fun cc81 => ?_) (fun cc81 => ?_)
                  · refine ar_iconst 77 (v := 0) d_45_76 rfl (by decide) ?_
                    have hS9 : AS s0 n nn gg C f q u b h0 h E TK Q ms := ⟨hF, hA, hN, hf, hn, hs, hp0⟩
                    exact ar_iret d_45_77 rfl rfl (⟨_, rfl, Or.inr ⟨rfl, by unfold mayA; grind⟩, hS9⟩)
                  · refine ar_iload_n 70 d_45_69 rfl rfl ?_
                    refine ar_sipush 73 (v := 8192) d_45_70 rfl (by decide) ?_
                    refine ar_icmp_le 78 76 d_45_73 (by decide) rfl (fun cc82 => ?_) (fun cc82 => ?_)
                    · refine ar_iload_n 79 d_45_78 rfl rfl ?_
                      refine ar_iconst 80 (v := 4) d_45_79 rfl (by decide) ?_
                      refine ar_icmp_ne 94 83 d_45_80 (by decide) rfl (fun cc83 => ?_) (fun cc83 => ?_)
                      · refine ar_iconst 95 (v := 1) d_45_94 rfl (by decide) ?_
                        refine ar_goto 99 d_45_95 (by decide) ?_
                        have hS9 : AS s0 n nn gg C f q u b h0 h E TK Q ms := ⟨hF, hA, hN, hf, hn, hs, hp0⟩
                        exact ar_iret d_45_99 rfl rfl (⟨_, rfl, Or.inl ⟨rfl, by unfold mayA; grind⟩, hS9⟩)
                      · refine ar_iload_n 84 d_45_83 rfl rfl ?_
                        refine ar_if_lt 98 87 d_45_84 (by decide) rfl (fun cc84 => ?_) (fun cc84 => ?_)
                        · refine ar_iconst 99 (v := 0) d_45_98 rfl (by decide) ?_
                          have hS9 : AS s0 n nn gg C f q u b h0 h E TK Q ms := ⟨hF, hA, hN, hf, hn, hs, hp0⟩
                          exact ar_iret d_45_99 rfl rfl (⟨_, rfl, Or.inr ⟨rfl, by unfold mayA; grind⟩, hS9⟩)
                        · refine ar_iload_n 88 d_45_87 rfl rfl ?_
                          refine ar_sipush 91 (v := 2048) d_45_88 rfl (by decide) ?_
                          refine ar_icmp_gt 98 94 d_45_91 (by decide) rfl (fun cc85 => ?_) (fun cc85 => ?_)
                          · refine ar_iconst 99 (v := 0) d_45_98 rfl (by decide) ?_
                            have hS9 : AS s0 n nn gg C f q u b h0 h E TK Q ms := ⟨hF, hA, hN, hf, hn, hs, hp0⟩
                            exact ar_iret d_45_99 rfl rfl (⟨_, rfl, Or.inr ⟨rfl, by unfold mayA; grind⟩, hS9⟩)
                          · refine ar_iconst 95 (v := 1) d_45_94 rfl (by decide) ?_
                            refine ar_goto 99 d_45_95 (by decide) ?_
                            have hS9 : AS s0 n nn gg C f q u b h0 h E TK Q ms := ⟨hF, hA, hN, hf, hn, hs, hp0⟩
                            exact ar_iret d_45_99 rfl rfl (⟨_, rfl, Or.inl ⟨rfl, by unfold mayA; grind⟩, hS9⟩)
                    · refine ar_iconst 77 (v := 0) d_45_76 rfl (by decide) ?_
                      have hS9 : AS s0 n nn gg C f q u b h0 h E TK Q ms := ⟨hF, hA, hN, hf, hn, hs, hp0⟩
                      exact ar_iret d_45_77 rfl rfl (⟨_, rfl, Or.inr ⟨rfl, by unfold mayA; grind⟩, hS9⟩)
                · refine ar_iload_n 61 d_45_60 rfl rfl ?_
                  refine ar_iconst 62 (v := 4) d_45_61 rfl (by decide) ?_
                  refine ar_icmp_ne 78 65 d_45_62 (by decide) rfl (fun cc86 => ?_) (fun cc86 => ?_)
                  · refine ar_iload_n 79 d_45_78 rfl rfl ?_
                    refine ar_iconst 80 (v := 4) d_45_79 rfl (by decide) ?_
                    refine ar_icmp_ne 94 83 d_45_80 (by decide) rfl (fun cc87 => ?_) (fun cc87 => ?_)
                    · refine ar_iconst 95 (v := 1) d_45_94 rfl (by decide) ?_
                      refine ar_goto 99 d_45_95 (by decide) ?_
                      have hS9 : AS s0 n nn gg C f q u b h0 h E TK Q ms := ⟨hF, hA, hN, hf, hn, hs, hp0⟩
                      exact ar_iret d_45_99 rfl rfl (⟨_, rfl, Or.inl ⟨rfl, by unfold mayA; grind⟩, hS9⟩)
                    · refine ar_iload_n 84 d_45_83 rfl rfl ?_
                      refine ar_if_lt 98 87 d_45_84 (by decide) rfl (fun cc88 => ?_) (fun cc88 => ?_)
                      · refine ar_iconst 99 (v := 0) d_45_98 rfl (by decide) ?_
                        have hS9 : AS s0 n nn gg C f q u b h0 h E TK Q ms := ⟨hF, hA, hN, hf, hn, hs, hp0⟩
                        exact ar_iret d_45_99 rfl rfl (⟨_, rfl, Or.inr ⟨rfl, by unfold mayA; grind⟩, hS9⟩)
                      · refine ar_iload_n 88 d_45_87 rfl rfl ?_
                        refine ar_sipush 91 (v := 2048) d_45_88 rfl (by decide) ?_
                        refine ar_icmp_gt 98 94 d_45_91 (by decide) rfl (fun cc89 => ?_) (fun cc89 => ?_)
                        · refine ar_iconst 99 (v := 0) d_45_98 rfl (by decide) ?_
                          have hS9 : AS s0 n nn gg C f q u b h0 h E TK Q ms := ⟨hF, hA, hN, hf, hn, hs, hp0⟩
                          exact ar_iret d_45_99 rfl rfl (⟨_, rfl, Or.inr ⟨rfl, by unfold mayA; grind⟩, hS9⟩)
                        · refine ar_iconst 95 (v := 1) d_45_94 rfl (by decide) ?_
                          refine ar_goto 99 d_45_95 (by decide) ?_
                          have hS9 : AS s0 n nn gg C f q u b h0 h E TK Q ms := ⟨hF, hA, hN, hf, hn, hs, hp0⟩
                          exact ar_iret d_45_99 rfl rfl (⟨_, rfl, Or.inl ⟨rfl, by unfold mayA; grind⟩, hS9⟩)
                  · refine ar_iload_n 66 d_45_65 rfl rfl ?_
                    refine ar_if_lt 76 69 d_45_66 (by decide) rfl (fun cc90 => ?_) (fun cc90 => ?_)
                    · refine ar_iconst 77 (v := 0) d_45_76 rfl (by decide) ?_
                      have hS9 : AS s0 n nn gg C f q u b h0 h E TK Q ms := ⟨hF, hA, hN, hf, hn, hs, hp0⟩
                      exact ar_iret d_45_77 rfl rfl (⟨_, rfl, Or.inr ⟨rfl, by unfold mayA; grind⟩, hS9⟩)
                    · refine ar_iload_n 70 d_45_69 rfl rfl ?_
                      refine ar_sipush 73 (v := 8192) d_45_70 rfl (by decide) ?_
                      refine ar_icmp_le 78 76 d_45_73 (by decide) rfl (fun cc91 => ?_) (fun cc91 => ?_)
                      · refine ar_iload_n 79 d_45_78 rfl rfl ?_
                        refine ar_iconst 80 (v := 4) d_45_79 rfl (by decide) ?_
                        refine ar_icmp_ne 94 83 d_45_80 (by decide) rfl (fun cc92 => ?_) (fun cc92 => ?_)
                        · refine ar_iconst 95 (v := 1) d_45_94 rfl (by decide) ?_
                          refine ar_goto 99 d_45_95 (by decide) ?_
                          have hS9 : AS s0 n nn gg C f q u b h0 h E TK Q ms := ⟨hF, hA, hN, hf, hn, hs, hp0⟩
                          exact ar_iret d_45_99 rfl rfl (⟨_, rfl, Or.inl ⟨rfl, by unfold mayA; grind⟩, hS9⟩)
                        · refine ar_iload_n 84 d_45_83 rfl rfl ?_
                          refine ar_if_lt 98 87 d_45_84 (by decide) rfl (fun cc93 => ?_) (fun cc93 => ?_)
                          · refine ar_iconst 99 (v := 0) d_45_98 rfl (by decide) ?_
                            have hS9 : AS s0 n nn gg C f q u b h0 h E TK Q ms := ⟨hF, hA, hN, hf, hn, hs, hp0⟩
                            exact ar_iret d_45_99 rfl rfl (⟨_, rfl, Or.inr ⟨rfl, by unfold mayA; grind⟩, hS9⟩)
                          · refine ar_iload_n 88 d_45_87 rfl rfl ?_
                            refine ar_sipush 91 (v := 2048) d_45_88 rfl (by decide) ?_
                            refine ar_icmp_gt 98 94 d_45_91 (by decide) rfl (fun cc94 => ?_) (fun cc94 => ?_)
                            · refine ar_iconst 99 (v := 0) d_45_98 rfl (by decide) ?_
                              have hS9 : AS s0 n nn gg C f q u b h0 h E TK Q ms := ⟨hF, hA, hN, hf, hn, hs, hp0⟩
                              exact ar_iret d_45_99 rfl rfl (⟨_, rfl, Or.inr ⟨rfl, by unfold mayA; grind⟩, hS9⟩)
                            · refine ar_iconst 95 (v := 1) d_45_94 rfl (by decide) ?_
                              refine ar_goto 99 d_45_95 (by decide) ?_
                              have hS9 : AS s0 n nn gg C f q u b h0 h E TK Q ms := ⟨hF, hA, hN, hf, hn, hs, hp0⟩
                              exact ar_iret d_45_99 rfl rfl (⟨_, rfl, Or.inl ⟨rfl, by unfold mayA; grind⟩, hS9⟩)
                      · refine ar_iconst 77 (v := 0) d_45_76 rfl (by decide) ?_
                        have hS9 : AS s0 n nn gg C f q u b h0 h E TK Q ms := ⟨hF, hA, hN, hf, hn, hs, hp0⟩
                        exact ar_iret d_45_77 rfl rfl (⟨_, rfl, Or.inr ⟨rfl, by unfold mayA; grind⟩, hS9⟩)
            · refine ar_iconst 49 (v := 0) d_45_48 rfl (by decide) ?_
              have hS9 : AS s0 n nn gg C f q u b h0 h E TK Q ms := ⟨hF, hA, hN, hf, hn, hs, hp0⟩
              exact ar_iret d_45_49 rfl rfl (⟨_, rfl, Or.inr ⟨rfl, by unfold mayA; grind⟩, hS9⟩)
          · refine ar_iload_n 34 d_45_33 rfl rfl ?_
            refine ar_bipush 36 (v := 7) d_45_34 rfl (by decide) ?_
            refine ar_icmp_ne 50 39 d_45_36 (by decide) rfl (fun cc95 => ?_) (fun cc95 => ?_)
            · refine ar_iload_n 51 d_45_50 rfl rfl ?_
              refine ar_iconst 52 (v := 1) d_45_51 rfl (by decide) ?_
              refine ar_icmp_eq 65 55 d_45_52 (by decide) rfl (fun cc96 => ?_) (fun cc96 => ?_)
              · refine ar_iload_n 66 d_45_65 rfl rfl ?_
                refine ar_if_lt 76 69 d_45_66 (by decide) rfl (fun cc97 => ?_) (fun cc97 => ?_)
                · refine ar_iconst 77 (v := 0) d_45_76 rfl (by decide) ?_
                  have hS9 : AS s0 n nn gg C f q u b h0 h E TK Q ms := ⟨hF, hA, hN, hf, hn, hs, hp0⟩
                  exact ar_iret d_45_77 rfl rfl (⟨_, rfl, Or.inr ⟨rfl, by unfold mayA; grind⟩, hS9⟩)
                · refine ar_iload_n 70 d_45_69 rfl rfl ?_
                  refine ar_sipush 73 (v := 8192) d_45_70 rfl (by decide) ?_
                  refine ar_icmp_le 78 76 d_45_73 (by decide) rfl (fun cc98 => ?_) (fun cc98 => ?_)
                  · refine ar_iload_n 79 d_45_78 rfl rfl ?_
                    refine ar_iconst 80 (v := 4) d_45_79 rfl (by decide) ?_
                    refine ar_icmp_ne 94 83 d_45_80 (by decide) rfl (fun cc99 => ?_) (fun cc99 => ?_)
                    · refine ar_iconst 95 (v := 1) d_45_94 rfl (by decide) ?_
                      refine ar_goto 99 d_45_95 (by decide) ?_
                      have hS9 : AS s0 n nn gg C f q u b h0 h E TK Q ms := ⟨hF, hA, hN, hf, hn, hs, hp0⟩
                      exact ar_iret d_45_99 rfl rfl (⟨_, rfl, Or.inl ⟨rfl, by unfold mayA; grind⟩, hS9⟩)
                    · refine ar_iload_n 84 d_45_83 rfl rfl ?_
                      refine ar_if_lt 98 87 d_45_84 (by decide) rfl (fun cc100 => ?_) (fun cc100 => ?_)
                      · refine ar_iconst 99 (v := 0) d_45_98 rfl (by decide) ?_
                        have hS9 : AS s0 n nn gg C f q u b h0 h E TK Q ms := ⟨hF, hA, hN, hf, hn, hs, hp0⟩
                        exact ar_iret d_45_99 rfl rfl (⟨_, rfl, Or.inr ⟨rfl, by unfold mayA; grind⟩, hS9⟩)
                      · refine ar_iload_n 88 d_45_87 rfl rfl ?_
                        refine ar_sipush 91 (v := 2048) d_45_88 rfl (by decide) ?_
                        refine ar_icmp_gt 98 94 d_45_91 (by decide) rfl (fun cc101 => ?_) (fun cc101 => ?_)
                        · refine ar_iconst 99 (v := 0) d_45_98 rfl (by decide) ?_
                          have hS9 : AS s0 n nn gg C f q u b h0 h E TK Q ms := ⟨hF, hA, hN, hf, hn, hs, hp0⟩
                          exact ar_iret d_45_99 rfl rfl (⟨_, rfl, Or.inr ⟨rfl, by unfold mayA; grind⟩, hS9⟩)
                        · refine ar_iconst 95 (v := 1) d_45_94 rfl (by decide) ?_
                          refine ar_goto 99 d_45_95 (by decide) ?_
                          have hS9 : AS s0 n nn gg C f q u b h0 h E TK Q ms := ⟨hF, hA, hN, hf, hn, hs, hp0⟩
                          exact ar_iret d_45_99 rfl rfl (⟨_, rfl, Or.inl ⟨rfl, by unfold mayA; grind⟩, hS9⟩)
                  · refine ar_iconst 77 (v := 0) d_45_76 rfl (by decide) ?_
                    have hS9 : AS s0 n nn gg C f q u b h0 h E TK Q ms := ⟨hF, hA, hN, hf, hn, hs, hp0⟩
                    exact ar_iret d_45_77 rfl rfl (⟨_, rfl, Or.inr ⟨rfl, by unfold mayA; grind⟩, hS9⟩)
              · refine ar_iload_n 56 d_45_55 rfl rfl ?_
                refine ar_iconst 57 (v := 3) d_45_56 rfl (by decide) ?_
                refine ar_icmp_eq 65 60 d_45_57 (by decide) rfl (fun cc102 => ?_) (fun cc102 => ?_)
                · refine ar_iload_n 66 d_45_65 rfl rfl ?_
                  refine ar_if_lt 76 69 d_45_66 (by decide) rfl (fun cc103 => ?_) (fun cc103 => ?_)
                  · refine ar_iconst 77 (v := 0) d_45_76 rfl (by decide) ?_
                    have hS9 : AS s0 n nn gg C f q u b h0 h E TK Q ms := ⟨hF, hA, hN, hf, hn, hs, hp0⟩
                    exact ar_iret d_45_77 rfl rfl (⟨_, rfl, Or.inr ⟨rfl, by unfold mayA; grind⟩, hS9⟩)
                  · refine ar_iload_n 70 d_45_69 rfl rfl ?_
                    refine ar_sipush 73 (v := 8192) d_45_70 rfl (by decide) ?_
                    refine ar_icmp_le 78 76 d_45_73 (by decide) rfl (fun cc104 => ?_) (fun cc104 => ?_)
                    · refine ar_iload_n 79 d_45_78 rfl rfl ?_
                      refine ar_iconst 80 (v := 4) d_45_79 rfl (by decide) ?_
                      refine ar_icmp_ne 94 83 d_45_80 (by decide) rfl (fun cc105 => ?_) (fun cc105 => ?_)
                      · refine ar_iconst 95 (v := 1) d_45_94 rfl (by decide) ?_
                        refine ar_goto 99 d_45_95 (by decide) ?_
                        have hS9 : AS s0 n nn gg C f q u b h0 h E TK Q ms := ⟨hF, hA, hN, hf, hn, hs, hp0⟩
                        exact ar_iret d_45_99 rfl rfl (⟨_, rfl, Or.inl ⟨rfl, by unfold mayA; grind⟩, hS9⟩)
                      · refine ar_iload_n 84 d_45_83 rfl rfl ?_
                        refine ar_if_lt 98 87 d_45_84 (by decide) rfl (fun cc106 => ?_) (fun cc106 => ?_)
                        · refine ar_iconst 99 (v := 0) d_45_98 rfl (by decide) ?_
                          have hS9 : AS s0 n nn gg C f q u b h0 h E TK Q ms := ⟨hF, hA, hN, hf, hn, hs, hp0⟩
                          exact ar_iret d_45_99 rfl rfl (⟨_, rfl, Or.inr ⟨rfl, by unfold mayA; grind⟩, hS9⟩)
                        · refine ar_iload_n 88 d_45_87 rfl rfl ?_
                          refine ar_sipush 91 (v := 2048) d_45_88 rfl (by decide) ?_
                          refine ar_icmp_gt 98 94 d_45_91 (by decide) rfl (fun cc107 => ?_) (fun cc107 => ?_)
                          · refine ar_iconst 99 (v := 0) d_45_98 rfl (by decide) ?_
                            have hS9 : AS s0 n nn gg C f q u b h0 h E TK Q ms := ⟨hF, hA, hN, hf, hn, hs, hp0⟩
                            exact ar_iret d_45_99 rfl rfl (⟨_, rfl, Or.inr ⟨rfl, by unfold mayA; grind⟩, hS9⟩)
                          · refine ar_iconst 95 (v := 1) d_45_94 rfl (by decide) ?_
                            refine ar_goto 99 d_45_95 (by decide) ?_
                            have hS9 : AS s0 n nn gg C f q u b h0 h E TK Q ms := ⟨hF, hA, hN, hf, hn, hs, hp0⟩
                            exact ar_iret d_45_99 rfl rfl (⟨_, rfl, Or.inl ⟨rfl, by unfold mayA; grind⟩, hS9⟩)
                    · refine ar_iconst 77 (v := 0) d_45_76 rfl (by decide) ?_
                      have hS9 : AS s0 n nn gg C f q u b h0 h E TK Q ms := ⟨hF, hA, hN, hf, hn, hs, hp0⟩
                      exact ar_iret d_45_77 rfl rfl (⟨_, rfl, Or.inr ⟨rfl, by unfold mayA; grind⟩, hS9⟩)
                · refine ar_iload_n 61 d_45_60 rfl rfl ?_
                  refine ar_iconst 62 (v := 4) d_45_61 rfl (by decide) ?_
                  refine ar_icmp_ne 78 65 d_45_62 (by decide) rfl (fun cc108 => ?_) (fun cc108 => ?_)
                  · refine ar_iload_n 79 d_45_78 rfl rfl ?_
                    refine ar_iconst 80 (v := 4) d_45_79 rfl (by decide) ?_
                    refine ar_icmp_ne 94 83 d_45_80 (by decide) rfl (fun cc109 => ?_) (fun cc109 => ?_)
                    · refine ar_iconst 95 (v := 1) d_45_94 rfl (by decide) ?_
                      refine ar_goto 99 d_45_95 (by decide) ?_
                      have hS9 : AS s0 n nn gg C f q u b h0 h E TK Q ms := ⟨hF, hA, hN, hf, hn, hs, hp0⟩
                      exact ar_iret d_45_99 rfl rfl (⟨_, rfl, Or.inl ⟨rfl, by unfold mayA; grind⟩, hS9⟩)
                    · refine ar_iload_n 84 d_45_83 rfl rfl ?_
                      refine ar_if_lt 98 87 d_45_84 (by decide) rfl (fun cc110 => ?_) (fun cc110 => ?_)
                      · refine ar_iconst 99 (v := 0) d_45_98 rfl (by decide) ?_
                        have hS9 : AS s0 n nn gg C f q u b h0 h E TK Q ms := ⟨hF, hA, hN, hf, hn, hs, hp0⟩
                        exact ar_iret d_45_99 rfl rfl (⟨_, rfl, Or.inr ⟨rfl, by unfold mayA; grind⟩, hS9⟩)
                      · refine ar_iload_n 88 d_45_87 rfl rfl ?_
                        refine ar_sipush 91 (v := 2048) d_45_88 rfl (by decide) ?_
                        refine ar_icmp_gt 98 94 d_45_91 (by decide) rfl (fun cc111 => ?_) (fun cc111 => ?_)
                        · refine ar_iconst 99 (v := 0) d_45_98 rfl (by decide) ?_
                          have hS9 : AS s0 n nn gg C f q u b h0 h E TK Q ms := ⟨hF, hA, hN, hf, hn, hs, hp0⟩
                          exact ar_iret d_45_99 rfl rfl (⟨_, rfl, Or.inr ⟨rfl, by unfold mayA; grind⟩, hS9⟩)
                        · refine ar_iconst 95 (v := 1) d_45_94 rfl (by decide) ?_
                          refine ar_goto 99 d_45_95 (by decide) ?_
                          have hS9 : AS s0 n nn gg C f q u b h0 h E TK Q ms := ⟨hF, hA, hN, hf, hn, hs, hp0⟩
                          exact ar_iret d_45_99 rfl rfl (⟨_, rfl, Or.inl ⟨rfl, by unfold mayA; grind⟩, hS9⟩)
                  · refine ar_iload_n 66 d_45_65 rfl rfl ?_
                    refine ar_if_lt 76 69 d_45_66 (by decide) rfl (fun cc112 => ?_) (fun cc112 => ?_)
                    · refine ar_iconst 77 (v := 0) d_45_76 rfl (by decide) ?_
                      have hS9 : AS s0 n nn gg C f q u b h0 h E TK Q ms := ⟨hF, hA, hN, hf, hn, hs, hp0⟩
                      exact ar_iret d_45_77 rfl rfl (⟨_, rfl, Or.inr ⟨rfl, by unfold mayA; grind⟩, hS9⟩)
                    · refine ar_iload_n 70 d_45_69 rfl rfl ?_
                      refine ar_sipush 73 (v := 8192) d_45_70 rfl (by decide) ?_
                      refine ar_icmp_le 78 76 d_45_73 (by decide) rfl (fun cc113 => ?_) (fun cc113 => ?_)
                      · refine ar_iload_n 79 d_45_78 rfl rfl ?_
                        refine ar_iconst 80 (v := 4) d_45_79 rfl (by decide) ?_
                        refine ar_icmp_ne 94 83 d_45_80 (by decide) rfl (fun cc114 => ?_) (fun cc114 => ?_)
                        · refine ar_iconst 95 (v := 1) d_45_94 rfl (by decide) ?_
                          refine ar_goto 99 d_45_95 (by decide) ?_
                          have hS9 : AS s0 n nn gg C f q u b h0 h E TK Q ms := ⟨hF, hA, hN, hf, hn, hs, hp0⟩
                          exact ar_iret d_45_99 rfl rfl (⟨_, rfl, Or.inl ⟨rfl, by unfold mayA; grind⟩, hS9⟩)
                        · refine ar_iload_n 84 d_45_83 rfl rfl ?_
                          refine ar_if_lt 98 87 d_45_84 (by decide) rfl (fun cc115 => ?_) (fun cc115 => ?_)
                          · refine ar_iconst 99 (v := 0) d_45_98 rfl (by decide) ?_
                            have hS9 : AS s0 n nn gg C f q u b h0 h E TK Q ms := ⟨hF, hA, hN, hf, hn, hs, hp0⟩
                            exact ar_iret d_45_99 rfl rfl (⟨_, rfl, Or.inr ⟨rfl, by unfold mayA; grind⟩, hS9⟩)
                          · refine ar_iload_n 88 d_45_87 rfl rfl ?_
                            refine ar_sipush 91 (v := 2048) d_45_88 rfl (by decide) ?_
                            refine ar_icmp_gt 98 94 d_45_91 (by decide) rfl (fun cc116 => ?_) (fun cc116 => ?_)
                            · refine ar_iconst 99 (v := 0) d_45_98 rfl (by decide) ?_
                              have hS9 : AS s0 n nn gg C f q u b h0 h E TK Q ms := ⟨hF, hA, hN, hf, hn, hs, hp0⟩
                              exact ar_iret d_45_99 rfl rfl (⟨_, rfl, Or.inr ⟨rfl, by unfold mayA; grind⟩, hS9⟩)
                            · refine ar_iconst 95 (v := 1) d_45_94 rfl (by decide) ?_
                              refine ar_goto 99 d_45_95 (by decide) ?_
                              have hS9 : AS s0 n nn gg C f q u b h0 h E TK Q ms := ⟨hF, hA, hN, hf, hn, hs, hp0⟩
                              exact ar_iret d_45_99 rfl rfl (⟨_, rfl, Or.inl ⟨rfl, by unfold mayA; grind⟩, hS9⟩)
                      · refine ar_iconst 77 (v := 0) d_45_76 rfl (by decide) ?_
                        have hS9 : AS s0 n nn gg C f q u b h0 h E TK Q ms := ⟨hF, hA, hN, hf, hn, hs, hp0⟩
                        exact ar_iret d_45_77 rfl rfl (⟨_, rfl, Or.inr ⟨rfl, by unfold mayA; grind⟩, hS9⟩)
            · refine ar_aload_n 40 d_45_39 rfl rfl ?_
              refine ar_getf 43 d_45_40 rfl (ci := 4) (k := 5) rfl (hF.at 3 rfl) rfl ?_
              refine ar_iconst 44 (v := 1) d_45_43 rfl (by decide) ?_
              refine ar_iald 45 d_45_44 rfl (hF.at 6 rfl) (vin (i := 1) (by omega) (by omega)) ?_
              refine ar_top (x' := E 7 1) (by rw [show (1 : Int32).toNatClampNeg = 1 by decide]) ?_
              refine ar_if_ne 50 48 d_45_45 (by decide) rfl (fun cc117 => ?_) (fun cc117 => ?_)
              · refine ar_iload_n 51 d_45_50 rfl rfl ?_
                refine ar_iconst 52 (v := 1) d_45_51 rfl (by decide) ?_
                refine ar_icmp_eq 65 55 d_45_52 (by decide) rfl (fun cc118 => ?_) (fun cc118 => ?_)
                · refine ar_iload_n 66 d_45_65 rfl rfl ?_
                  refine ar_if_lt 76 69 d_45_66 (by decide) rfl (fun cc119 => ?_) (fun cc119 => ?_)
                  · refine ar_iconst 77 (v := 0) d_45_76 rfl (by decide) ?_
                    have hS9 : AS s0 n nn gg C f q u b h0 h E TK Q ms := ⟨hF, hA, hN, hf, hn, hs, hp0⟩
                    exact ar_iret d_45_77 rfl rfl (⟨_, rfl, Or.inr ⟨rfl, by unfold mayA; grind⟩, hS9⟩)
                  · refine ar_iload_n 70 d_45_69 rfl rfl ?_
                    refine ar_sipush 73 (v := 8192) d_45_70 rfl (by decide) ?_
                    refine ar_icmp_le 78 76 d_45_73 (by decide) rfl (fun cc120 => ?_) (fun cc120 => ?_)
                    · refine ar_iload_n 79 d_45_78 rfl rfl ?_
                      refine ar_iconst 80 (v := 4) d_45_79 rfl (by decide) ?_
                      refine ar_icmp_ne 94 83 d_45_80 (by decide) rfl (fun cc121 => ?_) (fun cc121 => ?_)
                      · refine ar_iconst 95 (v := 1) d_45_94 rfl (by decide) ?_
                        refine ar_goto 99 d_45_95 (by decide) ?_
                        have hS9 : AS s0 n nn gg C f q u b h0 h E TK Q ms := ⟨hF, hA, hN, hf, hn, hs, hp0⟩
                        exact ar_iret d_45_99 rfl rfl (⟨_, rfl, Or.inl ⟨rfl, by unfold mayA; grind⟩, hS9⟩)
                      · refine ar_iload_n 84 d_45_83 rfl rfl ?_
                        refine ar_if_lt 98 87 d_45_84 (by decide) rfl (fun cc122 => ?_) (fun cc122 => ?_)
                        · refine ar_iconst 99 (v := 0) d_45_98 rfl (by decide) ?_
                          have hS9 : AS s0 n nn gg C f q u b h0 h E TK Q ms := ⟨hF, hA, hN, hf, hn, hs, hp0⟩
                          exact ar_iret d_45_99 rfl rfl (⟨_, rfl, Or.inr ⟨rfl, by unfold mayA; grind⟩, hS9⟩)
                        · refine ar_iload_n 88 d_45_87 rfl rfl ?_
                          refine ar_sipush 91 (v := 2048) d_45_88 rfl (by decide) ?_
                          refine ar_icmp_gt 98 94 d_45_91 (by decide) rfl (fun cc123 => ?_) (fun cc123 => ?_)
                          · refine ar_iconst 99 (v := 0) d_45_98 rfl (by decide) ?_
                            have hS9 : AS s0 n nn gg C f q u b h0 h E TK Q ms := ⟨hF, hA, hN, hf, hn, hs, hp0⟩
                            exact ar_iret d_45_99 rfl rfl (⟨_, rfl, Or.inr ⟨rfl, by unfold mayA; grind⟩, hS9⟩)
                          · refine ar_iconst 95 (v := 1) d_45_94 rfl (by decide) ?_
                            refine ar_goto 99 d_45_95 (by decide) ?_
                            have hS9 : AS s0 n nn gg C f q u b h0 h E TK Q ms := ⟨hF, hA, hN, hf, hn, hs, hp0⟩
                            exact ar_iret d_45_99 rfl rfl (⟨_, rfl, Or.inl ⟨rfl, by unfold mayA; grind⟩, hS9⟩)
                    · refine ar_iconst 77 (v := 0) d_45_76 rfl (by decide) ?_
                      have hS9 : AS s0 n nn gg C f q u b h0 h E TK Q ms := ⟨hF, hA, hN, hf, hn, hs, hp0⟩
                      exact ar_iret d_45_77 rfl rfl (⟨_, rfl, Or.inr ⟨rfl, by unfold mayA; grind⟩, hS9⟩)
                · refine ar_iload_n 56 d_45_55 rfl rfl ?_
                  refine ar_iconst 57 (v := 3) d_45_56 rfl (by decide) ?_
                  refine ar_icmp_eq 65 60 d_45_57 (by decide) rfl (fun cc124 => ?_) (fun cc124 => ?_)
                  · refine ar_iload_n 66 d_45_65 rfl rfl ?_
                    refine ar_if_lt 76 69 d_45_66 (by decide) rfl (fun cc125 => ?_) (fun cc125 => ?_)
                    · refine ar_iconst 77 (v := 0) d_45_76 rfl (by decide) ?_
                      have hS9 : AS s0 n nn gg C f q u b h0 h E TK Q ms := ⟨hF, hA, hN, hf, hn, hs, hp0⟩
                      exact ar_iret d_45_77 rfl rfl (⟨_, rfl, Or.inr ⟨rfl, by unfold mayA; grind⟩, hS9⟩)
                    · refine ar_iload_n 70 d_45_69 rfl rfl ?_
                      refine ar_sipush 73 (v := 8192) d_45_70 rfl (by decide) ?_
                      refine ar_icmp_le 78 76 d_45_73 (by decide) rfl (fun cc126 => ?_) (fun cc126 => ?_)
                      · refine ar_iload_n 79 d_45_78 rfl rfl ?_
                        refine ar_iconst 80 (v := 4) d_45_79 rfl (by decide) ?_
                        refine ar_icmp_ne 94 83 d_45_80 (by decide) rfl (fun cc127 => ?_) (fun cc127 => ?_)
                        · refine ar_iconst 95 (v := 1) d_45_94 rfl (by decide) ?_
                          refine ar_goto 99 d_45_95 (by decide) ?_
                          have hS9 : AS s0 n nn gg C f q u b h0 h E TK Q ms := ⟨hF, hA, hN, hf, hn, hs, hp0⟩
                          exact ar_iret d_45_99 rfl rfl (⟨_, rfl, Or.inl ⟨rfl, by unfold mayA; grind⟩, hS9⟩)
                        · refine ar_iload_n 84 d_45_83 rfl rfl ?_
                          refine ar_if_lt 98 87 d_45_84 (by decide) rfl (fun cc128 => ?_) (fun cc128 => ?_)
                          · refine ar_iconst 99 (v := 0) d_45_98 rfl (by decide) ?_
                            have hS9 : AS s0 n nn gg C f q u b h0 h E TK Q ms := ⟨hF, hA, hN, hf, hn, hs, hp0⟩
                            exact ar_iret d_45_99 rfl rfl (⟨_, rfl, Or.inr ⟨rfl, by unfold mayA; grind⟩, hS9⟩)
                          · refine ar_iload_n 88 d_45_87 rfl rfl ?_
                            refine ar_sipush 91 (v := 2048) d_45_88 rfl (by decide) ?_
                            refine ar_icmp_gt 98 94 d_45_91 (by decide) rfl (fun cc129 => ?_) (fun cc129 => ?_)
                            · refine ar_iconst 99 (v := 0) d_45_98 rfl (by decide) ?_
                              have hS9 : AS s0 n nn gg C f q u b h0 h E TK Q ms := ⟨hF, hA, hN, hf, hn, hs, hp0⟩
                              exact ar_iret d_45_99 rfl rfl (⟨_, rfl, Or.inr ⟨rfl, by unfold mayA; grind⟩, hS9⟩)
                            · refine ar_iconst 95 (v := 1) d_45_94 rfl (by decide) ?_
                              refine ar_goto 99 d_45_95 (by decide) ?_
                              have hS9 : AS s0 n nn gg C f q u b h0 h E TK Q ms := ⟨hF, hA, hN, hf, hn, hs, hp0⟩
                              exact ar_iret d_45_99 rfl rfl (⟨_, rfl, Or.inl ⟨rfl, by unfold mayA; grind⟩, hS9⟩)
                      · refine ar_iconst 77 (v := 0) d_45_76 rfl (by decide) ?_
                        have hS9 : AS s0 n nn gg C f q u b h0 h E TK Q ms := ⟨hF, hA, hN, hf, hn, hs, hp0⟩
                        exact ar_iret d_45_77 rfl rfl (⟨_, rfl, Or.inr ⟨rfl, by unfold mayA; grind⟩, hS9⟩)
                  · refine ar_iload_n 61 d_45_60 rfl rfl ?_
                    refine ar_iconst 62 (v := 4) d_45_61 rfl (by decide) ?_
                    refine ar_icmp_ne 78 65 d_45_62 (by decide) rfl (fun cc130 => ?_) (fun cc130 => ?_)
                    · refine ar_iload_n 79 d_45_78 rfl rfl ?_
                      refine ar_iconst 80 (v := 4) d_45_79 rfl (by decide) ?_
                      refine ar_icmp_ne 94 83 d_45_80 (by decide) rfl (fun cc131 => ?_) (fun cc131 => ?_)
                      · refine ar_iconst 95 (v := 1) d_45_94 rfl (by decide) ?_
                        refine ar_goto 99 d_45_95 (by decide) ?_
                        have hS9 : AS s0 n nn gg C f q u b h0 h E TK Q ms := ⟨hF, hA, hN, hf, hn, hs, hp0⟩
                        exact ar_iret d_45_99 rfl rfl (⟨_, rfl, Or.inl ⟨rfl, by unfold mayA; grind⟩, hS9⟩)
                      · refine ar_iload_n 84 d_45_83 rfl rfl ?_
                        refine ar_if_lt 98 87 d_45_84 (by decide) rfl (fun cc132 => ?_) (fun cc132 => ?_)
                        · refine ar_iconst 99 (v := 0) d_45_98 rfl (by decide) ?_
                          have hS9 : AS s0 n nn gg C f q u b h0 h E TK Q ms := ⟨hF, hA, hN, hf, hn, hs, hp0⟩
                          exact ar_iret d_45_99 rfl rfl (⟨_, rfl, Or.inr ⟨rfl, by unfold mayA; grind⟩, hS9⟩)
                        · refine ar_iload_n 88 d_45_87 rfl rfl ?_
                          refine ar_sipush 91 (v := 2048) d_45_88 rfl (by decide) ?_
                          refine ar_icmp_gt 98 94 d_45_91 (by decide) rfl (fun cc133 => ?_) (fun cc133 => ?_)
                          · refine ar_iconst 99 (v := 0) d_45_98 rfl (by decide) ?_
                            have hS9 : AS s0 n nn gg C f q u b h0 h E TK Q ms := ⟨hF, hA, hN, hf, hn, hs, hp0⟩
                            exact ar_iret d_45_99 rfl rfl (⟨_, rfl, Or.inr ⟨rfl, by unfold mayA; grind⟩, hS9⟩)
                          · refine ar_iconst 95 (v := 1) d_45_94 rfl (by decide) ?_
                            refine ar_goto 99 d_45_95 (by decide) ?_
                            have hS9 : AS s0 n nn gg C f q u b h0 h E TK Q ms := ⟨hF, hA, hN, hf, hn, hs, hp0⟩
                            exact ar_iret d_45_99 rfl rfl (⟨_, rfl, Or.inl ⟨rfl, by unfold mayA; grind⟩, hS9⟩)
                    · refine ar_iload_n 66 d_45_65 rfl rfl ?_
                      refine ar_if_lt 76 69 d_45_66 (by decide) rfl (fun cc134 => ?_) (fun cc134 => ?_)
                      · refine ar_iconst 77 (v := 0) d_45_76 rfl (by decide) ?_
                        have hS9 : AS s0 n nn gg C f q u b h0 h E TK Q ms := ⟨hF, hA, hN, hf, hn, hs, hp0⟩
                        exact ar_iret d_45_77 rfl rfl (⟨_, rfl, Or.inr ⟨rfl, by unfold mayA; grind⟩, hS9⟩)
                      · refine ar_iload_n 70 d_45_69 rfl rfl ?_
                        refine ar_sipush 73 (v := 8192) d_45_70 rfl (by decide) ?_
                        refine ar_icmp_le 78 76 d_45_73 (by decide) rfl (fun cc135 => ?_) (fun cc135 => ?_)
                        · refine ar_iload_n 79 d_45_78 rfl rfl ?_
                          refine ar_iconst 80 (v := 4) d_45_79 rfl (by decide) ?_
                          refine ar_icmp_ne 94 83 d_45_80 (by decide) rfl (fun cc136 => ?_) (fun cc136 => ?_)
                          · refine ar_iconst 95 (v := 1) d_45_94 rfl (by decide) ?_
                            refine ar_goto 99 d_45_95 (by decide) ?_
                            have hS9 : AS s0 n nn gg C f q u b h0 h E TK Q ms := ⟨hF, hA, hN, hf, hn, hs, hp0⟩
                            exact ar_iret d_45_99 rfl rfl (⟨_, rfl, Or.inl ⟨rfl, by unfold mayA; grind⟩, hS9⟩)
                          · refine ar_iload_n 84 d_45_83 rfl rfl ?_
                            refine ar_if_lt 98 87 d_45_84 (by decide) rfl (fun cc137 => ?_) (fun cc137 => ?_)
                            · refine ar_iconst 99 (v := 0) d_45_98 rfl (by decide) ?_
                              have hS9 : AS s0 n nn gg C f q u b h0 h E TK Q ms := ⟨hF, hA, hN, hf, hn, hs, hp0⟩
                              exact ar_iret d_45_99 rfl rfl (⟨_, rfl, Or.inr ⟨rfl, by unfold mayA; grind⟩, hS9⟩)
                            · refine ar_iload_n 88 d_45_87 rfl rfl ?_
                              refine ar_sipush 91 (v := 2048) d_45_88 rfl (by decide) ?_
                              refine ar_icmp_gt 98 94 d_45_91 (by decide) rfl (fun cc138 => ?_) (fun cc138 => ?_)
                              · refine ar_iconst 99 (v := 0) d_45_98 rfl (by decide) ?_
                                have hS9 : AS s0 n nn gg C f q u b h0 h E TK Q ms := ⟨hF, hA, hN, hf, hn, hs, hp0⟩
                                exact ar_iret d_45_99 rfl rfl (⟨_, rfl, Or.inr ⟨rfl, by unfold mayA; grind⟩, hS9⟩)
                              · refine ar_iconst 95 (v := 1) d_45_94 rfl (by decide) ?_
                                refine ar_goto 99 d_45_95 (by decide) ?_
                                have hS9 : AS s0 n nn gg C f q u b h0 h E TK Q ms := ⟨hF, hA, hN, hf, hn, hs, hp0⟩
                                exact ar_iret d_45_99 rfl rfl (⟨_, rfl, Or.inl ⟨rfl, by unfold mayA; grind⟩, hS9⟩)
                        · refine ar_iconst 77 (v := 0) d_45_76 rfl (by decide) ?_
                          have hS9 : AS s0 n nn gg C f q u b h0 h E TK Q ms := ⟨hF, hA, hN, hf, hn, hs, hp0⟩
                          exact ar_iret d_45_77 rfl rfl (⟨_, rfl, Or.inr ⟨rfl, by unfold mayA; grind⟩, hS9⟩)
              · refine ar_iconst 49 (v := 0) d_45_48 rfl (by decide) ?_
                have hS9 : AS s0 n nn gg C f q u b h0 h E TK Q ms := ⟨hF, hA, hN, hf, hn, hs, hp0⟩
                exact ar_iret d_45_49 rfl rfl (⟨_, rfl, Or.inr ⟨rfl, by unfold mayA; grind⟩, hS9⟩)
        · refine ar_iconst 26 (v := 0) d_45_25 rfl (by decide) ?_
          have hS9 : AS s0 n nn gg C f q u b h0 h E TK Q ms := ⟨hF, hA, hN, hf, hn, hs, hp0⟩
          exact ar_iret d_45_26 rfl rfl (⟨_, rfl, Or.inr ⟨rfl, by unfold mayA; grind⟩, hS9⟩)


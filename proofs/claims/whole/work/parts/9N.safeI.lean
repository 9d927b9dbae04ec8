/-! NODES: list, give, flushAndTell, follow, store, dropAll, work for every state -/

theorem lsC_le (tf ow : Nat → Int32) : ∀ (k i c : Nat), lsC tf ow k i c ≤ c + k
  | 0, _, _ => Nat.le_refl _
  | k + 1, i, c => by
    unfold lsC
    split
    · have := lsC_le tf ow k (i + 1) c
      omega
    · have := lsC_le tf ow k (i + 1) (c + 1)
      omega
theorem ftC_le (tf sw : Nat → Int32) : ∀ (k i c : Nat), ftC tf sw k i c ≤ c + k
  | 0, _, _ => Nat.le_refl _
  | k + 1, i, c => by
    unfold ftC
    split
    · have := ftC_le tf sw k (i + 1) c
      omega
    · have := ftC_le tf sw k (i + 1) (c + 1)
      omega
theorem lsF_ag {tf ow : Nat → Int32} : ∀ (k i c : Nat) (bf bg : Nat → Int32), (∀ j, j < c → bf j = bg j) → ∀ j, j < lsC tf ow k i c → lsF tf ow k i c bf j = lsF tf ow k i c bg j
  | 0, _, _, _, _, h, j, hj => h j hj
  | k + 1, i, c, bf, bg, h, j, hj => by
    unfold lsC at hj
    unfold lsF
    split
    · next h1 =>
      rw [if_pos h1] at hj
      exact lsF_ag k (i + 1) c bf bg h j hj
    · next h1 =>
      rw [if_neg h1] at hj
      exact lsF_ag k (i + 1) (c + 1) _ _ (fun x hx => by
        by_cases e : x = c
        · rw [e, pk_us, pk_us]
        · rw [pk_un e, pk_un e]
          exact h x (by omega)) j hj
theorem ftF_ag {tf sw : Nat → Int32} : ∀ (k i c : Nat) (bf bg : Nat → Int32), (∀ j, j < c → bf j = bg j) → ∀ j, j < ftC tf sw k i c → ftF tf sw k i c bf j = ftF tf sw k i c bg j
  | 0, _, _, _, _, h, j, hj => h j hj
  | k + 1, i, c, bf, bg, h, j, hj => by
    unfold ftC at hj
    unfold ftF
    split
    · next h1 =>
      rw [if_pos h1] at hj
      exact ftF_ag k (i + 1) c bf bg h j hj
    · next h1 =>
      rw [if_neg h1] at hj
      exact ftF_ag k (i + 1) (c + 1) _ _ (fun x hx => by
        by_cases e : x = c
        · rw [e, pk_us, pk_us]
        · rw [pk_un e, pk_un e]
          exact h x (by omega)) j hj
theorem sm_cnt {u b b' : Nat → Int32} {m : Nat} (h : u 0 = 5 ∨ u 0 = 11 ∨ u 0 = 12) (h7 : u 7 = nI m) (hm : m < 2 ^ 31) (hb : ∀ j, j < m → b j = b' j) : smM (u, b) (u, b') := smM.all (by rw [rlv_cnt h, h7, nI_clamp hm]; exact Nat.le_refl _) hb
/-- Node.slotOf -/
def sloB (tf : Nat → Int32) (t : Int32) : Int32 := fst1 (fun i => decide (tf i = t)) 280 0
theorem ax_hs.merge {h h' : ax_H} {W F' rest : List (Nat × va_E)} {A : Nat → Prop} (is js : List Nat) (hF : ax_hs h W) (hf : ax_fr A h h') (hF' : ax_hs h' F') (hr : js.map (fun i => W[i]?) = rest.map some) (hnd : va_nd js = true) (hdis : js.all (fun j => !is.contains j) = true) (hi : is.map (fun i => (W[i]?).map (·.1)) = (F'.map (·.1)).map some) (hA : ∀ q ∈ rest, ¬ A q.1) : ax_hs h' (rest ++ F') := ((hF.sub js hnd hr).fr hf hA).app hF' (fun _ _ _ _ hp hq => hF.apart2 js is hdis hr hi hp hq)
def F_56 (nn gg : Nat) (C me : Int32) (f u b : Nat → Int32) (D : Nat → Nat → Int32) (K A : Int64) (Y : List Mg) (to : Int32) : St := (D, K, A, pst Y (va_up (va_up (mg 5 me to (D 0 7) (D 0 8)) 6 (D 1 4)) 7 (nI (lsC (D 6) (D 5) 280 0 0)), lsF (D 6) (D 5) 280 0 0 (fun _ => 0)))
theorem s_56 {L : Nat} {xs : Nat → Int32} {fr lo : Nat} {Z : ZT} {n nd nn gg : Nat} {C me : Int32} {f : Nat → Int32} {q : Nat} {u b : Nat → Int32} {uv : Int32} {h0 h : ax_H} {D : Nat → Nat → Int32} {K A : Int64} {Y : List Mg} {to : Int32} (hfr : 1 ≤ fr) (hlo : 40 ≤ lo) (hC : CS n nd nn gg f) (hS : NS Z n nd nn gg C me f q u b uv h0 h D K A Y) (hI : NI Z nn D) : ax_M L xs 56 fr lo [.ref nd, .int to] h (fun r h' => r = none ∧ PS Z n nd nn gg C me f q u b uv h0 h' (fun D' K' A' Y' => (D', K', A', Y') = F_56 nn gg C me f u b D K A Y to ∧ D' = D)) := by
  have hC0 := hC
  obtain ⟨hnd, hn0, hnn3, hnn, hgg1, hgg, hRg⟩ := hC
  obtain ⟨hF, ⟨ids, ms, hN, hM⟩, hf, hn, hs, hp0, hu0⟩ := hS
  replace hF : ax_hs h [cNd n nd me D, cDk nd D, cAr nd 2 35840 D, cAr nd 3 4096 D, cAr nd 4 32 D, cAr nd 5 280 D, cAr nd 6 280 D, cLd n nd me D A, cAr nd 8 16 D, cAr nd 9 280 D, cTb nd gg D K, cAr nd 11 48 D, cAr nd 12 48 D, cAr nd 13 48 D, cAr nd 14 2400 D, cAr nd 15 512 D, cAr nd 16 961 D, cAr nd 17 961 D, cWk nd D, cWa nd D, cAr nd 20 612 D, cAr nd 21 1152 D, cRk n nn gg C, cOr n nn gg f] := hF
  refine ax_A.post (c_56X hfr hlo (by unfold NTA; omega) (by unfold NTA; omega) (by unfold NTA; omega) (by unfold NTA; omega) hN (hF.sub (F' := [cNd n nd me D, cDk nd D, cAr nd 6 280 D, cAr nd 5 280 D]) [0, 1, 6, 5] rfl rfl)) (fun r h' hq => ?_)
  obtain ⟨ids', bm, rfl, q1, q2, q3, q4⟩ := hq
  have hl := lsC_le (D 6) (D 5) 280 0 0
  exact ⟨rfl, D, K, A, _, ⟨hF.fr q2 (far (n := n) (nd := nd) rfl hnd), ⟨ids', _, q1, pst_mem hM.1 (MI.cnt (Or.inl rfl) ⟨_, Nat.lt_of_le_of_lt (lsC_le _ _ 280 0 0) (by decide), rfl⟩), hM.2.pst (sm_cnt (Or.inl rfl) rfl (by omega) (lsF_ag 280 0 0 bm _ (fun j hj => absurd hj (Nat.not_lt_zero _))))⟩, hf.trC q2 (fun _ _ z => Or.inl z), by omega, by omega, hp0, hu0⟩, hI, rfl, rfl⟩
def F_58 (nn gg : Nat) (C me : Int32) (f u b : Nat → Int32) (D : Nat → Nat → Int32) (K A : Int64) (Y : List Mg) (kd t tt ask : Int32) : St :=
  if sloB (D 6) t = -1 then (D, K, A, pst Y (va_up (mg 8 me ask (D 0 7) (D 0 8)) 5 t, fun _ => 0))
  else bnN (sloB (D 6) t).toNatClampNeg (fun j =>
    if D 5 j < 0 then (D, K, A, pst Y (va_up (mg kd me tt (D 0 7) (D 0 8)) 5 t, fun x => D 2 (j * 128 + x)))
    else (D, K, A, pst Y (va_up (mg 8 me ask (D 0 7) (D 0 8)) 5 t, fun _ => 0)))
theorem s_58 {L : Nat} {xs : Nat → Int32} {fr lo : Nat} {Z : ZT} {n nd nn gg : Nat} {C me : Int32} {f : Nat → Int32} {q : Nat} {u b : Nat → Int32} {uv : Int32} {h0 h : ax_H} {D : Nat → Nat → Int32} {K A : Int64} {Y : List Mg} {kd t tt ask : Int32} (hfr : 1 ≤ fr) (hlo : 50 ≤ lo) (hC : CS n nd nn gg f) (hS : NS Z n nd nn gg C me f q u b uv h0 h D K A Y) (hI : NI Z nn D) (hkd : kd = 7 ∨ kd = 10) : ax_M L xs 58 fr lo [.ref nd, .int kd, .int t, .int tt, .int ask] h (fun r h' => r = none ∧ PS Z n nd nn gg C me f q u b uv h0 h' (fun D' K' A' Y' => (D', K', A', Y') = F_58 nn gg C me f u b D K A Y kd t tt ask ∧ D' = D)) := by
  have hC0 := hC
  obtain ⟨hnd, hn0, hnn3, hnn, hgg1, hgg, hRg⟩ := hC
  obtain ⟨hF, ⟨ids, ms, hN, hM⟩, hf, hn, hs, hp0, hu0⟩ := hS
  replace hF : ax_hs h [cNd n nd me D, cDk nd D, cAr nd 2 35840 D, cAr nd 3 4096 D, cAr nd 4 32 D, cAr nd 5 280 D, cAr nd 6 280 D, cLd n nd me D A, cAr nd 8 16 D, cAr nd 9 280 D, cTb nd gg D K, cAr nd 11 48 D, cAr nd 12 48 D, cAr nd 13 48 D, cAr nd 14 2400 D, cAr nd 15 512 D, cAr nd 16 961 D, cAr nd 17 961 D, cWk nd D, cWa nd D, cAr nd 20 612 D, cAr nd 21 1152 D, cRk n nn gg C, cOr n nn gg f] := hF
  rcases fst1_ok (P := fun i => decide (D 6 i = t)) 280 with e | ⟨j, hj, e, ht⟩
  · refine ax_A.post (c_58L hfr (by omega) (by unfold NTA; omega) (by unfold NTA; omega) (by unfold NTA; omega) (by unfold NTA; omega) (by unfold NTA; omega) (Or.inl e) hN (hF.sub (F' := [cNd n nd me D, cDk nd D, cAr nd 6 280 D, cAr nd 5 280 D, cAr nd 2 35840 D]) [0, 1, 6, 5, 2] rfl rfl)) (fun r h' hq => ?_)
    obtain ⟨ids', bm, rfl, q1, q2, q3, q4⟩ := hq
    exact ⟨rfl, D, K, A, _, ⟨hF.fr q2 (far (n := n) (nd := nd) rfl hnd), ⟨ids', _, q1, pst_mem hM.1 (MI.head (Or.inr (Or.inr (Or.inr (Or.inr (Or.inl rfl)))))), hM.2.pst (smM.head (Or.inr (Or.inr (Or.inr (Or.inr (Or.inl rfl))))))⟩, hf.trC q2 (fun _ _ z => Or.inl z), by omega, by omega, hp0, hu0⟩, hI, eq_ifT e rfl, rfl⟩
  · by_cases hw : D 5 j < 0
    · refine ax_A.post (c_58G hfr hlo (by unfold NTA; omega) (by unfold NTA; omega) (by unfold NTA; omega) (by unfold NTA; omega) (by unfold NTA; omega) hj e hw hN (hF.sub (F' := [cNd n nd me D, cDk nd D, cAr nd 6 280 D, cAr nd 5 280 D, cAr nd 2 35840 D]) [0, 1, 6, 5, 2] rfl rfl)) (fun r h' hq => ?_)
      obtain ⟨ids', bm, rfl, q1, q2, q3, q4⟩ := hq
      exact ⟨rfl, D, K, A, _, ⟨hF.fr q2 (far (n := n) (nd := nd) rfl hnd), ⟨ids', _, q1, pst_mem hM.1 (MI.item hkd (fun z => by
        have ht2 : D 6 j = t := of_decide_eq_true ht
        have z : ¬ t = -1 := z
        have h9 := hI.1.2.2.1 j hj hw (by rw [ht2]; exact z)
        refine ⟨?_, h9.2.cpy⟩
        show va_cpy (D 2) bm (j * 128) 0 128 1 = t
        rw [pk_cpy_in (by omega) (by omega), ← ht2]
        exact h9.1)), hM.2.pst (sm_cpo (Nat.le_of_eq (rlv_item hkd)))⟩, hf.trC q2 (fun _ _ z => Or.inl z), by omega, by omega, hp0, hu0⟩, hI, eq_ifF (nI_ne1 hj e) (bnN_eq (cl_eq hj e) (eq_ifT hw rfl)), rfl⟩
    · refine ax_A.post (c_58L hfr (by omega) (by unfold NTA; omega) (by unfold NTA; omega) (by unfold NTA; omega) (by unfold NTA; omega) (by unfold NTA; omega) (Or.inr ⟨j, hj, e, hw⟩) hN (hF.sub (F' := [cNd n nd me D, cDk nd D, cAr nd 6 280 D, cAr nd 5 280 D, cAr nd 2 35840 D]) [0, 1, 6, 5, 2] rfl rfl)) (fun r h' hq => ?_)
      obtain ⟨ids', bm, rfl, q1, q2, q3, q4⟩ := hq
      exact ⟨rfl, D, K, A, _, ⟨hF.fr q2 (far (n := n) (nd := nd) rfl hnd), ⟨ids', _, q1, pst_mem hM.1 (MI.head (Or.inr (Or.inr (Or.inr (Or.inr (Or.inl rfl)))))), hM.2.pst (smM.head (Or.inr (Or.inr (Or.inr (Or.inr (Or.inl rfl))))))⟩, hf.trC q2 (fun _ _ z => Or.inl z), by omega, by omega, hp0, hu0⟩, hI, eq_ifF (nI_ne1 hj e) (bnN_eq (cl_eq hj e) (eq_ifF hw rfl)), rfl⟩
def F_60 (nn gg : Nat) (C me : Int32) (f u b : Nat → Int32) (D : Nat → Nat → Int32) (K A : Int64) (Y : List Mg) : St :=
  if D 1 4 = 0 then (D, K, A, Y)
  else bnN (D 1 4).toNatClampNeg (fun c => (va_up (va_up (va_up D 1 (upd (D 1) 4 0)) 2 (flsF (D 3) (D 4) c (D 2))) 5 (flsO (D 4) c (D 5)), K, A, pst Y (va_up (mg 11 me (nof f 0 (D 0 8) nn 0 0) (D 0 7) (D 0 8)) 7 (nI (ftC (D 6) (D 4) c 0 0)), ftF (D 6) (D 4) c 0 0 (fun _ => 0))))
set_option maxRecDepth 100000 in
theorem s_60 {L : Nat} {xs : Nat → Int32} {fr lo : Nat} {Z : ZT} {n nd nn gg : Nat} {C me : Int32} {f : Nat → Int32} {q : Nat} {u b : Nat → Int32} {uv : Int32} {h0 h : ax_H} {D : Nat → Nat → Int32} {K A : Int64} {Y : List Mg}  (hfr : 2 ≤ fr) (hlo : 60 ≤ lo) (hC : CS n nd nn gg f) (hS : NS Z n nd nn gg C me f q u b uv h0 h D K A Y) (hI : NI Z nn D) (hup : ¬ uv = 0) : ax_M L xs 60 fr lo [.ref nd] h (fun r h' => r = none ∧ PS Z n nd nn gg C me f q u b uv h0 h' (fun D' K' A' Y' => (D', K', A', Y') = F_60 nn gg C me f u b D K A Y ∧ D' 6 = D 6 ∧ D' 1 4 = 0 ∧ (∀ s, s < 280 → D' 5 s < 0))) := by
  have hC0 := hC
  have hS0 := hS
  obtain ⟨hnd, hn0, hnn3, hnn, hgg1, hgg, hRg⟩ := hC
  obtain ⟨hF, ⟨ids, ms, hN, hM⟩, hf, hn, hs, hp0, hu0⟩ := hS
  replace hF : ax_hs h [cNd n nd me D, cDk nd D, cAr nd 2 35840 D, cAr nd 3 4096 D, cAr nd 4 32 D, cAr nd 5 280 D, cAr nd 6 280 D, cLd n nd me D A, cAr nd 8 16 D, cAr nd 9 280 D, cTb nd gg D K, cAr nd 11 48 D, cAr nd 12 48 D, cAr nd 13 48 D, cAr nd 14 2400 D, cAr nd 15 512 D, cAr nd 16 961 D, cAr nd 17 961 D, cWk nd D, cWa nd D, cAr nd 20 612 D, cAr nd 21 1152 D, cRk n nn gg C, cOr n nn gg f] := hF
  obtain ⟨c, hc, ec, -, -⟩ := hI.1.1
  rcases Nat.eq_zero_or_pos c with e0 | e0
  · show ax_A (ax_step L xs) ((60, 0, fr, lo), [(0, .ref nd)], [], h) _
    have ec0 : D 1 4 = 0 := by rw [ec, e0]; rfl
    have hz5 : ∀ s, s < 280 → D 5 s < 0 := fun s hs => by
      obtain ⟨c1, h1, h2, -, h4⟩ := hI.1.1
      rcases h4 s hs with e | ⟨j, hj, -⟩
      · rw [e]; decide
      · have : c1 = 0 := nI_inj (by omega) (by decide) (h2.symm.trans ec0)
        omega
    refine ar_aload_n 1 d_60_0 rfl rfl ?_
    refine ar_getf 4 d_60_1 rfl (ci := 7) (k := 3) rfl (hF.at 0 rfl) rfl ?_
    refine ar_getf 7 d_60_4 rfl (ci := 8) (k := 4) rfl (hF.at 1 rfl) rfl ?_
    refine ar_top (x' := 0) (ec0) ?_
    refine ar_if_ne 11 10 d_60_7 (by decide) rfl (fun c => absurd c (by decide)) (fun _ => ?_)
    exact ar_ret d_60_10 rfl (⟨rfl, D, K, A, Y, hS0, hI, eq_ifT ec0 rfl, rfl, ec0, hz5⟩)
  · have hD : DI Z (D 0 6) (nI c) (D 2) (D 3) (D 4) (D 5) (D 6) := by
      have e := hI.1
      rw [ec] at e
      exact e
    have hF5 : ax_hs h [(nd, .inr (7, [.int me, .ref (n + 264), .ref n, .ref (nd + 1), .ref (nd + 7), .ref (nd + 6), .int (D 0 6), .int (D 0 7), .int (D 0 8)])), (nd + 6, .inl (0, 280, .inl (D 6))), (nd + 1, .inr (8, [.ref (nd + 2), .ref (nd + 3), .ref (nd + 4), .ref (nd + 5), .int (nI c)])), (nd + 2, .inl (0, 35840, .inl (D 2))), (nd + 3, .inl (0, 4096, .inl (D 3))), (nd + 4, .inl (0, 32, .inl (D 4))), (nd + 5, .inl (0, 280, .inl (D 5))), (n + 264, .inr (3, [.int (nI nn), .int C, .int (nI gg), .ref (n + 265)])), (n + 265, .inl (0, gg * nn, .inl f))] := by
      have e := hF.sub (F' := [(nd, .inr (7, [.int me, .ref (n + 264), .ref n, .ref (nd + 1), .ref (nd + 7), .ref (nd + 6), .int (D 0 6), .int (D 0 7), .int (D 0 8)])), (nd + 6, .inl (0, 280, .inl (D 6))), (nd + 1, .inr (8, [.ref (nd + 2), .ref (nd + 3), .ref (nd + 4), .ref (nd + 5), .int (D 1 4)])), (nd + 2, .inl (0, 35840, .inl (D 2))), (nd + 3, .inl (0, 4096, .inl (D 3))), (nd + 4, .inl (0, 32, .inl (D 4))), (nd + 5, .inl (0, 280, .inl (D 5))), (n + 264, .inr (3, [.int (nI nn), .int C, .int (nI gg), .ref (n + 265)])), (n + 265, .inl (0, gg * nn, .inl f))]) [0, 6, 1, 2, 3, 4, 5, 22, 23] rfl rfl
      rw [ec] at e
      exact e
    refine ax_A.post (c_60X (gg := gg) (nn := nn) hfr hlo hgg (by omega) hnn hc e0 (hD.swr hc) (by unfold NTA; omega) (by unfold NTA; omega) (by unfold NTA; omega) (by unfold NTA; omega) (by unfold NTA; omega) (by unfold NTA; omega) (by unfold NTA; omega) (by unfold NTA; omega) (by unfold NTA; omega) hN hF5) (fun r h' hq => ?_)
    obtain ⟨ids', bm, rfl, qF, q1, q2, q3, q4⟩ := hq
    have hm := ax_hs.merge (rest := [cLd n nd me D A, cAr nd 8 16 D, cAr nd 9 280 D, cTb nd gg D K, cAr nd 11 48 D, cAr nd 12 48 D, cAr nd 13 48 D, cAr nd 14 2400 D, cAr nd 15 512 D, cAr nd 16 961 D, cAr nd 17 961 D, cWk nd D, cWa nd D, cAr nd 20 612 D, cAr nd 21 1152 D]) [0, 6, 1, 2, 3, 4, 5, 22, 23] [7, 8, 9, 10, 11, 12, 13, 14, 15, 16, 17, 18, 19, 20, 21] hF q2 qF rfl rfl rfl rfl (by
      intro q hq z
      have h1 : q.1 ∈ ([nd + 7, nd + 8, nd + 9, nd + 10, nd + 11, nd + 12, nd + 13, nd + 14, nd + 15, nd + 16, nd + 17, nd + 18, nd + 19, nd + 20, nd + 21] : List Nat) := List.mem_map_of_mem (f := fun p => p.1) hq
      simp only [List.mem_cons, List.not_mem_nil, or_false] at h1 z
      unfold NTA at z
      omega)
    have hW : ax_hs h' (NW n nd nn gg C me f (va_up (va_up (va_up D 1 (upd (D 1) 4 0)) 2 (flsF (D 3) (D 4) c (D 2))) 5 (flsO (D 4) c (D 5))) K A) := hm.sub [15, 17, 18, 19, 20, 21, 16, 0, 1, 2, 3, 4, 5, 6, 7, 8, 9, 10, 11, 12, 13, 14, 22, 23] rfl rfl
    have hDF := hD.flush hc (by rw [hu0]; exact hup)
    have hl := ftC_le (D 6) (D 4) c 0 0
    refine ⟨rfl, _, K, A, _, ⟨hW, ⟨ids', _, q1, pst_mem hM.1 (MI.cnt (Or.inr (Or.inl rfl)) ⟨_, Nat.lt_of_le_of_lt (ftC_le _ _ c 0 0) (by omega), rfl⟩), hM.2.pst (sm_cnt (Or.inr (Or.inl rfl)) rfl (by omega) (ftF_ag c 0 0 bm _ (fun j hj => absurd hj (Nat.not_lt_zero _))))⟩, hf.trC q2 (fun x _ z => ?_), by omega, by omega, hp0, hu0⟩, ⟨hDF.1, hI.2⟩, eq_ifF (by rw [ec]; exact nI_nz9 e0 (by omega)) (bnN_eq (cl_eq (show c < 33 by omega) ec) rfl), rfl, rfl, fun s hs => by rw [show (va_up (va_up (va_up D 1 (upd (D 1) 4 0)) 2 (flsF (D 3) (D 4) c (D 2))) 5 (flsO (D 4) c (D 5))) 5 s = -1 from hDF.2 s hs]; decide⟩
    rcases z with z | z
    · exact Or.inl z
    · simp only [List.mem_cons, List.not_mem_nil, or_false] at z
      exact Or.inr (by omega)
def ldB (f : Nat → Int32) (nn : Nat) (me ns : Int32) : Int32 := if nof f 0 ns nn 0 0 = me then 1 else 0
theorem c_30E {L : Nat} {xs : Nat → Int32} {fr lo : Nat} {h : ax_H} {nd rk nt dk ld tg nn gg o : Nat} {C me up ne ns : Int32} {f : Nat → Int32} (hfr : 1 ≤ fr) (hlo : 26 ≤ lo) (hgg : gg ≤ 16) (hg1 : 0 < gg) (hnn : nn ≤ 6) (hF : ax_hs h [(nd, .inr (7, [.int me, .ref rk, .ref nt, .ref dk, .ref ld, .ref tg, .int up, .int ne, .int ns])), (rk, .inr (3, [.int (nI nn), .int C, .int (nI gg), .ref o])), (o, .inl (0, gg * nn, .inl f))]) : ax_M L xs 30 fr lo [.ref nd] h (fun r h' => r = some (.int (ldB f nn me ns)) ∧ h' = h) := by
  by_cases hl : nof f 0 ns nn 0 0 = me
  · exact ax_A.post (c_30T hfr hlo hgg hg1 hnn hl hF) (fun r h' hq => ⟨by rw [hq.1, show ldB f nn me ns = 1 from if_pos hl], hq.2⟩)
  · exact ax_A.post (c_30F hfr hlo hgg hg1 hnn hl hF) (fun r h' hq => ⟨by rw [hq.1, show ldB f nn me ns = 0 from if_neg hl], hq.2⟩)
def F_29 (nn gg : Nat) (C me : Int32) (f u b : Nat → Int32) (D : Nat → Nat → Int32) (K A : Int64) (Y : List Mg) (e2 s2 : Int32) : St :=
  if (ldB f nn me s2) = 0 then
    bnS (F_33 nn gg C me f u b (va_up D 0 (upd (upd (D 0) 7 e2) 8 s2)) K A Y) (fun D4 K4 A4 Y4 =>
      (D4, K4, A4, Y4))
  else
    bnS (F_32 nn gg C me f u b (va_up D 0 (upd (upd (D 0) 7 e2) 8 s2)) K A Y e2 s2) (fun D5 K5 A5 Y5 =>
      (D5, K5, A5, Y5))
theorem s_29 {L : Nat} {xs : Nat → Int32} {fr lo : Nat} {Z : ZT} {n nd nn gg : Nat} {C me : Int32} {f : Nat → Int32} {q : Nat} {u b : Nat → Int32} {uv : Int32} {h0 h : ax_H} {D : Nat → Nat → Int32} {K A : Int64} {Y : List Mg} {e2 s2 : Int32} (hfr : 4 ≤ fr) (hlo : 120 ≤ lo) (hC : CS n nd nn gg f) (hS : NS Z n nd nn gg C me f q u b uv h0 h D K A Y) (hI : NI Z nn D) : ax_M L xs 29 fr lo [.ref nd, .int e2, .int s2] h (fun r h' => r = none ∧ PS Z n nd nn gg C me f q u b uv h0 h' (fun D' K' A' Y' => (D', K', A', Y') = F_29 nn gg C me f u b D K A Y e2 s2 ∧ True)) := by
  have hC0 := hC
  show ax_A (ax_step L xs) ((29, 0, fr, lo), [(0, .ref nd), (1, .int e2), (2, .int s2)], [], h) _
  obtain ⟨hnd, hn0, hnn3, hnn, hgg1, hgg, hRg⟩ := hC
  obtain ⟨hF, hN, hf, hn, hs, hp0, hu0⟩ := hS
  replace hF : ax_hs h [cNd n nd me D, cDk nd D, cAr nd 2 35840 D, cAr nd 3 4096 D, cAr nd 4 32 D, cAr nd 5 280 D, cAr nd 6 280 D, cLd n nd me D A, cAr nd 8 16 D, cAr nd 9 280 D, cTb nd gg D K, cAr nd 11 48 D, cAr nd 12 48 D, cAr nd 13 48 D, cAr nd 14 2400 D, cAr nd 15 512 D, cAr nd 16 961 D, cAr nd 17 961 D, cWk nd D, cWa nd D, cAr nd 20 612 D, cAr nd 21 1152 D, cRk n nn gg C, cOr n nn gg f] := hF
  refine ar_aload_n 1 d_29_0 rfl rfl ?_
  refine ar_iload_n 2 d_29_1 rfl rfl ?_
  refine ar_putf 5 [.int me, .ref (n + 264), .ref n, .ref (nd + 1), .ref (nd + 7), .ref (nd + 6), .int (D 0 6), .int e2, .int (D 0 8)] d_29_2 rfl (ci := 7) (k := 7) rfl rfl (hF.at 0 rfl) (Nat.le_of_ble_eq_true rfl) rfl rfl rfl ?_
  replace hF : ax_hs (ax_put h nd (.inr (7, [.int me, .ref (n + 264), .ref n, .ref (nd + 1), .ref (nd + 7), .ref (nd + 6), .int (D 0 6), .int e2, .int (D 0 8)]))) [(nd, .inr (7, [.int me, .ref (n + 264), .ref n, .ref (nd + 1), .ref (nd + 7), .ref (nd + 6), .int (D 0 6), .int e2, .int (D 0 8)])), cDk nd D, cAr nd 2 35840 D, cAr nd 3 4096 D, cAr nd 4 32 D, cAr nd 5 280 D, cAr nd 6 280 D, cLd n nd me D A, cAr nd 8 16 D, cAr nd 9 280 D, cTb nd gg D K, cAr nd 11 48 D, cAr nd 12 48 D, cAr nd 13 48 D, cAr nd 14 2400 D, cAr nd 15 512 D, cAr nd 16 961 D, cAr nd 17 961 D, cWk nd D, cWa nd D, cAr nd 20 612 D, cAr nd 21 1152 D, cRk n nn gg C, cOr n nn gg f] := hF.put 0 _ rfl rfl
  replace hf := hf.put (a := nd) (c := .inr (7, [.int me, .ref (n + 264), .ref n, .ref (nd + 1), .ref (nd + 7), .ref (nd + 6), .int (D 0 6), .int e2, .int (D 0 8)])) (Or.inr (by omega))
  replace hN := hN.put (a := nd) (c := .inr (7, [.int me, .ref (n + 264), .ref n, .ref (nd + 1), .ref (nd + 7), .ref (nd + 6), .int (D 0 6), .int e2, .int (D 0 8)])) (by omega)
  replace hn : (ax_put h nd (.inr (7, [.int me, .ref (n + 264), .ref n, .ref (nd + 1), .ref (nd + 7), .ref (nd + 6), .int (D 0 6), .int e2, .int (D 0 8)]))).1 = h0.1 := hn
  replace hs : (ax_put h nd (.inr (7, [.int me, .ref (n + 264), .ref n, .ref (nd + 1), .ref (nd + 7), .ref (nd + 6), .int (D 0 6), .int e2, .int (D 0 8)]))).2.1 = h0.2.1 := hs
  generalize ax_put h nd (.inr (7, [.int me, .ref (n + 264), .ref n, .ref (nd + 1), .ref (nd + 7), .ref (nd + 6), .int (D 0 6), .int e2, .int (D 0 8)])) = hp_1 at hF hf hN hn hs ⊢
  refine ar_aload_n 6 d_29_5 rfl rfl ?_
  refine ar_iload_n 7 d_29_6 rfl rfl ?_
  refine ar_putf 10 [.int me, .ref (n + 264), .ref n, .ref (nd + 1), .ref (nd + 7), .ref (nd + 6), .int (D 0 6), .int e2, .int s2] d_29_7 rfl (ci := 7) (k := 8) rfl rfl (hF.at 0 rfl) (Nat.le_of_ble_eq_true rfl) rfl rfl rfl ?_
  replace hF : ax_hs (ax_put hp_1 nd (.inr (7, [.int me, .ref (n + 264), .ref n, .ref (nd + 1), .ref (nd + 7), .ref (nd + 6), .int (D 0 6), .int e2, .int s2]))) [(nd, .inr (7, [.int me, .ref (n + 264), .ref n, .ref (nd + 1), .ref (nd + 7), .ref (nd + 6), .int (D 0 6), .int e2, .int s2])), cDk nd D, cAr nd 2 35840 D, cAr nd 3 4096 D, cAr nd 4 32 D, cAr nd 5 280 D, cAr nd 6 280 D, cLd n nd me D A, cAr nd 8 16 D, cAr nd 9 280 D, cTb nd gg D K, cAr nd 11 48 D, cAr nd 12 48 D, cAr nd 13 48 D, cAr nd 14 2400 D, cAr nd 15 512 D, cAr nd 16 961 D, cAr nd 17 961 D, cWk nd D, cWa nd D, cAr nd 20 612 D, cAr nd 21 1152 D, cRk n nn gg C, cOr n nn gg f] := hF.put 0 _ rfl rfl
  replace hf := hf.put (a := nd) (c := .inr (7, [.int me, .ref (n + 264), .ref n, .ref (nd + 1), .ref (nd + 7), .ref (nd + 6), .int (D 0 6), .int e2, .int s2])) (Or.inr (by omega))
  replace hN := hN.put (a := nd) (c := .inr (7, [.int me, .ref (n + 264), .ref n, .ref (nd + 1), .ref (nd + 7), .ref (nd + 6), .int (D 0 6), .int e2, .int s2])) (by omega)
  replace hn : (ax_put hp_1 nd (.inr (7, [.int me, .ref (n + 264), .ref n, .ref (nd + 1), .ref (nd + 7), .ref (nd + 6), .int (D 0 6), .int e2, .int s2]))).1 = h0.1 := hn
  replace hs : (ax_put hp_1 nd (.inr (7, [.int me, .ref (n + 264), .ref n, .ref (nd + 1), .ref (nd + 7), .ref (nd + 6), .int (D 0 6), .int e2, .int s2]))).2.1 = h0.2.1 := hs
  generalize ax_put hp_1 nd (.inr (7, [.int me, .ref (n + 264), .ref n, .ref (nd + 1), .ref (nd + 7), .ref (nd + 6), .int (D 0 6), .int e2, .int s2])) = hp_2 at hF hf hN hn hs ⊢
  refine ar_aload_n 11 d_29_10 rfl rfl ?_
  refine ar_call (r := []) (na := 0) (kd := 0) (cm := 30) (fr2 := fr - 1) (lo2 := lo - 20) 14 d_29_11 (ar_hoV (as := []) rfl rfl rfl (hF.at 0 rfl)) rfl (by omega) (show lo - 20 + (19 + 1) = lo by omega) (Nat.le_of_ble_eq_true rfl) (Nat.le_of_ble_eq_true rfl) (c_30E (by omega) (by omega) hgg (by omega) hnn (hF.sub (F' := [(nd, .inr (7, [.int me, .ref (n + 264), .ref n, .ref (nd + 1), .ref (nd + 7), .ref (nd + 6), .int (D 0 6), .int e2, .int s2])), cRk n nn gg C, cOr n nn gg f]) [0, 22, 23] rfl rfl)) ?_
  intro v hh hq
  obtain ⟨rfl, ehh⟩ := hq
  rw [ehh]
  clear ehh
  refine ar_if_eq 35 17 d_29_14 (by decide) rfl (fun cc3 => ?_) (fun cc3 => ?_)
  · refine ar_aload_n 36 d_29_35 rfl rfl ?_
    refine ar_getf 39 d_29_36 rfl (ci := 7) (k := 4) rfl (hF.at 0 rfl) rfl ?_
    have hS1 : NS Z n nd nn gg C me f q u b uv h0 hp_2 (va_up D 0 (upd (upd (D 0) 7 e2) 8 s2)) K A Y := ⟨hF, hN, hf, hn, hs, hp0, hu0⟩
    have hI1 : NI Z nn (va_up D 0 (upd (upd (D 0) 7 e2) 8 s2)) := hI
    refine ar_call (r := []) (na := 0) (kd := 0) (cm := 33) (fr2 := fr - 1) (lo2 := lo - 20) 42 d_29_39 (ar_hoV (as := []) rfl rfl rfl (hF.at 7 rfl)) rfl (by omega) (show lo - 20 + (19 + 1) = lo by omega) (Nat.le_of_ble_eq_true rfl) (Nat.le_of_ble_eq_true rfl) (s_33 (by omega) (by omega) hC0 hS1 hI1) ?_
    intro v hp_4 hq
    obtain ⟨rfl, D4, K4, A4, Y4, hS2, hI2, hE4, -⟩ := hq
    clear hS1 hI1 hF hN hf hn hs hp0 hu0
    obtain ⟨hF, hN, hf, hn, hs, hp0, hu0⟩ := hS2
    replace hF : ax_hs hp_4 [cNd n nd me D4, cDk nd D4, cAr nd 2 35840 D4, cAr nd 3 4096 D4, cAr nd 4 32 D4, cAr nd 5 280 D4, cAr nd 6 280 D4, cLd n nd me D4 A4, cAr nd 8 16 D4, cAr nd 9 280 D4, cTb nd gg D4 K4, cAr nd 11 48 D4, cAr nd 12 48 D4, cAr nd 13 48 D4, cAr nd 14 2400 D4, cAr nd 15 512 D4, cAr nd 16 961 D4, cAr nd 17 961 D4, cWk nd D4, cWa nd D4, cAr nd 20 612 D4, cAr nd 21 1152 D4, cRk n nn gg C, cOr n nn gg f] := hF
    have hI4 := hI2
    clear hI2
    have hS9 : NS Z n nd nn gg C me f q u b uv h0 hp_4 D4 K4 A4 Y4 := ⟨hF, hN, hf, hn, hs, hp0, hu0⟩
    have hI9 : NI Z nn D4 := hI4
    exact ar_ret d_29_42 rfl (⟨rfl, _, _, _, _, hS9, hI9, eq_ifT cc3 (bnS_eq hE4 (rfl)), trivial⟩)
  · refine ar_aload_n 18 d_29_17 rfl rfl ?_
    refine ar_getf 21 d_29_18 rfl (ci := 7) (k := 4) rfl (hF.at 0 rfl) rfl ?_
    refine ar_aload_n 22 d_29_21 rfl rfl ?_
    refine ar_getf 25 d_29_22 rfl (ci := 7) (k := 7) rfl (hF.at 0 rfl) rfl ?_
    refine ar_aload_n 26 d_29_25 rfl rfl ?_
    refine ar_getf 29 d_29_26 rfl (ci := 7) (k := 8) rfl (hF.at 0 rfl) rfl ?_
    have hS1 : NS Z n nd nn gg C me f q u b uv h0 hp_2 (va_up D 0 (upd (upd (D 0) 7 e2) 8 s2)) K A Y := ⟨hF, hN, hf, hn, hs, hp0, hu0⟩
    have hI1 : NI Z nn (va_up D 0 (upd (upd (D 0) 7 e2) 8 s2)) := hI
    refine ar_call (r := []) (na := 0) (kd := 0) (cm := 32) (fr2 := fr - 1) (lo2 := lo - 23) 32 d_29_29 (ar_hoV (as := [.int e2, .int s2]) rfl rfl rfl (hF.at 7 rfl)) rfl (by omega) (show lo - 23 + (19 + 4) = lo by omega) (Nat.le_of_ble_eq_true rfl) (Nat.le_of_ble_eq_true rfl) (s_32 (by omega) (by omega) hC0 hS1 hI1) ?_
    intro v hp_5 hq
    obtain ⟨rfl, D5, K5, A5, Y5, hS2, hI2, hE5, -⟩ := hq
    clear hS1 hI1 hF hN hf hn hs hp0 hu0
    obtain ⟨hF, hN, hf, hn, hs, hp0, hu0⟩ := hS2
    replace hF : ax_hs hp_5 [cNd n nd me D5, cDk nd D5, cAr nd 2 35840 D5, cAr nd 3 4096 D5, cAr nd 4 32 D5, cAr nd 5 280 D5, cAr nd 6 280 D5, cLd n nd me D5 A5, cAr nd 8 16 D5, cAr nd 9 280 D5, cTb nd gg D5 K5, cAr nd 11 48 D5, cAr nd 12 48 D5, cAr nd 13 48 D5, cAr nd 14 2400 D5, cAr nd 15 512 D5, cAr nd 16 961 D5, cAr nd 17 961 D5, cWk nd D5, cWa nd D5, cAr nd 20 612 D5, cAr nd 21 1152 D5, cRk n nn gg C, cOr n nn gg f] := hF
    have hI5 := hI2
    clear hI2
    refine ar_goto 42 d_29_32 (by decide) ?_
    have hS9 : NS Z n nd nn gg C me f q u b uv h0 hp_5 D5 K5 A5 Y5 := ⟨hF, hN, hf, hn, hs, hp0, hu0⟩
    have hI9 : NI Z nn D5 := hI5
    exact ar_ret d_29_42 rfl (⟨rfl, _, _, _, _, hS9, hI9, eq_ifF cc3 (bnS_eq hE5 (rfl)), trivial⟩)

/-! settle of the quiet store: one MESSAGE is handed over -/
theorem QN.ad {nd rk nt : Nat} {G num up ne ns ep st hd cl ni tu md : Int32} {fm : Nat → Int32} : (QN nd rk nt G num up ne ns ep st hd cl ni tu md fm).map (·.1) = (List.range 22).map (nd + ·) := rfl
theorem QN.mk {h : ax_H} {nd rk nt : Nat} {G num up ne ns ep st hd cl ni tu md : Int32} {fm : Nat → Int32} (g0 : ax_g h (nd) = some (.inr (7, [.int num, .ref rk, .ref nt, .ref (nd + 1), .ref (nd + 7), .ref (nd + 6), .int up, .int ne, .int ns]))) (g1 : ax_g h (nd + 1) = some (.inr (8, [.ref (nd + 2), .ref (nd + 3), .ref (nd + 4), .ref (nd + 5), .int 0]))) (g2 : ax_g h (nd + 2) = some (.inl (0, 35840, .inl (fun _ => 0)))) (g3 : ax_g h (nd + 3) = some (.inl (0, 4096, .inl (fun _ => 0)))) (g4 : ax_g h (nd + 4) = some (.inl (0, 32, .inl (fun _ => 0)))) (g5 : ax_g h (nd + 5) = some (.inl (0, 280, .inl (ax_fill (fun _ => 0) 0 280 (-1))))) (g6 : ax_g h (nd + 6) = some (.inl (0, 280, .inl (ax_fill (fun _ => 0) 0 280 (-1))))) (g7 : ax_g h (nd + 7) = some (.inr (9, [.int num, .ref rk, .ref nt, .ref (nd + 10), .ref (nd + 18), .ref (nd + 8), .ref (nd + 9), .int ep, .int st, .int hd, .int cl, .long 0, .int ni, .int tu, .int md]))) (g8 : ax_g h (nd + 8) = some (.inl (0, 16, .inl fm))) (g9 : ax_g h (nd + 9) = some (.inl (0, 280, .inl (fun _ => 0)))) (g10 : ax_g h (nd + 10) = some (.inr (6, [.int G, .ref (nd + 11), .ref (nd + 12), .ref (nd + 13), .ref (nd + 14), .ref (nd + 15), .ref (nd + 16), .ref (nd + 17), .long 0, .int 0, .int 0]))) (g11 : ax_g h (nd + 11) = some (.inl (0, 48, .inl (ax_fill (fun _ => 0) 0 48 (-1))))) (g12 : ax_g h (nd + 12) = some (.inl (0, 48, .inl (ax_fill (fun _ => 0) 0 48 0)))) (g13 : ax_g h (nd + 13) = some (.inl (0, 48, .inl (fun _ => 0)))) (g14 : ax_g h (nd + 14) = some (.inl (0, 2400, .inl (fun _ => 0)))) (g15 : ax_g h (nd + 15) = some (.inl (0, 512, .inl (ax_fill (fun _ => 0) 0 512 (-1))))) (g16 : ax_g h (nd + 16) = some (.inl (0, 961, .inl (ax_fill (fun _ => 0) 0 961 (-1))))) (g17 : ax_g h (nd + 17) = some (.inl (0, 961, .inl (ax_fill (fun _ => 0) 0 961 0)))) (g18 : ax_g h (nd + 18) = some (.inr (10, [.ref (nd + 10), .ref (nd + 19), .ref (nd + 21), .int 0, .int (-1), .int 0, .int 0, .int 0, .int 0, .int 0, .int 0, .int 0, .int 0, .int 0, .int 0]))) (g19 : ax_g h (nd + 19) = some (.inr (5, [.int 0, .int 0, .int 0, .int 0, .int 0, .int 0, .int 0, .ref (nd + 20)]))) (g20 : ax_g h (nd + 20) = some (.inl (0, 612, .inl (fun _ => 0)))) (g21 : ax_g h (nd + 21) = some (.inl (0, 1152, .inl (fun _ => 0)))) : ax_hs h (QN nd rk nt G num up ne ns ep st hd cl ni tu md fm) := by
  have key : ∀ (i : Nat) (p : Nat × va_E), (QN nd rk nt G num up ne ns ep st hd cl ni tu md fm)[i]? = some p → p.1 = nd + i := by
    intro i p hp
    have h1 : ((QN nd rk nt G num up ne ns ep st hd cl ni tu md fm).map (·.1))[i]? = some p.1 := by rw [List.getElem?_map, hp]; rfl
    rw [QN.ad, List.getElem?_map] at h1
    obtain ⟨k, h2, h3⟩ := Option.map_eq_some_iff.mp h1
    obtain ⟨h4, h5⟩ := List.getElem?_eq_some_iff.mp h2
    rw [List.getElem_range] at h5
    subst h5
    exact h3.symm
  refine ⟨fun i j p q hp hq e => ?_, fun k q hq => ?_⟩
  · have h1 := key i p hp
    have h2 := key j q hq
    omega
  · have hm := List.mem_of_getElem? hq
    simp only [QN, List.mem_cons, List.not_mem_nil, or_false] at hm
    rcases hm with rfl | rfl | rfl | rfl | rfl | rfl | rfl | rfl | rfl | rfl | rfl | rfl | rfl | rfl | rfl | rfl | rfl | rfl | rfl | rfl | rfl | rfl
    · exact g0
    · exact g1
    · exact g2
    · exact g3
    · exact g4
    · exact g5
    · exact g6
    · exact g7
    · exact g8
    · exact g9
    · exact g10
    · exact g11
    · exact g12
    · exact g13
    · exact g14
    · exact g15
    · exact g16
    · exact g17
    · exact g18
    · exact g19
    · exact g20
    · exact g21
theorem ffx {h : ax_H} {a N : Nat} {f : Nat → Int32} {v v2 : Int32} (g : ax_g h a = some (.inl (0, N, .inl (ax_fill (ax_fill f 0 N v) 0 N v2)))) : ax_g h a = some (.inl (0, N, .inl (ax_fill f 0 N v2))) := by
  rw [ax_fill_fill] at g
  exact g
/-- not a cell of the store's own table -/
def TBN (n x : Nat) : Prop := ¬ (n + 320 ≤ x ∧ x < n + 328)
theorem JA_nt {n j x : Nat} (h : JA n j x) : TBN n x := by
  unfold TBN
  rcases h with h | h
  · unfold NTA at h
    omega
  · omega
def SD (h : ax_H) (n nn gg p j ej kc : Nat) : Prop := (ej = 1 ∨ ej = 2) ∧ ∃ ep st hd cl ni tu md fm, ax_hs h (QN (n + 329 + 22 * j) (n + 264) n (nI gg) (nI j) 1 (nI ej) (allN nn) ep st hd cl ni tu md fm) ∧ (j = p → cl = nI kc)
def SQ (h : ax_H) (s0 n nn gg cc p : Nat) (f : Nat → Int32) (e : Nat → Nat) (km kc : Nat) (ids : List Nat) (ms : List Mg) (q : Nat) (u b : Nat → Int32) : Prop :=
  (3 ≤ nn ∧ nn ≤ 6 ∧ 1 ≤ gg ∧ gg ≤ 16 ∧ p < nn ∧ s0 < n) ∧ nof f 0 (allN nn) nn 0 0 = nI p ∧ (∃ c, ax_hs h (W0 s0 n nn gg cc f c 2 (nI km))) ∧ NTL h n (n + 1) ids ms q u b ∧ ∀ j, j < nn → SD h n nn gg p j (e j) kc
theorem SQ.upd {h h' : ax_H} {s0 n nn gg cc p q j km kc kc' : Nat} {f u b : Nat → Int32} {e : Nat → Nat} {v : Nat} {ids ids' : List Nat} {ms ms' : List Mg} (hQ : SQ h s0 n nn gg cc p f e km kc ids ms q u b) (hf : ax_fr (JA n j) h h') (hN : NTL h' n (n + 1) ids' ms' q u b) (hD : SD h' n nn gg p j v kc') (hkc : j ≠ p → kc' = kc) : SQ h' s0 n nn gg cc p f (va_up e j v) km kc' ids' ms' q u b := by
  obtain ⟨hb, hp, ⟨c, hW⟩, hN0, hD0⟩ := hQ
  refine ⟨hb, hp, ⟨c, hW.fr hf (fun z hz hA => ?_)⟩, hN, fun k hk => ?_⟩
  · have := W0.lt hb.2.2.2.2.2 z hz
    rcases hA with hA | hA
    · unfold NTA at hA
      omega
    · omega
  · by_cases ek : k = j
    · subst ek
      rw [va_up_s]
      exact hD
    · rw [va_up_n _ _ ek]
      obtain ⟨h0, ep, st, hd, cl, ni, tu, md, fm, h1, h2⟩ := hD0 k hk
      refine ⟨h0, ep, st, hd, cl, ni, tu, md, fm, h1.fr hf (fun z hz hA => ?_), fun ekp => ?_⟩
      · have := QN.lt z hz
        rcases hA with hA | hA
        · unfold NTA at hA
          omega
        · omega
      · rw [h2 ekp, hkc (fun z => ek (ekp.trans z.symm))]
theorem va_up_id {e : Nat → Nat} {j : Nat} : va_up e j (e j) = e := by
  funext k
  by_cases ek : k = j
  · subst ek
    rw [va_up_s]
  · rw [va_up_n _ _ ek]
theorem s_52o {L : Nat} {xs : Nat → Int32} {fr lo s0 n nn gg cc p q km kc : Nat} {h : ax_H} {f u b : Nat → Int32} {e : Nat → Nat} {ids : List Nat} {ms : List Mg} {j t : Nat} (hfr : 6 ≤ fr) (hlo : 230 ≤ lo) (hQ : SQ h s0 n nn gg cc p f e km kc ids ms q u b) (hI : Iv p nn (e p) km kc (u :: ms.map (·.1))) (hl : ids.length + nn + 1 < 128) (hj : j < nn) (h2 : u 2 = nI j) (hx : iL p nn 1 t u ∨ iD p 1 t u) (he : e j = 2) : ax_M L xs 52 fr lo [.ref s0, .ref (n + 1 + 1 + 2 * q)] h (fun r h' => r = none ∧ ∃ e' km' kc' ids' ms', SQ h' s0 n nn gg cc p f e' km' kc' ids' ms' q u b ∧ Iv p nn (e' p) km' kc' (ms'.map (·.1)) ∧ mea nn (e' p) (ms'.map (·.1)) < mea nn (e p) (u :: ms.map (·.1)) ∧ SZ (n + 329 + 22 * nn) h h' ∧ ax_fr (TBN n) h h') := by
  obtain ⟨hb, hp, ⟨c, hW⟩, hN, hD⟩ := id hQ
  have hmr := hN.read
  obtain ⟨hej, ep, st, hd, cl, ni, tu, md, fm, hq, hcl⟩ := hD j hj
  have h3 : u 3 < nI (e j) := by
    have k3 : u 3 = nI 1 := hx.elim (fun z => z.2.2.2.1) (fun z => z.2.2.2.1)
    rw [k3, he]
    decide
  have hF1 := (hq.sub (F' := [(n + 329 + 22 * j, .inr (7, [.int (nI j), .ref (n + 264), .ref n, .ref (n + 329 + 22 * j + 1), .ref (n + 329 + 22 * j + 7), .ref (n + 329 + 22 * j + 6), .int 1, .int (nI (e j)), .int (allN nn)]))]) [0] rfl rfl).app (ax_hs1 hmr.1.1) (fun i k x y hx hy e => by
    have h1 := List.mem_of_getElem? hx
    have h2 := List.mem_of_getElem? hy
    have h3 := hmr.2
    simp only [List.mem_cons, List.not_mem_nil, or_false] at h1 h2
    subst h1
    subst h2
    dsimp only at e
    omega)
  refine d_52n (Q := (fun r h' => r = none ∧ ∃ e' km' kc' ids' ms', SQ h' s0 n nn gg cc p f e' km' kc' ids' ms' q u b ∧ Iv p nn (e' p) km' kc' (ms'.map (·.1)) ∧ mea nn (e' p) (ms'.map (·.1)) < mea nn (e p) (u :: ms.map (·.1)) ∧ SZ (n + 329 + 22 * nn) h h' ∧ ax_fr (TBN n) h h')) (by omega) (by omega) (by omega) hj h2 hW (hq.at 0 rfl) hmr.1.1 (ax_A.post (c_55o h3 hF1) ?_) (fun v h' z => z.1)
  intro r h' hz
  obtain ⟨rfl, rfl⟩ := hz
  obtain ⟨k1, k2⟩ := st_O hI hx
  exact ⟨rfl, e, km, kc, ids, ms, hQ, k1, k2, SZ.rf, ax_fr.rf⟩
theorem s_52l {L : Nat} {xs : Nat → Int32} {fr lo s0 n nn gg cc p q km kc : Nat} {h : ax_H} {f u b : Nat → Int32} {e : Nat → Nat} {ids : List Nat} {ms : List Mg} {j t : Nat} (hfr : 6 ≤ fr) (hlo : 230 ≤ lo) (hQ : SQ h s0 n nn gg cc p f e km kc ids ms q u b) (hI : Iv p nn (e p) km kc (u :: ms.map (·.1))) (hl : ids.length + nn + 1 < 128) (hj : j < nn) (ht : t = 1 ∨ t = 2) (ht2 : t = 2 → e p = 2) (hx : iL p nn t j u) (he : e j = t) : ax_M L xs 52 fr lo [.ref s0, .ref (n + 1 + 1 + 2 * q)] h (fun r h' => r = none ∧ ∃ e' km' kc' ids' ms', SQ h' s0 n nn gg cc p f e' km' kc' ids' ms' q u b ∧ Iv p nn (e' p) km' kc' (ms'.map (·.1)) ∧ mea nn (e' p) (ms'.map (·.1)) < mea nn (e p) (u :: ms.map (·.1)) ∧ SZ (n + 329 + 22 * nn) h h' ∧ ax_fr (TBN n) h h') := by
  obtain ⟨hb, hp, ⟨c, hW⟩, hN, hD⟩ := id hQ
  have hmr := hN.read
  obtain ⟨hej, ep, st, hd, cl, ni, tu, md, fm, hq, hcl⟩ := hD j hj
  have h2 : u 2 = nI j := hx.2.2.1
  refine d_52n (Q := (fun r h' => r = none ∧ ∃ e' km' kc' ids' ms', SQ h' s0 n nn gg cc p f e' km' kc' ids' ms' q u b ∧ Iv p nn (e' p) km' kc' (ms'.map (·.1)) ∧ mea nn (e' p) (ms'.map (·.1)) < mea nn (e p) (u :: ms.map (·.1)) ∧ SZ (n + 329 + 22 * nn) h h' ∧ ax_fr (TBN n) h h')) (by omega) (by omega) (by omega) hj h2 hW (hq.at 0 rfl) hmr.1.1 (ax_A.post (c_55l (by omega) (by omega) (by unfold NTA; omega) (by unfold NTA; omega) (by unfold NTA; omega) tagsN (by rw [he]; exact hx.2.2.2.1) hx.1 hN (hq.sub [0, 1, 6] rfl rfl)) ?_) (fun v h' z => z.1)
  intro r h' hz
  obtain ⟨ids2, bm, rfl, hN2, hf2, hz1, hz2⟩ := hz
  have epst : pst ms (mg 5 (nI j) (u 1) (nI (e j)) (allN nn), bm) = ms ++ [(mg 5 (nI j) (u 1) (nI (e j)) (allN nn), bm)] := if_pos (by have := hN.len.1; omega)
  rw [epst] at hN2
  have hfJ : ax_fr (JA n j) h h' := hf2.mono (fun x hx => Or.inl hx)
  have hy : iD p t j (mg 5 (nI j) (u 1) (nI (e j)) (allN nn)) := ⟨rfl, rfl, hx.2.1, by rw [he]; rfl, rfl, rfl⟩
  obtain ⟨k1, k2⟩ := st_L (by omega) hj ht ht2 hI hx hy
  have hS := hQ.upd (v := e j) (kc' := kc) hfJ hN2 ⟨hej, ep, st, hd, cl, ni, tu, md, fm, hq.fr hf2 (fun z hz hA => by have := QN.lt z hz; unfold NTA at hA; omega), hcl⟩ (fun _ => rfl)
  rw [va_up_id] at hS
  exact ⟨rfl, e, km, kc, ids2, _, hS, by rw [List.map_append]; exact k1, by rw [List.map_append]; exact k2, ⟨hz1, hz2, hfJ.mono (fun x hx => JA_lt hj hx)⟩, hfJ.mono (fun x hx => JA_nt hx)⟩
theorem s_52m {L : Nat} {xs : Nat → Int32} {fr lo s0 n nn gg cc p q km kc : Nat} {h : ax_H} {f u b : Nat → Int32} {e : Nat → Nat} {ids : List Nat} {ms : List Mg} {j : Nat} (hfr : 6 ≤ fr) (hlo : 230 ≤ lo) (hQ : SQ h s0 n nn gg cc p f e km kc ids ms q u b) (hI : Iv p nn (e p) km kc (u :: ms.map (·.1))) (hl : ids.length + nn + 1 < 128) (hj : j < nn) (hx : iM nn j u) (he : e j = 2) : ax_M L xs 52 fr lo [.ref s0, .ref (n + 1 + 1 + 2 * q)] h (fun r h' => r = none ∧ ∃ e' km' kc' ids' ms', SQ h' s0 n nn gg cc p f e' km' kc' ids' ms' q u b ∧ Iv p nn (e' p) km' kc' (ms'.map (·.1)) ∧ mea nn (e' p) (ms'.map (·.1)) < mea nn (e p) (u :: ms.map (·.1)) ∧ SZ (n + 329 + 22 * nn) h h' ∧ ax_fr (TBN n) h h') := by
  obtain ⟨hb, hp, ⟨c, hW⟩, hN, hD⟩ := id hQ
  have hmr := hN.read
  obtain ⟨hej, ep, st, hd, cl, ni, tu, md, fm, hq, hcl⟩ := hD j hj
  have h2 : u 2 = nI j := hx.2.1
  have hF1 := (hq.sub (F' := [(n + 329 + 22 * j, .inr (7, [.int (nI j), .ref (n + 264), .ref n, .ref (n + 329 + 22 * j + 1), .ref (n + 329 + 22 * j + 7), .ref (n + 329 + 22 * j + 6), .int 1, .int (nI (e j)), .int (allN nn)]))]) [0] rfl rfl).app (hW.sub (F' := [(n + 264, .inr (3, [.int (nI nn), .int (nI cc), .int (nI gg), .ref (n + 265)]))]) [1] rfl rfl) (fun i k x y hx hy e => by
    have h1 := List.mem_of_getElem? hx
    have h2 := List.mem_of_getElem? hy
    simp only [List.mem_cons, List.not_mem_nil, or_false] at h1 h2
    rcases h1 with rfl <;> rcases h2 with rfl <;> dsimp only at e <;> omega)
  refine d_52n (Q := (fun r h' => r = none ∧ ∃ e' km' kc' ids' ms', SQ h' s0 n nn gg cc p f e' km' kc' ids' ms' q u b ∧ Iv p nn (e' p) km' kc' (ms'.map (·.1)) ∧ mea nn (e' p) (ms'.map (·.1)) < mea nn (e p) (u :: ms.map (·.1)) ∧ SZ (n + 329 + 22 * nn) h h' ∧ ax_fr (TBN n) h h')) (by omega) (by omega) (by omega) hj h2 hW (hq.at 0 rfl) hmr.1.1 (ax_A.post (c_55m (by omega) (by omega) (by unfold NTA; omega) (by unfold NTA; omega) (by rw [he]; exact hx.2.2.1) hx.1 hN hF1) ?_) (fun v h' z => z.1)
  intro r h' hz
  obtain ⟨ids2, bm, rfl, hN2, hf2, hz1, hz2⟩ := hz
  have epst : pst ms (mg 1 (nI j) (nI nn) (nI (e j)) (allN nn), bm) = ms ++ [(mg 1 (nI j) (nI nn) (nI (e j)) (allN nn), bm)] := if_pos (by have := hN.len.1; omega)
  rw [epst] at hN2
  have hfJ : ax_fr (JA n j) h h' := hf2.mono (fun x hx => Or.inl hx)
  have hy : iH nn j (mg 1 (nI j) (nI nn) (nI (e j)) (allN nn)) := ⟨rfl, rfl, rfl, by rw [he]; rfl⟩
  obtain ⟨k1, k2⟩ := st_M (by omega) hb.2.2.2.2.1 hj hI hx hy (fun z w => by subst w; omega)
  have hS := hQ.upd (v := e j) (kc' := kc) hfJ hN2 ⟨hej, ep, st, hd, cl, ni, tu, md, fm, hq.fr hf2 (fun z hz hA => by have := QN.lt z hz; unfold NTA at hA; omega), hcl⟩ (fun _ => rfl)
  rw [va_up_id] at hS
  exact ⟨rfl, e, km, kc, ids2, _, hS, by rw [List.map_append]; exact k1, by rw [List.map_append]; exact k2, ⟨hz1, hz2, hfJ.mono (fun x hx => JA_lt hj hx)⟩, hfJ.mono (fun x hx => JA_nt hx)⟩
theorem s_52d {L : Nat} {xs : Nat → Int32} {fr lo s0 n nn gg cc p q km kc : Nat} {h : ax_H} {f u b : Nat → Int32} {e : Nat → Nat} {ids : List Nat} {ms : List Mg} {j t : Nat} (hfr : 6 ≤ fr) (hlo : 230 ≤ lo) (hQ : SQ h s0 n nn gg cc p f e km kc ids ms q u b) (hI : Iv p nn (e p) km kc (u :: ms.map (·.1))) (hl : ids.length + nn + 1 < 128) (hjn : j < nn) (hx : iD p t j u) (he : e p = t) : ax_M L xs 52 fr lo [.ref s0, .ref (n + 1 + 1 + 2 * q)] h (fun r h' => r = none ∧ ∃ e' km' kc' ids' ms', SQ h' s0 n nn gg cc p f e' km' kc' ids' ms' q u b ∧ Iv p nn (e' p) km' kc' (ms'.map (·.1)) ∧ mea nn (e' p) (ms'.map (·.1)) < mea nn (e p) (u :: ms.map (·.1)) ∧ SZ (n + 329 + 22 * nn) h h' ∧ ax_fr (TBN n) h h') := by
  obtain ⟨hb, hp, ⟨c, hW⟩, hN, hD⟩ := id hQ
  have hmr := hN.read
  have hj : p < nn := hb.2.2.2.2.1
  obtain ⟨hej, ep, st, hd, cl, ni, tu, md, fm, hq, hcl⟩ := hD p hj
  have h2 : u 2 = nI p := hx.2.2.1
  have hF1 := (hq.sub (F' := [(n + 329 + 22 * p, .inr (7, [.int (nI p), .ref (n + 264), .ref n, .ref (n + 329 + 22 * p + 1), .ref (n + 329 + 22 * p + 7), .ref (n + 329 + 22 * p + 6), .int 1, .int (nI (e p)), .int (allN nn)])), (n + 329 + 22 * p + 7, .inr (9, [.int (nI p), .ref (n + 264), .ref n, .ref (n + 329 + 22 * p + 10), .ref (n + 329 + 22 * p + 18), .ref (n + 329 + 22 * p + 8), .ref (n + 329 + 22 * p + 9), .int ep, .int st, .int hd, .int cl, .long 0, .int ni, .int tu, .int md])), (n + 329 + 22 * p + 10, .inr (6, [.int (nI gg), .ref (n + 329 + 22 * p + 11), .ref (n + 329 + 22 * p + 12), .ref (n + 329 + 22 * p + 13), .ref (n + 329 + 22 * p + 14), .ref (n + 329 + 22 * p + 15), .ref (n + 329 + 22 * p + 16), .ref (n + 329 + 22 * p + 17), .long 0, .int 0, .int 0])), (n + 329 + 22 * p + 18, .inr (10, [.ref (n + 329 + 22 * p + 10), .ref (n + 329 + 22 * p + 19), .ref (n + 329 + 22 * p + 21), .int 0, .int (-1), .int 0, .int 0, .int 0, .int 0, .int 0, .int 0, .int 0, .int 0, .int 0, .int 0])), (n + 329 + 22 * p + 8, .inl (0, 16, .inl fm)), (n + 329 + 22 * p + 16, .inl (0, 961, .inl (ax_fill (fun _ => 0) 0 961 (-1))))]) [0, 7, 10, 18, 8, 16] rfl rfl).app (hW.sub (F' := [(n + 264, .inr (3, [.int (nI nn), .int (nI cc), .int (nI gg), .ref (n + 265)])), (n + 265, .inl (0, gg * nn, .inl f))]) [1, 2] rfl rfl) (fun i k x y hx hy e => by
    have h1 := List.mem_of_getElem? hx
    have h2 := List.mem_of_getElem? hy
    simp only [List.mem_cons, List.not_mem_nil, or_false] at h1 h2
    rcases h1 with rfl | rfl | rfl | rfl | rfl | rfl <;> rcases h2 with rfl | rfl <;> dsimp only at e <;> omega)
  have hF2 := hF1.app (ax_hs1 hmr.1.1) (fun i k x y hx hy e => by
    have h2 := List.mem_of_getElem? hy
    simp at h2
    subst h2
    have h1 := List.mem_of_getElem? hx
    simp only [List.cons_append, List.nil_append, List.mem_cons, List.not_mem_nil, or_false] at h1
    have h3 := hmr.2
    rcases h1 with rfl | rfl | rfl | rfl | rfl | rfl | rfl | rfl <;> dsimp only at e <;> omega)
  refine d_52n (Q := (fun r h' => r = none ∧ ∃ e' km' kc' ids' ms', SQ h' s0 n nn gg cc p f e' km' kc' ids' ms' q u b ∧ Iv p nn (e' p) km' kc' (ms'.map (·.1)) ∧ mea nn (e' p) (ms'.map (·.1)) < mea nn (e p) (u :: ms.map (·.1)) ∧ SZ (n + 329 + 22 * nn) h h' ∧ ax_fr (TBN n) h h')) (by omega) (by omega) (by omega) hj h2 hW (hq.at 0 rfl) hmr.1.1 (ax_A.post (c_55d (by omega) (by omega) (by omega) (by omega) (by omega) hp (versN 960 (by omega)) (by rw [he]; exact hx.2.2.2.1) hx.1 hx.2.2.2.2.1 hx.2.2.2.2.2 hF2) ?_) (fun v h' z => z.1)
  intro r h' hz
  obtain ⟨rfl, rfl⟩ := hz
  have hfL : ax_fr (fun x => x = n + 329 + 22 * p + 7) h _ := ax_fr.rf.put (h0 := h) (c := .inr (9, [.int (nI p), .ref (n + 264), .ref n, .ref (n + 329 + 22 * p + 10), .ref (n + 329 + 22 * p + 18), .ref (n + 329 + 22 * p + 8), .ref (n + 329 + 22 * p + 9), .int ep, .int st, .int (hd ||| (1 <<< ((u 1) &&& 31))), .int (cl ||| (1 <<< ((u 1) &&& 31))), .long 0, .int ni, .int tu, .int md])) rfl
  have hfJ : ax_fr (JA n p) h _ := hfL.mono (fun x hx => Or.inr (by omega))
  have hpw : 2 ^ nn ≤ 2 ^ 6 := Nat.pow_le_pow_right (by decide) (by omega)
  have hcl2 : cl ||| (1 <<< ((u 1) &&& 31)) = nI (kc ||| 2 ^ j) := by
    rw [hcl rfl, hx.2.1]
    exact orBit kc (by have := hI.2.2.2.2.2.2; omega) j (by omega)
  obtain ⟨k1, k2⟩ := st_D (by omega) hjn hI hx
  have hS := hQ.upd (v := e p) (kc' := kc ||| 2 ^ j) hfJ (hN.fr hfL (fun x hx hA => by unfold NTA at hx; omega)) ⟨hej, ep, st, _, _, ni, tu, md, fm, hq.put 7 _ rfl rfl, fun _ => hcl2⟩ (fun z => absurd rfl z)
  rw [va_up_id] at hS
  exact ⟨rfl, e, km, _, ids, ms, hS, k1, k2, ⟨rfl, rfl, hfJ.mono (fun x hx => JA_lt hj hx)⟩, hfJ.mono (fun x hx => JA_nt hx)⟩
theorem s_52h {L : Nat} {xs : Nat → Int32} {fr lo s0 n nn gg cc p q km kc : Nat} {h : ax_H} {f u b : Nat → Int32} {e : Nat → Nat} {ids : List Nat} {ms : List Mg} {j : Nat} (hfr : 6 ≤ fr) (hlo : 230 ≤ lo) (hQ : SQ h s0 n nn gg cc p f e km kc ids ms q u b) (hI : Iv p nn (e p) km kc (u :: ms.map (·.1))) (hl : ids.length + nn + 1 < 128) (hj : j < nn) (hx : iH nn j u) : ax_M L xs 52 fr lo [.ref s0, .ref (n + 1 + 1 + 2 * q)] h (fun r h' => r = none ∧ ∃ e' km' kc' ids' ms', SQ h' s0 n nn gg cc p f e' km' kc' ids' ms' q u b ∧ Iv p nn (e' p) km' kc' (ms'.map (·.1)) ∧ mea nn (e' p) (ms'.map (·.1)) < mea nn (e p) (u :: ms.map (·.1)) ∧ SZ (n + 329 + 22 * nn) h h' ∧ ax_fr (TBN n) h h') := by
  obtain ⟨hb, hp, ⟨c, hW⟩, hN, hD⟩ := id hQ
  have hmr := hN.read
  have hF1 := (hW.sub (F' := [(n + 266, .inr (4, [.ref (n + 264), .ref n, .ref (n + 267), .int 0, .ref (n + 268), .ref (n + 269), .ref (n + 270), .ref (n + 271), .int 0, .int 0, .int 0, .int 0, .int (-1), .int 2, .int (allN nn), .int (nI km)]))]) [3] rfl rfl).app (ax_hs1 hmr.1.1) (fun i k x y hx hy e => by
    have h1 := List.mem_of_getElem? hx
    have h2 := List.mem_of_getElem? hy
    have h3 := hmr.2
    simp only [List.mem_cons, List.not_mem_nil, or_false] at h1 h2
    subst h1
    subst h2
    dsimp only at e
    omega)
  refine d_52a (Q := (fun r h' => r = none ∧ ∃ e' km' kc' ids' ms', SQ h' s0 n nn gg cc p f e' km' kc' ids' ms' q u b ∧ Iv p nn (e' p) km' kc' (ms'.map (·.1)) ∧ mea nn (e' p) (ms'.map (·.1)) < mea nn (e p) (u :: ms.map (·.1)) ∧ SZ (n + 329 + 22 * nn) h h' ∧ ax_fr (TBN n) h h')) (by omega) (by omega) hx.2.2.1 hW hmr.1.1 (ax_A.post (c_53h hx.1 hx.2.2.2 hF1) ?_) (fun v h' z => z.1)
  intro r h' hz
  obtain ⟨rfl, rfl⟩ := hz
  have hfL : ax_fr (fun x => x = n + 266) h _ := ax_fr.rf.put (h0 := h) (c := .inr (4, [.ref (n + 264), .ref n, .ref (n + 267), .int 0, .ref (n + 268), .ref (n + 269), .ref (n + 270), .ref (n + 271), .int 0, .int 0, .int 0, .int 0, .int (-1), .int 2, .int (allN nn), .int (nI km ||| (1 <<< ((u 1) &&& 31)))])) rfl
  have hpw : 2 ^ nn ≤ 2 ^ 6 := Nat.pow_le_pow_right (by decide) (by omega)
  have hm2 : nI km ||| (1 <<< ((u 1) &&& 31)) = nI (km ||| 2 ^ j) := by
    rw [hx.2.1]
    exact orBit km (by have := hI.2.2.2.2.2.1; omega) j (by omega)
  obtain ⟨k1, k2⟩ := st_H (by omega) hj hI hx
  have hW2 := hW.put 3 (.inr (4, [.ref (n + 264), .ref n, .ref (n + 267), .int 0, .ref (n + 268), .ref (n + 269), .ref (n + 270), .ref (n + 271), .int 0, .int 0, .int 0, .int 0, .int (-1), .int 2, .int (allN nn), .int (nI km ||| (1 <<< ((u 1) &&& 31)))])) rfl (F' := W0 s0 n nn gg cc f c 2 (nI km ||| (1 <<< ((u 1) &&& 31)))) rfl
  rw [hm2] at hW2
  refine ⟨rfl, e, km ||| 2 ^ j, kc, ids, ms, ⟨hb, hp, ⟨c, by rw [hm2]; exact hW2⟩, hN.fr hfL (fun x hx hA => by unfold NTA at hx; omega), fun k hk => ?_⟩, k1, k2, ⟨rfl, rfl, hfL.mono (fun x hx => by omega)⟩, hfL.mono (fun x hx => by unfold TBN; omega)⟩
  obtain ⟨h0, ep, st, hd, cl, ni, tu, md, fm, g1, g2⟩ := hD k hk
  exact ⟨h0, ep, st, hd, cl, ni, tu, md, fm, g1.fr hfL (fun z hz hA => by have := QN.lt z hz; omega), g2⟩

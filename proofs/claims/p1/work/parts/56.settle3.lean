/-! settle of the quiet store: the new MAP comes to a NODE -/
theorem s_52N {L : Nat} {xs : Nat → Int32} {fr lo s0 n nn gg cc p q km kc : Nat} {h : ax_H} {f u b : Nat → Int32} {e : Nat → Nat} {ids : List Nat} {ms : List Mg} {j : Nat} (hfr : 6 ≤ fr) (hlo : 230 ≤ lo) (hQ : SQ h s0 n nn gg cc p f e km kc ids ms q u b) (hI : Iv p nn (e p) km kc (u :: ms.map (·.1))) (hl : ids.length + nn + 1 < 128) (hj : j < nn) (hx : iM nn j u) (he : e j = 1) (hjp : j ≠ p) : ax_M L xs 52 fr lo [.ref s0, .ref (n + 1 + 1 + 2 * q)] h (fun r h' => r = none ∧ ∃ e' km' kc' ids' ms', SQ h' s0 n nn gg cc p f e' km' kc' ids' ms' q u b ∧ Iv p nn (e' p) km' kc' (ms'.map (·.1)) ∧ mea nn (e' p) (ms'.map (·.1)) < mea nn (e p) (u :: ms.map (·.1)) ∧ SZ (n + 329 + 22 * nn) h h' ∧ ax_fr (TBN n) h h') := by
  obtain ⟨hb, hp, ⟨c, hW⟩, hN, hD⟩ := id hQ
  have hmr := hN.read
  obtain ⟨hej, ep, st, hd, cl, ni, tu, md, fm, hq, hcl⟩ := hD j hj
  have h2 : u 2 = nI j := hx.2.1
  have h3 : u 3 = nI 2 := hx.2.2.1
  have h4 : u 4 = allN nn := hx.2.2.2
  have hF1 := (hq.sub (F' := [(n + 329 + 22 * j, .inr (7, [.int (nI j), .ref (n + 264), .ref n, .ref (n + 329 + 22 * j + 1), .ref (n + 329 + 22 * j + 7), .ref (n + 329 + 22 * j + 6), .int 1, .int (nI (e j)), .int (allN nn)])), (n + 329 + 22 * j + 7, .inr (9, [.int (nI j), .ref (n + 264), .ref n, .ref (n + 329 + 22 * j + 10), .ref (n + 329 + 22 * j + 18), .ref (n + 329 + 22 * j + 8), .ref (n + 329 + 22 * j + 9), .int ep, .int st, .int hd, .int cl, .long 0, .int ni, .int tu, .int md])), (n + 329 + 22 * j + 10, .inr (6, [.int (nI gg), .ref (n + 329 + 22 * j + 11), .ref (n + 329 + 22 * j + 12), .ref (n + 329 + 22 * j + 13), .ref (n + 329 + 22 * j + 14), .ref (n + 329 + 22 * j + 15), .ref (n + 329 + 22 * j + 16), .ref (n + 329 + 22 * j + 17), .long 0, .int 0, .int 0])), (n + 329 + 22 * j + 18, .inr (10, [.ref (n + 329 + 22 * j + 10), .ref (n + 329 + 22 * j + 19), .ref (n + 329 + 22 * j + 21), .int 0, .int (-1), .int 0, .int 0, .int 0, .int 0, .int 0, .int 0, .int 0, .int 0, .int 0, .int 0])), (n + 329 + 22 * j + 11, .inl (0, 48, .inl (ax_fill (fun _ => 0) 0 48 (-1)))), (n + 329 + 22 * j + 12, .inl (0, 48, .inl (ax_fill (fun _ => 0) 0 48 0))), (n + 329 + 22 * j + 15, .inl (0, 512, .inl (ax_fill (fun _ => 0) 0 512 (-1)))), (n + 329 + 22 * j + 16, .inl (0, 961, .inl (ax_fill (fun _ => 0) 0 961 (-1)))), (n + 329 + 22 * j + 17, .inl (0, 961, .inl (ax_fill (fun _ => 0) 0 961 0))), (n + 329 + 22 * j + 8, .inl (0, 16, .inl fm))]) [0, 7, 10, 18, 11, 12, 15, 16, 17, 8] rfl rfl).app (hW.sub (F' := [(n + 264, .inr (3, [.int (nI nn), .int (nI cc), .int (nI gg), .ref (n + 265)])), (n + 265, .inl (0, gg * nn, .inl f))]) [1, 2] rfl rfl) (fun i k x y hx hy e => by
    have h1 := List.mem_of_getElem? hx
    have h2 := List.mem_of_getElem? hy
    simp only [List.mem_cons, List.not_mem_nil, or_false] at h1 h2
    rcases h1 with rfl | rfl | rfl | rfl | rfl | rfl | rfl | rfl | rfl | rfl <;> rcases h2 with rfl | rfl <;> dsimp only at e <;> omega)
  have hn0 : 0 < h.1 := Nat.lt_of_le_of_lt (Nat.zero_le _) (ax_g_lt (hq.at 0 rfl)).2
  refine d_52n (Q := (fun r h' => r = none ∧ ∃ e' km' kc' ids' ms', SQ h' s0 n nn gg cc p f e' km' kc' ids' ms' q u b ∧ Iv p nn (e' p) km' kc' (ms'.map (·.1)) ∧ mea nn (e' p) (ms'.map (·.1)) < mea nn (e p) (u :: ms.map (·.1)) ∧ SZ (n + 329 + 22 * nn) h h' ∧ ax_fr (TBN n) h h')) (by omega) (by omega) (by omega) hj h2 hW (hq.at 0 rfl) hmr.1.1 (ax_A.post (c_55mN (w := n + 1) (by omega) (by omega) (by omega) (by omega) (by omega) hn0 (by unfold NTA; omega) (by unfold NTA; omega) (by unfold NTA; omega) (by unfold NTA; omega) (by unfold NTA; omega) (by unfold NTA; omega) (by unfold NTA; omega) (by unfold NTA; omega) (by unfold NTA; omega) (by unfold NTA; omega) (by unfold NTA; omega) (by unfold NTA; omega) (by rw [he, h3]; decide) hx.1 (by rw [h4]; exact fun z => hjp (nI_inj (by omega) (by omega) (hp.symm.trans z)).symm) (by omega) hN hF1) ?_) (fun v h' z => z.1)
  intro r h' hz
  obtain ⟨ids2, bm, rfl, qF, hN2, hz1, hz2, qf⟩ := hz
  have hA : ∀ i, i ∈ [1, 2, 3, 4, 5, 6, 9, 13, 14, 19, 20, 21] → ¬ (NTA n (n + 1) (n + 329 + 22 * j + i) ∨ (n + 329 + 22 * j + i) ∈ [n + 329 + 22 * j, n + 329 + 22 * j + 7, n + 329 + 22 * j + 10, n + 329 + 22 * j + 18, n + 329 + 22 * j + 11, n + 329 + 22 * j + 12, n + 329 + 22 * j + 15, n + 329 + 22 * j + 16, n + 329 + 22 * j + 17]) := by
    intro i hi z
    unfold NTA at z
    simp only [List.mem_cons, List.not_mem_nil, or_false] at hi z
    omega
  have hqn : ax_hs h' (QN (n + 329 + 22 * j) (n + 264) n (nI gg) (nI j) 1 (u 3) (u 4) ep st 0 0 0 0 0 fm) := QN.mk (qF.at 0 rfl) (qf.g (hq.at 1 rfl) (hA 1 (by decide))) (qf.g (hq.at 2 rfl) (hA 2 (by decide))) (qf.g (hq.at 3 rfl) (hA 3 (by decide))) (qf.g (hq.at 4 rfl) (hA 4 (by decide))) (qf.g (hq.at 5 rfl) (hA 5 (by decide))) (qf.g (hq.at 6 rfl) (hA 6 (by decide))) (qF.at 1 rfl) (qF.at 9 rfl) (qf.g (hq.at 9 rfl) (hA 9 (by decide))) (qF.at 2 rfl) (ffx (qF.at 4 rfl)) (ffx (qF.at 5 rfl)) (qf.g (hq.at 13 rfl) (hA 13 (by decide))) (qf.g (hq.at 14 rfl) (hA 14 (by decide))) (ffx (qF.at 6 rfl)) (ffx (qF.at 7 rfl)) (ffx (qF.at 8 rfl)) (qF.at 3 rfl) (qf.g (hq.at 19 rfl) (hA 19 (by decide))) (qf.g (hq.at 20 rfl) (hA 20 (by decide))) (qf.g (hq.at 21 rfl) (hA 21 (by decide)))
  rw [h3, h4] at hqn
  have hfJ : ax_fr (JA n j) h h' := qf.mono (fun x hx => hx.elim Or.inl (fun z => Or.inr (by simp only [List.mem_cons, List.not_mem_nil, or_false] at z; omega)))
  have hy : iH nn j (mg 1 (nI j) (nI nn) (u 3) (u 4)) := ⟨rfl, rfl, rfl, h3⟩
  obtain ⟨k1, k2⟩ := st_M (by omega) hb.2.2.2.2.1 hj hI hx hy (fun _ => hjp)
  have hS := hQ.upd (v := 2) (kc' := kc) hfJ hN2 ⟨Or.inr rfl, ep, st, 0, 0, 0, 0, 0, fm, hqn, fun z => absurd z hjp⟩ (fun _ => rfl)
  have hep : va_up e j 2 p = e p := va_up_n _ _ (Ne.symm hjp)
  exact ⟨rfl, _, km, kc, ids2, _, hS, by rw [List.map_append, hep]; exact k1, by rw [List.map_append, hep]; exact k2, ⟨hz1, hz2, hfJ.mono (fun x hx => JA_lt hj hx)⟩, hfJ.mono (fun x hx => JA_nt hx)⟩
theorem s_52P {L : Nat} {xs : Nat → Int32} {fr lo s0 n nn gg cc p q km kc : Nat} {h : ax_H} {f u b : Nat → Int32} {e : Nat → Nat} {ids : List Nat} {ms : List Mg} (hfr : 6 ≤ fr) (hlo : 230 ≤ lo) (hQ : SQ h s0 n nn gg cc p f e km kc ids ms q u b) (hI : Iv p nn (e p) km kc (u :: ms.map (·.1))) (hl : ids.length + nn + 1 < 128) (hx : iM nn p u) (he : e p = 1) : ax_M L xs 52 fr lo [.ref s0, .ref (n + 1 + 1 + 2 * q)] h (fun r h' => r = none ∧ ∃ e' km' kc' ids' ms', SQ h' s0 n nn gg cc p f e' km' kc' ids' ms' q u b ∧ Iv p nn (e' p) km' kc' (ms'.map (·.1)) ∧ mea nn (e' p) (ms'.map (·.1)) < mea nn (e p) (u :: ms.map (·.1)) ∧ SZ (n + 329 + 22 * nn) h h' ∧ ax_fr (TBN n) h h') := by
  obtain ⟨hb, hp, ⟨c, hW⟩, hN, hD⟩ := id hQ
  have hmr := hN.read
  have hj : p < nn := hb.2.2.2.2.1
  obtain ⟨hej, ep, st, hd, cl, ni, tu, md, fm, hq, hcl⟩ := hD p hj
  have h2 : u 2 = nI p := hx.2.1
  have h3 : u 3 = nI 2 := hx.2.2.1
  have h4 : u 4 = allN nn := hx.2.2.2
  have hF1 := (hq.sub (F' := [(n + 329 + 22 * p, .inr (7, [.int (nI p), .ref (n + 264), .ref n, .ref (n + 329 + 22 * p + 1), .ref (n + 329 + 22 * p + 7), .ref (n + 329 + 22 * p + 6), .int 1, .int (nI (e p)), .int (allN nn)])), (n + 329 + 22 * p + 7, .inr (9, [.int (nI p), .ref (n + 264), .ref n, .ref (n + 329 + 22 * p + 10), .ref (n + 329 + 22 * p + 18), .ref (n + 329 + 22 * p + 8), .ref (n + 329 + 22 * p + 9), .int ep, .int st, .int hd, .int cl, .long 0, .int ni, .int tu, .int md])), (n + 329 + 22 * p + 10, .inr (6, [.int (nI gg), .ref (n + 329 + 22 * p + 11), .ref (n + 329 + 22 * p + 12), .ref (n + 329 + 22 * p + 13), .ref (n + 329 + 22 * p + 14), .ref (n + 329 + 22 * p + 15), .ref (n + 329 + 22 * p + 16), .ref (n + 329 + 22 * p + 17), .long 0, .int 0, .int 0])), (n + 329 + 22 * p + 18, .inr (10, [.ref (n + 329 + 22 * p + 10), .ref (n + 329 + 22 * p + 19), .ref (n + 329 + 22 * p + 21), .int 0, .int (-1), .int 0, .int 0, .int 0, .int 0, .int 0, .int 0, .int 0, .int 0, .int 0, .int 0])), (n + 329 + 22 * p + 11, .inl (0, 48, .inl (ax_fill (fun _ => 0) 0 48 (-1)))), (n + 329 + 22 * p + 12, .inl (0, 48, .inl (ax_fill (fun _ => 0) 0 48 0))), (n + 329 + 22 * p + 15, .inl (0, 512, .inl (ax_fill (fun _ => 0) 0 512 (-1)))), (n + 329 + 22 * p + 16, .inl (0, 961, .inl (ax_fill (fun _ => 0) 0 961 (-1)))), (n + 329 + 22 * p + 17, .inl (0, 961, .inl (ax_fill (fun _ => 0) 0 961 0))), (n + 329 + 22 * p + 8, .inl (0, 16, .inl fm))]) [0, 7, 10, 18, 11, 12, 15, 16, 17, 8] rfl rfl).app (hW.sub (F' := [(n + 264, .inr (3, [.int (nI nn), .int (nI cc), .int (nI gg), .ref (n + 265)])), (n + 265, .inl (0, gg * nn, .inl f))]) [1, 2] rfl rfl) (fun i k x y hx hy e => by
    have h1 := List.mem_of_getElem? hx
    have h2 := List.mem_of_getElem? hy
    simp only [List.mem_cons, List.not_mem_nil, or_false] at h1 h2
    rcases h1 with rfl | rfl | rfl | rfl | rfl | rfl | rfl | rfl | rfl | rfl <;> rcases h2 with rfl | rfl <;> dsimp only at e <;> omega)
  have hn0 : 0 < h.1 := Nat.lt_of_le_of_lt (Nat.zero_le _) (ax_g_lt (hq.at 0 rfl)).2
  refine d_52n (Q := (fun r h' => r = none ∧ ∃ e' km' kc' ids' ms', SQ h' s0 n nn gg cc p f e' km' kc' ids' ms' q u b ∧ Iv p nn (e' p) km' kc' (ms'.map (·.1)) ∧ mea nn (e' p) (ms'.map (·.1)) < mea nn (e p) (u :: ms.map (·.1)) ∧ SZ (n + 329 + 22 * nn) h h' ∧ ax_fr (TBN n) h h')) (by omega) (by omega) (by omega) hj h2 hW (hq.at 0 rfl) hmr.1.1 (ax_A.post (c_55mL (w := n + 1) (by omega) (by omega) (by omega) (by omega) (by omega) hn0 (by unfold NTA; omega) (by unfold NTA; omega) (by unfold NTA; omega) (by unfold NTA; omega) (by unfold NTA; omega) (by unfold NTA; omega) (by unfold NTA; omega) (by unfold NTA; omega) (by unfold NTA; omega) (by unfold NTA; omega) (by unfold NTA; omega) (by unfold NTA; omega) (by rw [he, h3]; decide) hx.1 (by rw [h4]; exact hp) (by omega) hN hF1) ?_) (fun v h' z => z.1)
  intro r h' hz
  obtain ⟨fm', ids2, ms2, rfl, qF, hN2, hms, hz1, hz2, qf⟩ := hz
  have hA : ∀ i, i ∈ [1, 2, 3, 4, 5, 6, 9, 13, 14, 19, 20, 21] → ¬ (NTA n (n + 1) (n + 329 + 22 * p + i) ∨ (n + 329 + 22 * p + i) ∈ [n + 329 + 22 * p, n + 329 + 22 * p + 7, n + 329 + 22 * p + 10, n + 329 + 22 * p + 18, n + 329 + 22 * p + 11, n + 329 + 22 * p + 12, n + 329 + 22 * p + 15, n + 329 + 22 * p + 16, n + 329 + 22 * p + 17, n + 329 + 22 * p + 8]) := by
    intro i hi z
    unfold NTA at z
    simp only [List.mem_cons, List.not_mem_nil, or_false] at hi z
    omega
  have hqn : ax_hs h' (QN (n + 329 + 22 * p) (n + 264) n (nI gg) (nI p) 1 (u 3) (u 4) (u 3) (u 4) 0 0 0 0 0 fm') := QN.mk (qF.at 0 rfl) (qf.g (hq.at 1 rfl) (hA 1 (by decide))) (qf.g (hq.at 2 rfl) (hA 2 (by decide))) (qf.g (hq.at 3 rfl) (hA 3 (by decide))) (qf.g (hq.at 4 rfl) (hA 4 (by decide))) (qf.g (hq.at 5 rfl) (hA 5 (by decide))) (qf.g (hq.at 6 rfl) (hA 6 (by decide))) (qF.at 1 rfl) (qF.at 9 rfl) (qf.g (hq.at 9 rfl) (hA 9 (by decide))) (qF.at 2 rfl) (ffx (qF.at 4 rfl)) (ffx (qF.at 5 rfl)) (qf.g (hq.at 13 rfl) (hA 13 (by decide))) (qf.g (hq.at 14 rfl) (hA 14 (by decide))) (ffx (qF.at 6 rfl)) (ffx (qF.at 7 rfl)) (ffx (qF.at 8 rfl)) (qF.at 3 rfl) (qf.g (hq.at 19 rfl) (hA 19 (by decide))) (qf.g (hq.at 20 rfl) (hA 20 (by decide))) (qf.g (hq.at 21 rfl) (hA 21 (by decide)))
  rw [h3, h4] at hqn
  have hfJ : ax_fr (JA n p) h h' := qf.mono (fun x hx => hx.elim Or.inl (fun z => Or.inr (by simp only [List.mem_cons, List.not_mem_nil, or_false] at z; omega)))
  rw [h3, h4] at hms
  have hy : iH nn p (mg 1 (nI p) (nI nn) (nI 2) (allN nn)) := ⟨rfl, rfl, rfl, rfl⟩
  rw [he] at hI
  obtain ⟨k1, k2⟩ := st_P (by omega) hj hI hx hy
  have hS := hQ.upd (v := 2) (kc' := 0) hfJ hN2 ⟨Or.inr rfl, nI 2, allN nn, 0, 0, 0, 0, 0, fm', hqn, fun _ => rfl⟩ (fun z => absurd rfl z)
  have hep : va_up e p 2 p = 2 := va_up_s _ _ _
  exact ⟨rfl, _, km, 0, ids2, ms2, hS, by rw [hms, hep]; exact k1, by rw [hms, hep, he]; exact k2, ⟨hz1, hz2, hfJ.mono (fun x hx => JA_lt hj hx)⟩, hfJ.mono (fun x hx => JA_nt hx)⟩
theorem s_52L {L : Nat} {xs : Nat → Int32} {fr lo s0 n nn gg cc p q km kc : Nat} {h : ax_H} {f u b : Nat → Int32} {e : Nat → Nat} {ids : List Nat} {ms : List Mg} {j : Nat} (hfr : 6 ≤ fr) (hlo : 230 ≤ lo) (hQ : SQ h s0 n nn gg cc p f e km kc ids ms q u b) (hI : Iv p nn (e p) km kc (u :: ms.map (·.1))) (hl : ids.length + nn + 1 < 128) (hj : j < nn) (hx : iL p nn 2 j u) (hep2 : e p = 2) (he : e j = 1) : ax_M L xs 52 fr lo [.ref s0, .ref (n + 1 + 1 + 2 * q)] h (fun r h' => r = none ∧ ∃ e' km' kc' ids' ms', SQ h' s0 n nn gg cc p f e' km' kc' ids' ms' q u b ∧ Iv p nn (e' p) km' kc' (ms'.map (·.1)) ∧ mea nn (e' p) (ms'.map (·.1)) < mea nn (e p) (u :: ms.map (·.1)) ∧ SZ (n + 329 + 22 * nn) h h' ∧ ax_fr (TBN n) h h') := by
  obtain ⟨hb, hp, ⟨c, hW⟩, hN, hD⟩ := id hQ
  have hmr := hN.read
  obtain ⟨hej, ep, st, hd, cl, ni, tu, md, fm, hq, hcl⟩ := hD j hj
  have hjp : j ≠ p := fun z => by subst z; omega
  have h2 : u 2 = nI j := hx.2.2.1
  have h3 : u 3 = nI 2 := hx.2.2.2.1
  have h4 : u 4 = allN nn := hx.2.2.2.2
  have hF0 := (hq.sub (F' := [(n + 329 + 22 * j, .inr (7, [.int (nI j), .ref (n + 264), .ref n, .ref (n + 329 + 22 * j + 1), .ref (n + 329 + 22 * j + 7), .ref (n + 329 + 22 * j + 6), .int 1, .int (nI (e j)), .int (allN nn)])), (n + 329 + 22 * j + 7, .inr (9, [.int (nI j), .ref (n + 264), .ref n, .ref (n + 329 + 22 * j + 10), .ref (n + 329 + 22 * j + 18), .ref (n + 329 + 22 * j + 8), .ref (n + 329 + 22 * j + 9), .int ep, .int st, .int hd, .int cl, .long 0, .int ni, .int tu, .int md])), (n + 329 + 22 * j + 10, .inr (6, [.int (nI gg), .ref (n + 329 + 22 * j + 11), .ref (n + 329 + 22 * j + 12), .ref (n + 329 + 22 * j + 13), .ref (n + 329 + 22 * j + 14), .ref (n + 329 + 22 * j + 15), .ref (n + 329 + 22 * j + 16), .ref (n + 329 + 22 * j + 17), .long 0, .int 0, .int 0])), (n + 329 + 22 * j + 18, .inr (10, [.ref (n + 329 + 22 * j + 10), .ref (n + 329 + 22 * j + 19), .ref (n + 329 + 22 * j + 21), .int 0, .int (-1), .int 0, .int 0, .int 0, .int 0, .int 0, .int 0, .int 0, .int 0, .int 0, .int 0])), (n + 329 + 22 * j + 11, .inl (0, 48, .inl (ax_fill (fun _ => 0) 0 48 (-1)))), (n + 329 + 22 * j + 12, .inl (0, 48, .inl (ax_fill (fun _ => 0) 0 48 0))), (n + 329 + 22 * j + 15, .inl (0, 512, .inl (ax_fill (fun _ => 0) 0 512 (-1)))), (n + 329 + 22 * j + 16, .inl (0, 961, .inl (ax_fill (fun _ => 0) 0 961 (-1)))), (n + 329 + 22 * j + 17, .inl (0, 961, .inl (ax_fill (fun _ => 0) 0 961 0))), (n + 329 + 22 * j + 8, .inl (0, 16, .inl fm)), (n + 329 + 22 * j + 1, .inr (8, [.ref (n + 329 + 22 * j + 2), .ref (n + 329 + 22 * j + 3), .ref (n + 329 + 22 * j + 4), .ref (n + 329 + 22 * j + 5), .int 0])), (n + 329 + 22 * j + 6, .inl (0, 280, .inl (ax_fill (fun _ => 0) 0 280 (-1))))]) [0, 7, 10, 18, 11, 12, 15, 16, 17, 8, 1, 6] rfl rfl).app (hW.sub (F' := [(n + 264, .inr (3, [.int (nI nn), .int (nI cc), .int (nI gg), .ref (n + 265)])), (n + 265, .inl (0, gg * nn, .inl f))]) [1, 2] rfl rfl) (fun i k x y hx hy e => by
    have h1 := List.mem_of_getElem? hx
    have h2 := List.mem_of_getElem? hy
    simp only [List.mem_cons, List.not_mem_nil, or_false] at h1 h2
    rcases h1 with rfl | rfl | rfl | rfl | rfl | rfl | rfl | rfl | rfl | rfl | rfl | rfl <;> rcases h2 with rfl | rfl <;> dsimp only at e <;> omega)
  have hF1 := hF0.sub (F' := [(n + 329 + 22 * j, .inr (7, [.int (nI j), .ref (n + 264), .ref n, .ref (n + 329 + 22 * j + 1), .ref (n + 329 + 22 * j + 7), .ref (n + 329 + 22 * j + 6), .int 1, .int (nI (e j)), .int (allN nn)])), (n + 329 + 22 * j + 7, .inr (9, [.int (nI j), .ref (n + 264), .ref n, .ref (n + 329 + 22 * j + 10), .ref (n + 329 + 22 * j + 18), .ref (n + 329 + 22 * j + 8), .ref (n + 329 + 22 * j + 9), .int ep, .int st, .int hd, .int cl, .long 0, .int ni, .int tu, .int md])), (n + 329 + 22 * j + 10, .inr (6, [.int (nI gg), .ref (n + 329 + 22 * j + 11), .ref (n + 329 + 22 * j + 12), .ref (n + 329 + 22 * j + 13), .ref (n + 329 + 22 * j + 14), .ref (n + 329 + 22 * j + 15), .ref (n + 329 + 22 * j + 16), .ref (n + 329 + 22 * j + 17), .long 0, .int 0, .int 0])), (n + 329 + 22 * j + 18, .inr (10, [.ref (n + 329 + 22 * j + 10), .ref (n + 329 + 22 * j + 19), .ref (n + 329 + 22 * j + 21), .int 0, .int (-1), .int 0, .int 0, .int 0, .int 0, .int 0, .int 0, .int 0, .int 0, .int 0, .int 0])), (n + 329 + 22 * j + 11, .inl (0, 48, .inl (ax_fill (fun _ => 0) 0 48 (-1)))), (n + 329 + 22 * j + 12, .inl (0, 48, .inl (ax_fill (fun _ => 0) 0 48 0))), (n + 329 + 22 * j + 15, .inl (0, 512, .inl (ax_fill (fun _ => 0) 0 512 (-1)))), (n + 329 + 22 * j + 16, .inl (0, 961, .inl (ax_fill (fun _ => 0) 0 961 (-1)))), (n + 329 + 22 * j + 17, .inl (0, 961, .inl (ax_fill (fun _ => 0) 0 961 0))), (n + 329 + 22 * j + 8, .inl (0, 16, .inl fm)), (n + 264, .inr (3, [.int (nI nn), .int (nI cc), .int (nI gg), .ref (n + 265)])), (n + 265, .inl (0, gg * nn, .inl f)), (n + 329 + 22 * j + 1, .inr (8, [.ref (n + 329 + 22 * j + 2), .ref (n + 329 + 22 * j + 3), .ref (n + 329 + 22 * j + 4), .ref (n + 329 + 22 * j + 5), .int 0])), (n + 329 + 22 * j + 6, .inl (0, 280, .inl (ax_fill (fun _ => 0) 0 280 (-1))))]) [0, 1, 2, 3, 4, 5, 6, 7, 8, 9, 12, 13, 10, 11] rfl rfl
  have hn0 : 0 < h.1 := Nat.lt_of_le_of_lt (Nat.zero_le _) (ax_g_lt (hq.at 0 rfl)).2
  refine d_52n (Q := (fun r h' => r = none ∧ ∃ e' km' kc' ids' ms', SQ h' s0 n nn gg cc p f e' km' kc' ids' ms' q u b ∧ Iv p nn (e' p) km' kc' (ms'.map (·.1)) ∧ mea nn (e' p) (ms'.map (·.1)) < mea nn (e p) (u :: ms.map (·.1)) ∧ SZ (n + 329 + 22 * nn) h h' ∧ ax_fr (TBN n) h h')) (by omega) (by omega) (by omega) hj h2 hW (hq.at 0 rfl) hmr.1.1 (ax_A.post (c_55lN (w := n + 1) (by omega) (by omega) (by omega) (by omega) (by omega) hn0 (by unfold NTA; omega) (by unfold NTA; omega) (by unfold NTA; omega) (by unfold NTA; omega) (by unfold NTA; omega) (by unfold NTA; omega) (by unfold NTA; omega) (by unfold NTA; omega) (by unfold NTA; omega) (by unfold NTA; omega) (by unfold NTA; omega) (by unfold NTA; omega) (by unfold NTA; omega) (by unfold NTA; omega) (by rw [he, h3]; decide) hx.1 (by rw [h4]; exact fun z => hjp (nI_inj (by omega) (by omega) (hp.symm.trans z)).symm) tagsN (by omega) hN hF1) ?_) (fun v h' z => z.1)
  intro r h' hz
  obtain ⟨ids2, bm, rfl, qF, hN2, hz1, hz2, qf⟩ := hz
  have hA : ∀ i, i ∈ [1, 2, 3, 4, 5, 6, 9, 13, 14, 19, 20, 21] → ¬ (NTA n (n + 1) (n + 329 + 22 * j + i) ∨ (n + 329 + 22 * j + i) ∈ [n + 329 + 22 * j, n + 329 + 22 * j + 7, n + 329 + 22 * j + 10, n + 329 + 22 * j + 18, n + 329 + 22 * j + 11, n + 329 + 22 * j + 12, n + 329 + 22 * j + 15, n + 329 + 22 * j + 16, n + 329 + 22 * j + 17]) := by
    intro i hi z
    unfold NTA at z
    simp only [List.mem_cons, List.not_mem_nil, or_false] at hi z
    omega
  have hqn : ax_hs h' (QN (n + 329 + 22 * j) (n + 264) n (nI gg) (nI j) 1 (u 3) (u 4) ep st 0 0 0 0 0 fm) := QN.mk (qF.at 0 rfl) (qf.g (hq.at 1 rfl) (hA 1 (by decide))) (qf.g (hq.at 2 rfl) (hA 2 (by decide))) (qf.g (hq.at 3 rfl) (hA 3 (by decide))) (qf.g (hq.at 4 rfl) (hA 4 (by decide))) (qf.g (hq.at 5 rfl) (hA 5 (by decide))) (qf.g (hq.at 6 rfl) (hA 6 (by decide))) (qF.at 1 rfl) (qF.at 9 rfl) (qf.g (hq.at 9 rfl) (hA 9 (by decide))) (qF.at 2 rfl) (ffx (qF.at 4 rfl)) (ffx (qF.at 5 rfl)) (qf.g (hq.at 13 rfl) (hA 13 (by decide))) (qf.g (hq.at 14 rfl) (hA 14 (by decide))) (ffx (qF.at 6 rfl)) (ffx (qF.at 7 rfl)) (ffx (qF.at 8 rfl)) (qF.at 3 rfl) (qf.g (hq.at 19 rfl) (hA 19 (by decide))) (qf.g (hq.at 20 rfl) (hA 20 (by decide))) (qf.g (hq.at 21 rfl) (hA 21 (by decide)))
  rw [h3, h4] at hqn
  have hfJ : ax_fr (JA n j) h h' := qf.mono (fun x hx => hx.elim Or.inl (fun z => Or.inr (by simp only [List.mem_cons, List.not_mem_nil, or_false] at z; omega)))
  have hy : iD p 2 j (mg 5 (nI j) (u 1) (u 3) (u 4)) := ⟨rfl, rfl, hx.2.1, h3, rfl, rfl⟩
  obtain ⟨k1, k2⟩ := st_L (by omega) hj (Or.inr rfl) (fun _ => hep2) hI hx hy
  have hS := hQ.upd (v := 2) (kc' := kc) hfJ hN2 ⟨Or.inr rfl, ep, st, 0, 0, 0, 0, 0, fm, hqn, fun z => absurd z hjp⟩ (fun _ => rfl)
  have hep : va_up e j 2 p = e p := va_up_n _ _ (Ne.symm hjp)
  exact ⟨rfl, _, km, kc, ids2, _, hS, by rw [List.map_append, hep]; exact k1, by rw [List.map_append, hep]; exact k2, ⟨hz1, hz2, hfJ.mono (fun x hx => JA_lt hj hx)⟩, hfJ.mono (fun x hx => JA_nt hx)⟩
theorem s_52 {L : Nat} {xs : Nat → Int32} {fr lo s0 n nn gg cc p q km kc : Nat} {h : ax_H} {f u b : Nat → Int32} {e : Nat → Nat} {ids : List Nat} {ms : List Mg} (hfr : 6 ≤ fr) (hlo : 230 ≤ lo) (hQ : SQ h s0 n nn gg cc p f e km kc ids ms q u b) (hI : Iv p nn (e p) km kc (u :: ms.map (·.1))) (hl : ids.length + nn + 1 < 128) : ax_M L xs 52 fr lo [.ref s0, .ref (n + 1 + 1 + 2 * q)] h (fun r h' => r = none ∧ ∃ e' km' kc' ids' ms', SQ h' s0 n nn gg cc p f e' km' kc' ids' ms' q u b ∧ Iv p nn (e' p) km' kc' (ms'.map (·.1)) ∧ mea nn (e' p) (ms'.map (·.1)) < mea nn (e p) (u :: ms.map (·.1)) ∧ SZ (n + 329 + 22 * nn) h h' ∧ ax_fr (TBN n) h h') := by
  obtain ⟨hb, hp, -, -, hD⟩ := id hQ
  obtain ⟨j, hj, hx⟩ := hI.1 u (List.mem_cons_self ..)
  rcases hx with hx | hx | ⟨t, ht, ht2, hx | hx⟩
  · rcases (hD j hj).1 with he | he
    · by_cases hjp : j = p
      · subst hjp
        exact s_52P hfr hlo hQ hI hl hx he
      · exact s_52N hfr hlo hQ hI hl hj hx he hjp
    · exact s_52m hfr hlo hQ hI hl hj hx he
  · exact s_52h hfr hlo hQ hI hl hj hx
  · rcases ht with rfl | rfl
    · rcases (hD j hj).1 with he | he
      · exact s_52l hfr hlo hQ hI hl hj (Or.inl rfl) ht2 hx he
      · exact s_52o hfr hlo hQ hI hl hj hx.2.2.1 (Or.inl hx) he
    · rcases (hD j hj).1 with he | he
      · exact s_52L hfr hlo hQ hI hl hj hx (ht2 rfl) he
      · exact s_52l hfr hlo hQ hI hl hj (Or.inr rfl) ht2 hx he
  · rcases ht with rfl | rfl
    · rcases (hD p hb.2.2.2.2.1).1 with he | he
      · exact s_52d hfr hlo hQ hI hl hj hx he
      · exact s_52o hfr hlo hQ hI hl hb.2.2.2.2.1 hx.2.2.1 (Or.inr hx) he
    · exact s_52d hfr hlo hQ hI hl hj hx (ht2 rfl)

/-! the quiet store: handOver goes to a NODE's hear, or to that of those who ask -/
def W0 (s0 n nn gg cc : Nat) (f : Nat → Int32) (c e mh : Int32) : List (Nat × va_E) := [(s0, .inr (0, [.ref (n + 264), .ref n, .ref (n + 266), .ref (n + 328), .ref (n + 320), .ref (n + 262), .ref (n + 263), .int 0, .int 0, .int 0, .int c])), (n + 264, .inr (3, [.int (nI nn), .int (nI cc), .int (nI gg), .ref (n + 265)])), (n + 265, .inl (0, gg * nn, .inl f)), (n + 266, .inr (4, [.ref (n + 264), .ref n, .ref (n + 267), .int 0, .ref (n + 268), .ref (n + 269), .ref (n + 270), .ref (n + 271), .int 0, .int 0, .int 0, .int 0, .int (-1), .int e, .int (allN nn), .int mh])), (n + 328, .inl (5, nn, .inr (.inr (.inr (.inr (fun j => if j < nn then some (n + 329 + 22 * j) else none))))))]
theorem d_52n {L : Nat} {xs : Nat → Int32} {fr lo s0 n nn gg cc : Nat} {h : ax_H} {f : Nat → Int32} {c e mh : Int32} {j mm mb d1 d2 d3 : Nat} {ne ns : Int32} {u : Nat → Int32} {Q : ax_Po} (hfr : 1 ≤ fr) (hlo : 21 ≤ lo) (hnn : nn ≤ 6) (hj : j < nn) (h2 : u 2 = nI j) (hW : ax_hs h (W0 s0 n nn gg cc f c e mh)) (hnd : ax_g h (n + 329 + 22 * j) = some (.inr (7, [.int (nI j), .ref (n + 264), .ref n, .ref d1, .ref d2, .ref d3, .int 1, .int ne, .int ns]))) (hmm : ax_g h mm = some (.inr (2, [.int (u 0), .int (u 1), .int (u 2), .int (u 3), .int (u 4), .int (u 5), .int (u 6), .int (u 7), .ref mb]))) (kk : ax_M L xs 55 (fr - 1) (lo - 21) [.ref (n + 329 + 22 * j), .ref mm] h Q) (hQ : ∀ v h', Q v h' → v = none) : ax_M L xs 52 fr lo [.ref s0, .ref mm] h Q := by
  show ax_A (ax_step L xs) ((52, 0, fr, lo), [(0, .ref s0), (1, .ref mm)], [], h) _
  refine ar_aload_n 1 d_52_0 rfl rfl ?_
  refine ar_getf 4 d_52_1 rfl (ci := 2) (k := 2) rfl hmm rfl ?_
  refine ar_aload_n 5 d_52_4 rfl rfl ?_
  refine ar_getf 8 d_52_5 rfl (ci := 0) (k := 0) rfl (hW.at 0 rfl) rfl ?_
  refine ar_getf 11 d_52_8 rfl (ci := 3) (k := 0) rfl (hW.at 1 rfl) rfl ?_
  refine ar_icmp_ne 25 14 d_52_11 (by decide) rfl (fun _ => ?_) (fun c => absurd (by rw [h2]; exact fun z => absurd (nI_inj (by omega) (by omega) z) (by omega)) c)
  refine ar_aload_n 26 d_52_25 rfl rfl ?_
  refine ar_getf 29 d_52_26 rfl (ci := 2) (k := 2) rfl hmm rfl ?_
  refine ar_if_lt 72 32 d_52_29 (by decide) rfl (fun c => absurd c (by rw [h2]; exact Int32.not_lt.mpr (nI_le (Nat.zero_le j) (by omega)))) (fun _ => ?_)
  refine ar_aload_n 33 d_52_32 rfl rfl ?_
  refine ar_getf 36 d_52_33 rfl (ci := 2) (k := 2) rfl hmm rfl ?_
  refine ar_aload_n 37 d_52_36 rfl rfl ?_
  refine ar_getf 40 d_52_37 rfl (ci := 0) (k := 3) rfl (hW.at 0 rfl) rfl ?_
  refine ar_alen 41 d_52_40 rfl (hW.at 4 rfl) (by decide) ?_
  refine ar_icmp_ge 72 44 d_52_41 (by decide) rfl (fun c => absurd c (by rw [h2]; exact nI_ge hj (by omega))) (fun _ => ?_)
  refine ar_aload_n 45 d_52_44 rfl rfl ?_
  refine ar_getf 48 d_52_45 rfl (ci := 0) (k := 3) rfl (hW.at 0 rfl) rfl ?_
  refine ar_aload_n 49 d_52_48 rfl rfl ?_
  refine ar_getf 52 d_52_49 rfl (ci := 2) (k := 2) rfl hmm rfl ?_
  refine ar_aald 53 d_52_52 rfl (hW.at 4 rfl) rfl (by rw [h2]; exact nI_in hj (by omega)) ?_
  refine ar_tv (v' := .ref (n + 329 + 22 * j)) (by rw [h2, nI_clamp (by omega), if_pos hj]; rfl) ?_
  refine ar_getf 56 d_52_53 rfl (ci := 7) (k := 6) rfl hnd rfl ?_
  refine ar_if_eq 72 59 d_52_56 (by decide) rfl (fun c => absurd c (by decide)) (fun _ => ?_)
  refine ar_aload_n 60 d_52_59 rfl rfl ?_
  refine ar_getf 63 d_52_60 rfl (ci := 0) (k := 3) rfl (hW.at 0 rfl) rfl ?_
  refine ar_aload_n 64 d_52_63 rfl rfl ?_
  refine ar_getf 67 d_52_64 rfl (ci := 2) (k := 2) rfl hmm rfl ?_
  refine ar_aald 68 d_52_67 rfl (hW.at 4 rfl) rfl (by rw [h2]; exact nI_in hj (by omega)) ?_
  refine ar_tv (v' := .ref (n + 329 + 22 * j)) (by rw [h2, nI_clamp (by omega), if_pos hj]; rfl) ?_
  refine ar_aload_n 69 d_52_68 rfl rfl ?_
  refine ar_call (r := []) (na := 0) (kd := 0) (cm := 55) (fr2 := fr - 1) (lo2 := lo - 21) 72 d_52_69 (ar_hoV (as := [.ref mm]) rfl rfl rfl hnd) rfl (by omega) (show lo - 21 + (19 + 2) = lo by omega) (Nat.le_of_ble_eq_true rfl) (Nat.le_of_ble_eq_true rfl) (kk) ?_
  intro v h2 hq
  skip
  obtain rfl := hQ _ _ hq
  exact ar_ret d_52_72 rfl (hq)
theorem d_52a {L : Nat} {xs : Nat → Int32} {fr lo s0 n nn gg cc : Nat} {h : ax_H} {f : Nat → Int32} {c e mh : Int32} {mm mb : Nat} {u : Nat → Int32} {Q : ax_Po} (hfr : 1 ≤ fr) (hlo : 22 ≤ lo) (h2 : u 2 = nI nn) (hW : ax_hs h (W0 s0 n nn gg cc f c e mh)) (hmm : ax_g h mm = some (.inr (2, [.int (u 0), .int (u 1), .int (u 2), .int (u 3), .int (u 4), .int (u 5), .int (u 6), .int (u 7), .ref mb]))) (kk : ax_M L xs 53 (fr - 1) (lo - 22) [.ref (n + 266), .ref mm] h Q) (hQ : ∀ v h', Q v h' → v = none) : ax_M L xs 52 fr lo [.ref s0, .ref mm] h Q := by
  show ax_A (ax_step L xs) ((52, 0, fr, lo), [(0, .ref s0), (1, .ref mm)], [], h) _
  refine ar_aload_n 1 d_52_0 rfl rfl ?_
  refine ar_getf 4 d_52_1 rfl (ci := 2) (k := 2) rfl hmm rfl ?_
  refine ar_aload_n 5 d_52_4 rfl rfl ?_
  refine ar_getf 8 d_52_5 rfl (ci := 0) (k := 0) rfl (hW.at 0 rfl) rfl ?_
  refine ar_getf 11 d_52_8 rfl (ci := 3) (k := 0) rfl (hW.at 1 rfl) rfl ?_
  refine ar_icmp_ne 25 14 d_52_11 (by decide) rfl (fun c => absurd c (fun z => z h2)) (fun _ => ?_)
  refine ar_aload_n 15 d_52_14 rfl rfl ?_
  refine ar_getf 18 d_52_15 rfl (ci := 0) (k := 2) rfl (hW.at 0 rfl) rfl ?_
  refine ar_aload_n 19 d_52_18 rfl rfl ?_
  refine ar_call (r := []) (na := 0) (kd := 0) (cm := 53) (fr2 := fr - 1) (lo2 := lo - 22) 22 d_52_19 (ar_hoV (as := [.ref mm]) rfl rfl rfl (hW.at 3 rfl)) rfl (by omega) (show lo - 22 + (19 + 3) = lo by omega) (Nat.le_of_ble_eq_true rfl) (Nat.le_of_ble_eq_true rfl) (kk) ?_
  intro v h2 hq
  skip
  obtain rfl := hQ _ _ hq
  refine ar_goto 72 d_52_22 (by decide) ?_
  exact ar_ret d_52_72 rfl (hq)
/-- what is under way: a LIST of the leader, or an empty LISTED to it -/
def PQ (p nn : Nat) (u : Nat → Int32) : Prop := u 3 = 1 ∧ ((u 0 = 4 ∧ u 1 = nI p ∧ ∃ j, j < nn ∧ u 2 = nI j) ∨ (u 0 = 5 ∧ u 2 = nI p ∧ u 6 = 0 ∧ u 7 = 0))
theorem PQ_list {p nn j : Nat} {st : Int32} (hj : j < nn) : PQ p nn (mg 4 (nI p) (nI j) 1 st) := ⟨rfl, Or.inl ⟨rfl, rfl, j, hj, rfl⟩⟩
theorem PQ_listed {p nn : Nat} {x st : Int32} : PQ p nn (mg 5 x (nI p) 1 st) := ⟨rfl, Or.inr ⟨rfl, rfl, rfl, rfl⟩⟩
def QD (h : ax_H) (n nn gg p j : Nat) : Prop := ∃ hd cl ni tu md fm, ax_hs h (QN (n + 329 + 22 * j) (n + 264) n (nI gg) (nI j) 1 1 (allN nn) (if j = p then 1 else 0) (if j = p then allN nn else 0) hd cl ni tu md fm) ∧ (∃ k, k < 961 ∧ ni = nI k) ∧ (∃ k, k < nn ∧ tu = nI k)
def QT (h : ax_H) (s0 n nn gg cc p : Nat) (f : Nat → Int32) (q : Nat) (u b : Nat → Int32) : Prop :=
  (3 ≤ nn ∧ nn ≤ 6 ∧ 1 ≤ gg ∧ gg ≤ 16 ∧ p < nn ∧ s0 < n) ∧ nof f 0 (allN nn) nn 0 0 = nI p ∧ (∃ c, ax_hs h (W0 s0 n nn gg cc f c 1 (allN nn))) ∧ (∃ (ids : List Nat) (ms : List Mg), NTL h n (n + 1) ids ms q u b ∧ ∀ x ∈ ms, PQ p nn x.1) ∧ ∀ j, j < nn → QD h n nn gg p j
theorem W0.lt {s0 n nn gg cc : Nat} {f : Nat → Int32} {c e mh : Int32} (hs : s0 < n) : ∀ q ∈ W0 s0 n nn gg cc f c e mh, q.1 < n ∨ (n + 264 ≤ q.1 ∧ q.1 < n + 329) := by
  intro q hq
  simp only [W0, List.mem_cons, List.not_mem_nil, or_false] at hq
  rcases hq with rfl | rfl | rfl | rfl | rfl <;> dsimp only <;> omega
/-- the part of the store that NODE j and the net have -/
def JA (n j x : Nat) : Prop := NTA n (n + 1) x ∨ (n + 329 + 22 * j ≤ x ∧ x < n + 329 + 22 * j + 22)
theorem QT.upd {h h' : ax_H} {s0 n nn gg cc p q j : Nat} {f u b : Nat → Int32} (hQ : QT h s0 n nn gg cc p f q u b) (hf : ax_fr (JA n j) h h') (hN : ∃ (ids : List Nat) (ms : List Mg), NTL h' n (n + 1) ids ms q u b ∧ ∀ x ∈ ms, PQ p nn x.1) (hD : QD h' n nn gg p j) : QT h' s0 n nn gg cc p f q u b := by
  obtain ⟨hb, hp, ⟨c, hW⟩, hN0, hD0⟩ := hQ
  refine ⟨hb, hp, ⟨c, hW.fr hf (fun z hz hA => ?_)⟩, hN, fun k hk => ?_⟩
  · have := W0.lt hb.2.2.2.2.2 z hz
    rcases hA with hA | hA
    · unfold NTA at hA
      omega
    · omega
  · by_cases e : k = j
    · rw [e]
      exact hD
    · obtain ⟨hd, cl, ni, tu, md, fm, h1, h2⟩ := hD0 k hk
      refine ⟨hd, cl, ni, tu, md, fm, h1.fr hf (fun z hz hA => ?_), h2⟩
      have := QN.lt z hz
      rcases hA with hA | hA
      · unfold NTA at hA
        omega
      · omega
theorem tagsN : ∀ i, i < 280 → ax_fill (fun _ => 0) 0 280 (-1) i < 0 := by
  intro i hi
  rw [show ax_fill (fun _ => 0) 0 280 (-1) i = -1 from if_pos ⟨Nat.zero_le i, hi⟩]
  decide
theorem JA_lt {n nn j x : Nat} (hj : j < nn) (h : JA n j x) : x < n + 329 + 22 * nn := by
  rcases h with h | h
  · unfold NTA at h
    omega
  · omega
/-- sizes as they were, and only the store's own cells written -/
def SZ (m : Nat) (h h' : ax_H) : Prop := h'.1 = h.1 ∧ h'.2.1 = h.2.1 ∧ ax_fr (fun x => x < m) h h'
theorem SZ.rf {m : Nat} {h : ax_H} : SZ m h h := ⟨rfl, rfl, ax_fr.rf⟩
theorem SZ.tr {m : Nat} {a b c : ax_H} (h1 : SZ m a b) (h2 : SZ m b c) : SZ m a c := ⟨h2.1.trans h1.1, h2.2.1.trans h1.2.1, h1.2.2.tr h2.2.2⟩
theorem q_52 {L : Nat} {xs : Nat → Int32} {fr lo s0 n nn gg cc p q : Nat} {h : ax_H} {f u b : Nat → Int32} (hfr : 6 ≤ fr) (hlo : 220 ≤ lo) (hQ : QT h s0 n nn gg cc p f q u b) (hu : PQ p nn u) : ax_M L xs 52 fr lo [.ref s0, .ref (n + 1 + 1 + 2 * q)] h (fun r h' => r = none ∧ QT h' s0 n nn gg cc p f q u b ∧ SZ (n + 329 + 22 * nn) h h') := by
  obtain ⟨hb, hp, ⟨c, hW⟩, ⟨ids, ms, hN, hP⟩, hD⟩ := id hQ
  have hmr := hN.read
  rcases hu with ⟨h3, ⟨h0, h1, j, hj, h2⟩ | ⟨h0, h2, h6, h7⟩⟩
  · obtain ⟨hd, cl, ni, tu, md, fm, hq, hni, htu⟩ := hD j hj
    refine d_52n (Q := fun r h' => r = none ∧ QT h' s0 n nn gg cc p f q u b ∧ SZ (n + 329 + 22 * nn) h h') (by omega) (by omega) (by omega) hj h2 hW (hq.at 0 rfl) hmr.1.1 (ax_A.post (c_55l (by omega) (by omega) (by unfold NTA; omega) (by unfold NTA; omega) (by unfold NTA; omega) tagsN h3 h0 hN (hq.sub [0, 1, 6] rfl rfl)) ?_) (fun v h' z => z.1)
    intro r h' hz
    obtain ⟨ids2, bm, rfl, hN2, hf2, hz1, hz2⟩ := hz
    have hfJ : ax_fr (JA n j) h h' := hf2.mono (fun x hx => Or.inl hx)
    refine ⟨rfl, hQ.upd hfJ ⟨_, _, hN2, pst_all hP (by rw [h1]; exact PQ_listed)⟩ ⟨hd, cl, ni, tu, md, fm, hq.fr hf2 (fun z hz hA => ?_), hni, htu⟩, hz1, hz2, hfJ.mono (fun x hx => JA_lt hj hx)⟩
    have := QN.lt z hz
    unfold NTA at hA
    omega
  · have hj : p < nn := hb.2.2.2.2.1
    obtain ⟨hd, cl, ni, tu, md, fm, hq, hni, htu⟩ := hD p hj
    have hF1 := (hq.sub (F' := [(n + 329 + 22 * p, .inr (7, [.int (nI p), .ref (n + 264), .ref n, .ref (n + 329 + 22 * p + 1), .ref (n + 329 + 22 * p + 7), .ref (n + 329 + 22 * p + 6), .int 1, .int 1, .int (allN nn)])), (n + 329 + 22 * p + 7, .inr (9, [.int (nI p), .ref (n + 264), .ref n, .ref (n + 329 + 22 * p + 10), .ref (n + 329 + 22 * p + 18), .ref (n + 329 + 22 * p + 8), .ref (n + 329 + 22 * p + 9), .int (if p = p then 1 else 0), .int (if p = p then allN nn else 0), .int hd, .int cl, .long 0, .int ni, .int tu, .int md])), (n + 329 + 22 * p + 10, .inr (6, [.int (nI gg), .ref (n + 329 + 22 * p + 11), .ref (n + 329 + 22 * p + 12), .ref (n + 329 + 22 * p + 13), .ref (n + 329 + 22 * p + 14), .ref (n + 329 + 22 * p + 15), .ref (n + 329 + 22 * p + 16), .ref (n + 329 + 22 * p + 17), .long 0, .int 0, .int 0])), (n + 329 + 22 * p + 18, .inr (10, [.ref (n + 329 + 22 * p + 10), .ref (n + 329 + 22 * p + 19), .ref (n + 329 + 22 * p + 21), .int 0, .int (-1), .int 0, .int 0, .int 0, .int 0, .int 0, .int 0, .int 0, .int 0, .int 0, .int 0])), (n + 329 + 22 * p + 8, .inl (0, 16, .inl fm)), (n + 329 + 22 * p + 16, .inl (0, 961, .inl (ax_fill (fun _ => 0) 0 961 (-1))))]) [0, 7, 10, 18, 8, 16] rfl rfl).app (hW.sub (F' := [(n + 264, .inr (3, [.int (nI nn), .int (nI cc), .int (nI gg), .ref (n + 265)])), (n + 265, .inl (0, gg * nn, .inl f))]) [1, 2] rfl rfl) (fun i k x y hx hy e => by
      have h1 := List.mem_of_getElem? hx
      simp only [List.mem_cons, List.not_mem_nil, or_false] at h1
      have h2 := List.mem_of_getElem? hy
      simp at h2
      rcases h1 with rfl | rfl | rfl | rfl | rfl | rfl <;> rcases h2 with rfl | rfl <;> dsimp only at e <;> omega)
    have hF2 := hF1.app (ax_hs1 hmr.1.1) (fun i k x y hx hy e => by
      have h2 := List.mem_of_getElem? hy
      simp at h2
      subst h2
      have h1 := List.mem_of_getElem? hx
      simp only [List.cons_append, List.nil_append, List.mem_cons, List.not_mem_nil, or_false] at h1
      have h3 := hmr.2
      rcases h1 with rfl | rfl | rfl | rfl | rfl | rfl | rfl | rfl <;> dsimp only at e <;> omega)
    refine d_52n (Q := fun r h' => r = none ∧ QT h' s0 n nn gg cc p f q u b ∧ SZ (n + 329 + 22 * nn) h h') (by omega) (by omega) (by omega) hj h2 hW (hq.at 0 rfl) hmr.1.1 (ax_A.post (c_55d (by omega) (by omega) (by omega) (by omega) (by omega) hp (show ax_fill (fun _ => 0) 0 961 (-1) 960 < 0 by decide) h3 h0 h6 h7 hF2) ?_) (fun v h' z => z.1)
    intro r h' hz
    obtain ⟨rfl, rfl⟩ := hz
    have hfL : ax_fr (fun x => x = n + 329 + 22 * p + 7) h _ := ax_fr.rf.put (h0 := h) (c := .inr (9, [.int (nI p), .ref (n + 264), .ref n, .ref (n + 329 + 22 * p + 10), .ref (n + 329 + 22 * p + 18), .ref (n + 329 + 22 * p + 8), .ref (n + 329 + 22 * p + 9), .int (if p = p then 1 else 0), .int (if p = p then allN nn else 0), .int (hd ||| (1 <<< ((u 1) &&& 31))), .int (cl ||| (1 <<< ((u 1) &&& 31))), .long 0, .int ni, .int tu, .int md])) rfl
    have hfJ : ax_fr (JA n p) h _ := hfL.mono (fun x hx => Or.inr (by omega))
    refine ⟨rfl, hQ.upd hfJ ⟨ids, ms, hN.fr hfL (fun x hx hA => ?_), hP⟩ ⟨_, _, ni, tu, md, fm, hq.put 7 _ rfl rfl, hni, htu⟩, rfl, rfl, hfJ.mono (fun x hx => JA_lt hj hx)⟩
    unfold NTA at hx
    omega

/-! the fresh store: each call, in one form -/
theorem Fresh.qt {h : ax_H} {x1 x2 x3 : Int32} {s0 n nn gg cc p : Nat} {f : Nat → Int32} (hFr : Fresh h x1 x2 x3 s0 n nn gg cc p f) : QT h s0 n nn gg cc p f 0 (fun _ => 0) (fun _ => 0) := by
  obtain ⟨⟨hn3, hn6, -⟩, -, ⟨hg1, hg16, -⟩, ⟨hpn, -, hpl, -⟩, hs0, hSW, hak, ⟨ids, ms, hN, hms⟩, hD⟩ := id hFr
  refine ⟨⟨hn3, hn6, hg1, hg16, hpn, hs0⟩, hpl, ⟨0, hSW.sub (F' := W0 s0 n nn gg cc f 0 1 (allN nn)) [0, 1, 2, 3, 4] rfl rfl⟩, ⟨ids, ms, hN, fun x hx => ?_⟩, fun j hj => ?_⟩
  · have hm : x.1 ∈ LST p nn 1 (allN nn) := by
      rw [← hms]
      exact List.mem_map.mpr ⟨x, hx, rfl⟩
    obtain ⟨j, hj, e⟩ := List.mem_map.mp hm
    have hj := List.mem_range'_1.mp hj
    rw [← e]
    exact PQ_list (by omega)
  · obtain ⟨fm, hq⟩ := hD j hj
    exact ⟨_, _, _, _, _, _, hq, ⟨0, by omega, rfl⟩, ⟨0, by omega, rfl⟩⟩
theorem a_37 {L : Nat} {xs : Nat → Int32} {fr lo s0 n nn gg cc p : Nat} {h : ax_H} {f : Nat → Int32} {x1 x2 x3 xa xb xc xd xe : Int32} (hfr : 8 ≤ fr) (hlo : 300 ≤ lo) (hFr : Fresh h x1 x2 x3 s0 n nn gg cc p f) : ax_M L xs 37 fr lo [.ref s0, .int xa, .int xb, .int xc, .int xd, .int xe] h (fun r h' => r = some (.int (nI (0 + 20))) ∧ SZ (n + 329 + 22 * nn) h h') := by
  obtain ⟨⟨hn3, hn6, -⟩, -, ⟨hg1, hg16, -⟩, ⟨hpn, -, hpl, -⟩, hs0, hSW, hak, ⟨ids, ms, hN, hms⟩, hD⟩ := id hFr
  refine ax_A.post (f_37 (l := 0) (by omega) (by omega) (by omega) (hSW.sub [0, 3, 15] rfl rfl) rfl rfl (by have := (ax_g_lt (hSW.at 0 rfl)).2; omega)) (fun r h' hz => ?_)
  obtain ⟨rfl, -, hn, hs, hf⟩ := hz
  exact ⟨rfl, hn, hs, hf.mono (fun x hx => by simp at hx; omega)⟩
theorem a_40 {L : Nat} {xs : Nat → Int32} {fr lo s0 n nn gg cc p : Nat} {h : ax_H} {f : Nat → Int32} {x1 x2 x3 x : Int32} (hfr : 8 ≤ fr) (hlo : 300 ≤ lo) (hFr : Fresh h x1 x2 x3 s0 n nn gg cc p f) : ax_M L xs 40 fr lo [.ref s0, .int x] h (fun r h' => r = some (.int (if x < 0 ∨ ¬ x ≤ 0 then -1 else x)) ∧ SZ (n + 329 + 22 * nn) h h') := by
  obtain ⟨⟨hn3, hn6, -⟩, -, ⟨hg1, hg16, -⟩, ⟨hpn, -, hpl, -⟩, hs0, hSW, hak, ⟨ids, ms, hN, hms⟩, hD⟩ := id hFr
  refine ax_A.post (f_40 (hSW.sub [0, 3] rfl rfl)) (fun r h' hz => ?_)
  rcases hz with ⟨c, rfl, rfl⟩ | ⟨c1, c2, rfl, rfl⟩
  · exact ⟨by rw [if_pos c], SZ.rf⟩
  · exact ⟨by rw [if_neg (fun z => z.elim c1 (fun q => q c2))], rfl, rfl, ax_fr.rf.put (by omega)⟩
theorem a_41 {L : Nat} {xs : Nat → Int32} {fr lo s0 n nn gg cc p : Nat} {h : ax_H} {f : Nat → Int32} {x1 x2 x3 x : Int32} (hfr : 8 ≤ fr) (hlo : 300 ≤ lo) (hFr : Fresh h x1 x2 x3 s0 n nn gg cc p f) : ax_M L xs 41 fr lo [.ref s0, .int x] h (fun r h' => r = some (.int (if x < 0 ∨ 1 < x then -1 else 0)) ∧ SZ (n + 329 + 22 * nn) h h') := by
  obtain ⟨⟨hn3, hn6, -⟩, -, ⟨hg1, hg16, -⟩, ⟨hpn, -, hpl, -⟩, hs0, hSW, hak, ⟨ids, ms, hN, hms⟩, hD⟩ := id hFr
  refine ax_A.post (f_41z (by omega) (by omega) (by have := (ax_g_lt (hSW.at 0 rfl)).2; omega) (hSW.sub [0, 3, 15, 16, 17] rfl rfl)) (fun r h' hz => ?_)
  rcases hz with ⟨c, rfl, rfl⟩ | ⟨c1, c2, rfl, hn, hs, hf⟩
  · exact ⟨by rw [if_pos c], SZ.rf⟩
  · exact ⟨by rw [if_neg (fun z => z.elim c1 c2)], hn, hs, hf.mono (fun x hx => by simp at hx; omega)⟩
theorem a_44 {L : Nat} {xs : Nat → Int32} {fr lo s0 n nn gg cc p : Nat} {h : ax_H} {f : Nat → Int32} {x1 x2 x3 x y z : Int32} (hfr : 8 ≤ fr) (hlo : 300 ≤ lo) (hFr : Fresh h x1 x2 x3 s0 n nn gg cc p f) : ax_M L xs 44 fr lo [.ref s0, .int x, .int y, .int z] h (fun r h' => r = some (.int (if x = 9 then 0 else -1)) ∧ SZ (n + 329 + 22 * nn) h h') := by
  obtain ⟨⟨hn3, hn6, -⟩, -, ⟨hg1, hg16, -⟩, ⟨hpn, -, hpl, -⟩, hs0, hSW, hak, ⟨ids, ms, hN, hms⟩, hD⟩ := id hFr
  have hF1 := (hSW.sub (F' := [(s0, .inr (0, [.ref (n + 264), .ref n, .ref (n + 266), .ref (n + 328), .ref (n + 320), .ref (n + 262), .ref (n + 263), .int 0, .int 0, .int 0, .int 0])), (n + 266, .inr (4, [.ref (n + 264), .ref n, .ref (n + 267), .int 0, .ref (n + 268), .ref (n + 269), .ref (n + 270), .ref (n + 271), .int 0, .int 0, .int 0, .int 0, .int (-1), .int 1, .int (allN nn), .int (allN nn)])), (n + 264, .inr (3, [.int (nI nn), .int (nI cc), .int (nI gg), .ref (n + 265)])), (n + 265, .inl (0, gg * nn, .inl f)), (n + 270, .inl (4, 24, .inr (.inr (.inr (.inr (fun j => if j < 24 then some (n + 272 + 2 * j) else none)))))), (n + 268, .inl (0, 100, .inl (fun _ => 0))), (n + 269, .inl (0, 2, .inl (fun _ => 0)))]) [0, 3, 1, 2, 18, 16, 17] rfl rfl).app (ax_hs.two (h := h) (a := n + 272) (b := n + 273) (hak 0 (by omega)).1 (hak 0 (by omega)).2 (by omega)) (by
    intro i j x y hx hy e
    have h1 := List.mem_of_getElem? hx
    have h2 := List.mem_of_getElem? hy
    simp only [List.mem_cons, List.not_mem_nil, or_false] at h1 h2
    rcases h1 with rfl | rfl | rfl | rfl | rfl | rfl | rfl <;> rcases h2 with rfl | rfl <;> dsimp only at e <;> omega)
  have hF2 := hF1.sub (F' := [(s0, .inr (0, [.ref (n + 264), .ref n, .ref (n + 266), .ref (n + 328), .ref (n + 320), .ref (n + 262), .ref (n + 263), .int 0, .int 0, .int 0, .int 0])), (n + 266, .inr (4, [.ref (n + 264), .ref n, .ref (n + 267), .int 0, .ref (n + 268), .ref (n + 269), .ref (n + 270), .ref (n + 271), .int 0, .int 0, .int 0, .int 0, .int (-1), .int 1, .int (allN nn), .int (allN nn)])), (n + 264, .inr (3, [.int (nI nn), .int (nI cc), .int (nI gg), .ref (n + 265)])), (n + 265, .inl (0, gg * nn, .inl f)), (n + 270, .inl (4, 24, .inr (.inr (.inr (.inr (fun j => if j < 24 then some (n + 272 + 2 * j) else none)))))), (n + 272, .inr (5, [.int 0, .int 0, .int 0, .int 0, .int 0, .int 0, .int 0, .ref (n + 273)])), (n + 273, .inl (0, 612, .inl (fun _ => 0))), (n + 268, .inl (0, 100, .inl (fun _ => 0))), (n + 269, .inl (0, 2, .inl (fun _ => 0)))]) [0, 1, 2, 3, 4, 7, 8, 5, 6] rfl rfl
  refine ax_A.post (f_44z (w := n + 1) (by omega) (by omega) (by omega) (by omega) (by omega) hpn hpl rfl rfl (by unfold NTA; omega) (by unfold NTA; omega) (by unfold NTA; omega) (by unfold NTA; omega) (by unfold NTA; omega) (by unfold NTA; omega) (by unfold NTA; omega) hN hF2 rfl rfl (by have := (ax_g_lt (hSW.at 0 rfl)).2; omega)) (fun r h' hz => ?_)
  rcases hz with ⟨rfl, rfl, hf, hn, hs⟩ | ⟨c1, rfl, rfl⟩
  · exact ⟨by rw [if_pos rfl], hn, hs, hf.mono (fun x hx => by unfold NTA at hx; simp at hx; omega)⟩
  · exact ⟨by rw [if_neg c1], SZ.rf⟩
theorem a_49 {L : Nat} {xs : Nat → Int32} {fr lo s0 n nn gg cc p : Nat} {h : ax_H} {f : Nat → Int32} {x1 x2 x3 x : Int32} (hfr : 8 ≤ fr) (hlo : 300 ≤ lo) (hFr : Fresh h x1 x2 x3 s0 n nn gg cc p f) : ax_M L xs 49 fr lo [.ref s0, .int x] h (fun r h' => r = none ∧ SZ (n + 329 + 22 * nn) h h') := by
  obtain ⟨⟨hn3, hn6, -⟩, -, ⟨hg1, hg16, -⟩, ⟨hpn, -, hpl, -⟩, hs0, hSW, hak, ⟨ids, ms, hN, hms⟩, hD⟩ := id hFr
  exact q_49 (by omega) (by omega) hFr.qt
theorem a_129 {L : Nat} {xs : Nat → Int32} {fr lo s0 n nn gg cc p : Nat} {h : ax_H} {f : Nat → Int32} {x1 x2 x3 x : Int32} (hfr : 8 ≤ fr) (hlo : 300 ≤ lo) (hFr : Fresh h x1 x2 x3 s0 n nn gg cc p f) : ax_M L xs 129 fr lo [.ref s0, .int x] h (fun r h' => r = none ∧ SZ (n + 329 + 22 * nn) h h') := by
  obtain ⟨⟨hn3, hn6, -⟩, -, ⟨hg1, hg16, -⟩, ⟨hpn, -, hpl, -⟩, hs0, hSW, hak, ⟨ids, ms, hN, hms⟩, hD⟩ := id hFr
  exact q_129 (by omega) (by omega) hFr.qt
theorem a_130 {L : Nat} {xs : Nat → Int32} {fr lo s0 n nn gg cc p : Nat} {h : ax_H} {f : Nat → Int32} {x1 x2 x3 x : Int32} (hfr : 8 ≤ fr) (hlo : 300 ≤ lo) (hFr : Fresh h x1 x2 x3 s0 n nn gg cc p f) : ax_M L xs 130 fr lo [.ref s0, .int x] h (fun r h' => r = none ∧ SZ (n + 329 + 22 * nn) h h') := by
  obtain ⟨⟨hn3, hn6, -⟩, -, ⟨hg1, hg16, -⟩, ⟨hpn, -, hpl, -⟩, hs0, hSW, hak, ⟨ids, ms, hN, hms⟩, hD⟩ := id hFr
  exact q_130 (by omega) (by omega) hFr.qt
theorem a_131 {L : Nat} {xs : Nat → Int32} {fr lo s0 n nn gg cc p : Nat} {h : ax_H} {f : Nat → Int32} {x1 x2 x3 x y : Int32} (hfr : 8 ≤ fr) (hlo : 300 ≤ lo) (hFr : Fresh h x1 x2 x3 s0 n nn gg cc p f) : ax_M L xs 131 fr lo [.ref s0, .int x, .int y] h (fun r h' => r = some (.int (if x < 1 ∨ ¬ x ≤ 500 then -1 else x)) ∧ SZ (n + 329 + 22 * nn) h h') := by
  obtain ⟨⟨hn3, hn6, -⟩, -, ⟨hg1, hg16, -⟩, ⟨hpn, -, hpl, -⟩, hs0, hSW, hak, ⟨ids, ms, hN, hms⟩, hD⟩ := id hFr
  refine ax_A.post (q_131 (by omega) (by omega) hFr.qt) (fun r h' hz => ?_)
  rcases hz with ⟨c, rfl, hZ⟩ | ⟨c1, c2, rfl, hZ⟩
  · exact ⟨by rw [if_pos c], hZ⟩
  · exact ⟨by rw [if_neg (fun z => z.elim c1 (fun q => q c2))], hZ⟩
theorem a_132 {L : Nat} {xs : Nat → Int32} {fr lo s0 n nn gg cc p : Nat} {h : ax_H} {f : Nat → Int32} {x1 x2 x3 x : Int32} (hfr : 8 ≤ fr) (hlo : 300 ≤ lo) (hFr : Fresh h x1 x2 x3 s0 n nn gg cc p f) : ax_M L xs 132 fr lo [.ref s0, .int x] h (fun r h' => r = some (.int (if x < 1 ∨ ¬ x ≤ 50 then -1 else x)) ∧ SZ (n + 329 + 22 * nn) h h') := by
  obtain ⟨⟨hn3, hn6, -⟩, -, ⟨hg1, hg16, -⟩, ⟨hpn, -, hpl, -⟩, hs0, hSW, hak, ⟨ids, ms, hN, hms⟩, hD⟩ := id hFr
  refine ax_A.post (q_132 (by omega) (by omega) hFr.qt) (fun r h' hz => ?_)
  rcases hz with ⟨c, rfl, hZ⟩ | ⟨c1, c2, rfl, hZ⟩
  · exact ⟨by rw [if_pos c], hZ⟩
  · exact ⟨by rw [if_neg (fun z => z.elim c1 (fun q => q c2))], hZ⟩
theorem a_141 {L : Nat} {xs : Nat → Int32} {fr lo s0 n nn gg cc p : Nat} {h : ax_H} {f : Nat → Int32} {x1 x2 x3 x y z : Int32} (hfr : 8 ≤ fr) (hlo : 300 ≤ lo) (hFr : Fresh h x1 x2 x3 s0 n nn gg cc p f) : ax_M L xs 141 fr lo [.ref s0, .int x, .int y, .int z] h (fun r h' => r = some (.int (if x < 0 ∨ nI nn ≤ x then 0 else 1)) ∧ SZ (n + 329 + 22 * nn) h h') := by
  obtain ⟨⟨hn3, hn6, -⟩, -, ⟨hg1, hg16, -⟩, ⟨hpn, -, hpl, -⟩, hs0, hSW, hak, ⟨ids, ms, hN, hms⟩, hD⟩ := id hFr
  by_cases hx : x < 0 ∨ nI nn ≤ x
  · refine ax_A.post (f_141n (nb := n + 329) hx (hSW.sub [0, 4] rfl rfl)) (fun r h' hz => ?_)
    obtain ⟨rfl, rfl⟩ := hz
    exact ⟨by rw [if_pos hx], SZ.rf⟩
  · obtain ⟨j, hj0, rfl⟩ := nI_of (x := x) (fun z => hx (Or.inl z))
    have hj : j < nn := (nI_ltI hj0 (by omega)).mp (Int32.not_le.mp (fun z => hx (Or.inr z)))
    obtain ⟨fm, hq⟩ := hD j hj
    have hF1 := (hSW.sub (F' := [(s0, .inr (0, [.ref (n + 264), .ref n, .ref (n + 266), .ref (n + 328), .ref (n + 320), .ref (n + 262), .ref (n + 263), .int 0, .int 0, .int 0, .int 0])), (n + 328, .inl (5, nn, .inr (.inr (.inr (.inr (fun j => if j < nn then some (n + 329 + 22 * j) else none))))))]) [0, 4] rfl rfl).app (hq.sub (F' := [(n + 329 + 22 * j, .inr (7, [.int (nI j), .ref (n + 264), .ref n, .ref (n + 329 + 22 * j + 1), .ref (n + 329 + 22 * j + 7), .ref (n + 329 + 22 * j + 6), .int 1, .int 1, .int (allN nn)])), (n + 329 + 22 * j + 1, .inr (8, [.ref (n + 329 + 22 * j + 2), .ref (n + 329 + 22 * j + 3), .ref (n + 329 + 22 * j + 4), .ref (n + 329 + 22 * j + 5), .int 0])), (n + 329 + 22 * j + 6, .inl (0, 280, .inl (ax_fill (fun _ => 0) 0 280 (-1)))), (n + 329 + 22 * j + 7, .inr (9, [.int (nI j), .ref (n + 264), .ref n, .ref (n + 329 + 22 * j + 10), .ref (n + 329 + 22 * j + 18), .ref (n + 329 + 22 * j + 8), .ref (n + 329 + 22 * j + 9), .int (if j = p then 1 else 0), .int (if j = p then allN nn else 0), .int 0, .int 0, .long 0, .int 0, .int 0, .int 0])), (n + 329 + 22 * j + 10, .inr (6, [.int (nI gg), .ref (n + 329 + 22 * j + 11), .ref (n + 329 + 22 * j + 12), .ref (n + 329 + 22 * j + 13), .ref (n + 329 + 22 * j + 14), .ref (n + 329 + 22 * j + 15), .ref (n + 329 + 22 * j + 16), .ref (n + 329 + 22 * j + 17), .long 0, .int 0, .int 0])), (n + 329 + 22 * j + 18, .inr (10, [.ref (n + 329 + 22 * j + 10), .ref (n + 329 + 22 * j + 19), .ref (n + 329 + 22 * j + 21), .int 0, .int (-1), .int 0, .int 0, .int 0, .int 0, .int 0, .int 0, .int 0, .int 0, .int 0, .int 0])), (n + 329 + 22 * j + 11, .inl (0, 48, .inl (ax_fill (fun _ => 0) 0 48 (-1)))), (n + 329 + 22 * j + 12, .inl (0, 48, .inl (ax_fill (fun _ => 0) 0 48 0))), (n + 329 + 22 * j + 15, .inl (0, 512, .inl (ax_fill (fun _ => 0) 0 512 (-1)))), (n + 329 + 22 * j + 16, .inl (0, 961, .inl (ax_fill (fun _ => 0) 0 961 (-1)))), (n + 329 + 22 * j + 17, .inl (0, 961, .inl (ax_fill (fun _ => 0) 0 961 0)))]) [0, 1, 6, 7, 10, 18, 11, 12, 15, 16, 17] rfl rfl) (by
      intro i k x y hx hy e
      have h1 := List.mem_of_getElem? hx
      have h2 := List.mem_of_getElem? hy
      simp only [List.mem_cons, List.not_mem_nil, or_false] at h1 h2
      rcases h1 with rfl | rfl <;> rcases h2 with rfl | rfl | rfl | rfl | rfl | rfl | rfl | rfl | rfl | rfl | rfl <;> dsimp only at e <;> omega)
    refine ax_A.post (f_141y (up := 1) (nb := n + 329) (by omega) (by omega) (by omega) hj hF1 rfl rfl (by have := (ax_g_lt (hSW.at 0 rfl)).2; omega)) (fun r h' hz => ?_)
    obtain ⟨rfl, hf, hn, hs⟩ := hz
    exact ⟨by rw [if_neg hx], hn, hs, hf.mono (fun x hx => by simp at hx; omega)⟩
theorem a_144 {L : Nat} {xs : Nat → Int32} {fr lo s0 n nn gg cc p : Nat} {h : ax_H} {f : Nat → Int32} {x1 x2 x3 x : Int32} (hfr : 8 ≤ fr) (hlo : 300 ≤ lo) (hFr : Fresh h x1 x2 x3 s0 n nn gg cc p f) : ax_M L xs 144 fr lo [.ref s0, .int x] h (fun r h' => r = some (.int 0) ∧ SZ (n + 329 + 22 * nn) h h') := by
  obtain ⟨⟨hn3, hn6, -⟩, -, ⟨hg1, hg16, -⟩, ⟨hpn, -, hpl, -⟩, hs0, hSW, hak, ⟨ids, ms, hN, hms⟩, hD⟩ := id hFr
  refine ax_A.post (f_144 (nb := n + 329) (fun j hj => (let ⟨fm, hq⟩ := hD j hj; ⟨_, hq.at 0 rfl, rfl⟩)) (by omega) (hSW.sub [0, 4] rfl rfl)) (fun r h' hz => ?_)
  obtain ⟨rfl, rfl⟩ := hz
  exact ⟨rfl, SZ.rf⟩
theorem a_145 {L : Nat} {xs : Nat → Int32} {fr lo s0 n nn gg cc p : Nat} {h : ax_H} {f : Nat → Int32} {x1 x2 x3 x : Int32} (hfr : 8 ≤ fr) (hlo : 300 ≤ lo) (hFr : Fresh h x1 x2 x3 s0 n nn gg cc p f) : ax_M L xs 145 fr lo [.ref s0, .int x] h (fun r h' => r = some (.int (1 + 1)) ∧ SZ (n + 329 + 22 * nn) h h') := by
  obtain ⟨⟨hn3, hn6, -⟩, -, ⟨hg1, hg16, -⟩, ⟨hpn, -, hpl, -⟩, hs0, hSW, hak, ⟨ids, ms, hN, hms⟩, hD⟩ := id hFr
  have hidl : ids.length = nn := by
    have e1 := congrArg List.length hms
    rw [List.length_map] at e1
    have e2 : (LST p nn 1 (allN nn)).length = nn := by unfold LST; rw [List.length_map, List.length_range']
    have := hN.len.1
    omega
  refine ax_A.post (f_145 (w := n + 1) (by omega) (by omega) (by omega) (by unfold NTA; omega) (by unfold NTA; omega) (by unfold NTA; omega) (by omega) hN (hSW.sub [0, 1, 3] rfl rfl) rfl rfl (by have := (ax_g_lt (hSW.at 0 rfl)).2; omega)) (fun r h' hz => ?_)
  obtain ⟨rfl, hf, hn, hs⟩ := hz
  exact ⟨rfl, hn, hs, hf.mono (fun x hx => by unfold NTA at hx; simp at hx; omega)⟩
theorem a_148 {L : Nat} {xs : Nat → Int32} {fr lo s0 n nn gg cc p : Nat} {h : ax_H} {f : Nat → Int32} {x1 x2 x3 x : Int32} (hfr : 8 ≤ fr) (hlo : 300 ≤ lo) (hFr : Fresh h x1 x2 x3 s0 n nn gg cc p f) : ax_M L xs 148 fr lo [.ref s0, .int x] h (fun r h' => r = some (.int 0) ∧ SZ (n + 329 + 22 * nn) h h') := by
  obtain ⟨⟨hn3, hn6, -⟩, -, ⟨hg1, hg16, -⟩, ⟨hpn, -, hpl, -⟩, hs0, hSW, hak, ⟨ids, ms, hN, hms⟩, hD⟩ := id hFr
  refine ax_A.post (f_148 (nb := n + 329) (fun j hj => (let ⟨fm, hq⟩ := hD j hj; ⟨_, hq.at 0 rfl, rfl⟩)) (by omega) (hSW.sub [0, 4] rfl rfl)) (fun r h' hz => ?_)
  obtain ⟨rfl, rfl⟩ := hz
  exact ⟨rfl, SZ.rf⟩
theorem a_150 {L : Nat} {xs : Nat → Int32} {fr lo s0 n nn gg cc p : Nat} {h : ax_H} {f : Nat → Int32} {x1 x2 x3 : Int32} (hfr : 8 ≤ fr) (hlo : 300 ≤ lo) (hFr : Fresh h x1 x2 x3 s0 n nn gg cc p f) : ax_M L xs 150 fr lo [.ref s0] h (fun r h' => r = some (.int 0) ∧ SZ (n + 329 + 22 * nn) h h') := by
  obtain ⟨⟨hn3, hn6, -⟩, -, ⟨hg1, hg16, -⟩, ⟨hpn, -, hpl, -⟩, hs0, hSW, hak, ⟨ids, ms, hN, hms⟩, hD⟩ := id hFr
  exact f_150 (by omega) (by omega) hFr
theorem a_160 {L : Nat} {xs : Nat → Int32} {fr lo s0 n nn gg cc p : Nat} {h : ax_H} {f : Nat → Int32} {x1 x2 x3 x : Int32} (hfr : 8 ≤ fr) (hlo : 300 ≤ lo) (hFr : Fresh h x1 x2 x3 s0 n nn gg cc p f) : ax_M L xs 160 fr lo [.ref s0, .int x] h (fun r h' => r = some (.int (-1)) ∧ SZ (n + 329 + 22 * nn) h h') := by
  obtain ⟨⟨hn3, hn6, -⟩, -, ⟨hg1, hg16, -⟩, ⟨hpn, -, hpl, -⟩, hs0, hSW, hak, ⟨ids, ms, hN, hms⟩, hD⟩ := id hFr
  refine ax_A.post (f_160 (hSW.sub [0, 3] rfl rfl)) (fun r h' hz => ?_)
  obtain ⟨rfl, rfl⟩ := hz
  exact ⟨rfl, SZ.rf⟩
theorem a_161 {L : Nat} {xs : Nat → Int32} {fr lo s0 n nn gg cc p : Nat} {h : ax_H} {f : Nat → Int32} {x1 x2 x3 x y : Int32} (hfr : 8 ≤ fr) (hlo : 300 ≤ lo) (hFr : Fresh h x1 x2 x3 s0 n nn gg cc p f) : ax_M L xs 161 fr lo [.ref s0, .int x, .int y] h (fun r h' => r = some (.int (-2)) ∧ SZ (n + 329 + 22 * nn) h h') := by
  obtain ⟨⟨hn3, hn6, -⟩, -, ⟨hg1, hg16, -⟩, ⟨hpn, -, hpl, -⟩, hs0, hSW, hak, ⟨ids, ms, hN, hms⟩, hD⟩ := id hFr
  refine ax_A.post (f_161 (hSW.sub [0, 3] rfl rfl)) (fun r h' hz => ?_)
  obtain ⟨rfl, rfl⟩ := hz
  exact ⟨rfl, SZ.rf⟩
theorem a_163 {L : Nat} {xs : Nat → Int32} {fr lo s0 n nn gg cc p : Nat} {h : ax_H} {f : Nat → Int32} {x1 x2 x3 x y : Int32} (hfr : 8 ≤ fr) (hlo : 300 ≤ lo) (hFr : Fresh h x1 x2 x3 s0 n nn gg cc p f) : ax_M L xs 163 fr lo [.ref s0, .int x, .int y] h (fun r h' => r = some (.int (if y < 0 ∨ ¬ y ≤ 3 then -1 else -6)) ∧ SZ (n + 329 + 22 * nn) h h') := by
  obtain ⟨⟨hn3, hn6, -⟩, -, ⟨hg1, hg16, -⟩, ⟨hpn, -, hpl, -⟩, hs0, hSW, hak, ⟨ids, ms, hN, hms⟩, hD⟩ := id hFr
  refine ax_A.post (f_163 (hSW.sub [0] rfl rfl)) (fun r h' hz => ?_)
  rcases hz with ⟨c, rfl, rfl⟩ | ⟨c1, c2, rfl, rfl⟩
  · exact ⟨by rw [if_pos c], SZ.rf⟩
  · exact ⟨by rw [if_neg (fun z => z.elim c1 (fun q => q c2))], SZ.rf⟩
theorem a_164 {L : Nat} {xs : Nat → Int32} {fr lo s0 n nn gg cc p : Nat} {h : ax_H} {f : Nat → Int32} {x1 x2 x3 x y z : Int32} (hfr : 8 ≤ fr) (hlo : 300 ≤ lo) (hFr : Fresh h x1 x2 x3 s0 n nn gg cc p f) : ax_M L xs 164 fr lo [.ref s0, .int x, .int y, .int z] h (fun r h' => r = some (.int (-6)) ∧ SZ (n + 329 + 22 * nn) h h') := by
  obtain ⟨⟨hn3, hn6, -⟩, -, ⟨hg1, hg16, -⟩, ⟨hpn, -, hpl, -⟩, hs0, hSW, hak, ⟨ids, ms, hN, hms⟩, hD⟩ := id hFr
  refine ax_A.post (f_164 (hSW.sub [0] rfl rfl)) (fun r h' hz => ?_)
  obtain ⟨rfl, rfl⟩ := hz
  exact ⟨rfl, SZ.rf⟩
theorem a_166 {L : Nat} {xs : Nat → Int32} {fr lo s0 n nn gg cc p : Nat} {h : ax_H} {f : Nat → Int32} {x1 x2 x3 x y z v0 : Int32} (hfr : 8 ≤ fr) (hlo : 300 ≤ lo) (hFr : Fresh h x1 x2 x3 s0 n nn gg cc p f) : ax_M L xs 166 fr lo [.ref s0, .int x, .int y, .int z, .int v0] h (fun r h' => r = some (.int (-6)) ∧ SZ (n + 329 + 22 * nn) h h') := by
  obtain ⟨⟨hn3, hn6, -⟩, -, ⟨hg1, hg16, -⟩, ⟨hpn, -, hpl, -⟩, hs0, hSW, hak, ⟨ids, ms, hN, hms⟩, hD⟩ := id hFr
  refine ax_A.post (f_166 (by omega) (by omega) (hSW.sub [0] rfl rfl)) (fun r h' hz => ?_)
  obtain ⟨rfl, rfl⟩ := hz
  exact ⟨rfl, SZ.rf⟩
theorem a_167 {L : Nat} {xs : Nat → Int32} {fr lo s0 n nn gg cc p : Nat} {h : ax_H} {f : Nat → Int32} {x1 x2 x3 x : Int32} (hfr : 8 ≤ fr) (hlo : 300 ≤ lo) (hFr : Fresh h x1 x2 x3 s0 n nn gg cc p f) : ax_M L xs 167 fr lo [.ref s0, .int x] h (fun r h' => r = some (.int (if x < 0 ∨ ¬ x < nI nn then -1 else -6)) ∧ SZ (n + 329 + 22 * nn) h h') := by
  obtain ⟨⟨hn3, hn6, -⟩, -, ⟨hg1, hg16, -⟩, ⟨hpn, -, hpl, -⟩, hs0, hSW, hak, ⟨ids, ms, hN, hms⟩, hD⟩ := id hFr
  refine ax_A.post (f_167 (hSW.sub [0, 4] rfl rfl)) (fun r h' hz => ?_)
  rcases hz with ⟨c, rfl, rfl⟩ | ⟨c1, c2, rfl, rfl⟩
  · exact ⟨by rw [if_pos c], SZ.rf⟩
  · exact ⟨by rw [if_neg (fun z => z.elim c1 (fun q => q c2))], SZ.rf⟩
theorem a_169 {L : Nat} {xs : Nat → Int32} {fr lo s0 n nn gg cc p : Nat} {h : ax_H} {f : Nat → Int32} {x1 x2 x3 : Int32} (hfr : 8 ≤ fr) (hlo : 300 ≤ lo) (hFr : Fresh h x1 x2 x3 s0 n nn gg cc p f) : ax_M L xs 169 fr lo [.ref s0] h (fun r h' => r = some (.int (-6)) ∧ SZ (n + 329 + 22 * nn) h h') := by
  obtain ⟨⟨hn3, hn6, -⟩, -, ⟨hg1, hg16, -⟩, ⟨hpn, -, hpl, -⟩, hs0, hSW, hak, ⟨ids, ms, hN, hms⟩, hD⟩ := id hFr
  refine ax_A.post (f_169 (hSW.sub [0] rfl rfl)) (fun r h' hz => ?_)
  obtain ⟨rfl, rfl⟩ := hz
  exact ⟨rfl, SZ.rf⟩
theorem a_172 {L : Nat} {xs : Nat → Int32} {fr lo s0 n nn gg cc p : Nat} {h : ax_H} {f : Nat → Int32} {x1 x2 x3 x : Int32} (hfr : 8 ≤ fr) (hlo : 300 ≤ lo) (hFr : Fresh h x1 x2 x3 s0 n nn gg cc p f) : ax_M L xs 172 fr lo [.ref s0, .int x] h (fun r h' => r = some (.int (cntA nn x)) ∧ SZ (n + 329 + 22 * nn) h h') := by
  obtain ⟨⟨hn3, hn6, -⟩, -, ⟨hg1, hg16, -⟩, ⟨hpn, -, hpl, -⟩, hs0, hSW, hak, ⟨ids, ms, hN, hms⟩, hD⟩ := id hFr
  refine ax_A.post (f_172 (by omega) (by omega) hFr) (fun r h' hz => ?_)
  obtain ⟨rfl, rfl⟩ := hz
  exact ⟨rfl, SZ.rf⟩

/-! settle of the fresh store: its beginning -/
theorem Iv.ini {p nn : Nat} (h6 : nn ≤ 6) (hp : p < nn) : Iv p nn 1 0 0 (LST p nn 1 (allN nn) ++ (List.range' 0 nn).map (fun n => mg 0 (nI nn) (nI n) (1 + 1) (allN nn))) ∧ mea nn 1 (LST p nn 1 (allN nn) ++ (List.range' 0 nn).map (fun n => mg 0 (nI nn) (nI n) (1 + 1) (allN nn))) ≤ 36 := by
  have hM : ∀ j, j < nn → mg 0 (nI nn) (nI j) (1 + 1) (allN nn) ∈ LST p nn 1 (allN nn) ++ (List.range' 0 nn).map (fun n => mg 0 (nI nn) (nI n) (1 + 1) (allN nn)) := fun j hj => List.mem_append_right _ (List.mem_map.mpr ⟨j, List.mem_range'_1.mpr ⟨by omega, by omega⟩, rfl⟩)
  have hi : ∀ j, iM nn j (mg 0 (nI nn) (nI j) (1 + 1) (allN nn)) := fun j => ⟨rfl, rfl, (by decide : (1 : Int32) + 1 = 2), rfl⟩
  refine ⟨⟨fun u hu => ?_, fun j hj => Or.inl ⟨_, hM j hj, hi j⟩, fun _ => ⟨_, hM p hp, hi p⟩, fun e => absurd e (by decide), Or.inl rfl, Nat.two_pow_pos nn, Nat.two_pow_pos nn⟩, ?_⟩
  · rcases List.mem_append.mp hu with hu | hu
    · obtain ⟨j, hj, rfl⟩ := List.mem_map.mp hu
      have hj := List.mem_range'_1.mp hj
      exact ⟨j, by omega, Or.inr (Or.inr ⟨1, Or.inl rfl, fun z => absurd z (by decide), Or.inl ⟨rfl, rfl, rfl, rfl, rfl⟩⟩)⟩
    · obtain ⟨j, hj, rfl⟩ := List.mem_map.mp hu
      have hj := List.mem_range'_1.mp hj
      exact ⟨j, by omega, Or.inl (hi j)⟩
  · have k1 : ∀ (k i : Nat), (((List.range' i k).map (fun n => mg 4 (nI p) (nI n) 1 (allN nn))).map wt).sum = 2 * k := by
      intro k
      induction k with
      | zero =>
        intro i
        rfl
      | succ k ih =>
        intro i
        rw [List.range'_succ, List.map_cons, List.map_cons, List.sum_cons, ih]
        have e : wt (mg 4 (nI p) (nI i) 1 (allN nn)) = 2 := if_pos (Or.inr rfl)
        rw [e]
        omega
    have k2 : ∀ (k i : Nat), (((List.range' i k).map (fun n => mg 0 (nI nn) (nI n) (1 + 1) (allN nn))).map wt).sum = 2 * k := by
      intro k
      induction k with
      | zero =>
        intro i
        rfl
      | succ k ih =>
        intro i
        rw [List.range'_succ, List.map_cons, List.map_cons, List.sum_cons, ih]
        have e : wt (mg 0 (nI nn) (nI i) (1 + 1) (allN nn)) = 2 := if_pos (Or.inl rfl)
        rw [e]
        omega
    rw [mea_app, k2]
    unfold mea LST
    rw [k1, if_pos rfl]
    omega
theorem f_150 {L : Nat} {xs : Nat → Int32} {fr lo s0 n nn gg cc p : Nat} {h : ax_H} {f : Nat → Int32} {x1 x2 x3 : Int32} (hfr : 8 ≤ fr) (hlo : 300 ≤ lo) (hFr : Fresh h x1 x2 x3 s0 n nn gg cc p f) : ax_M L xs 150 fr lo [.ref s0] h (fun r h' => r = some (.int 0) ∧ SZ (n + 329 + 22 * nn) h h') := by
  obtain ⟨⟨hn3, hn6, -⟩, -, ⟨hg1, hg16, -⟩, ⟨hpn, -, hpl, -⟩, hs0, hSW, hak, ⟨ids, ms, hN, hms⟩, hD⟩ := hFr
  have hF : ax_hs h [(s0, .inr (0, [.ref (n + 264), .ref n, .ref (n + 266), .ref (n + 328), .ref (n + 320), .ref (n + 262), .ref (n + 263), .int 0, .int 0, .int 0, .int 0])), (n + 264, .inr (3, [.int (nI nn), .int (nI cc), .int (nI gg), .ref (n + 265)])), (n + 265, .inl (0, gg * nn, .inl f)), (n + 266, .inr (4, [.ref (n + 264), .ref n, .ref (n + 267), .int 0, .ref (n + 268), .ref (n + 269), .ref (n + 270), .ref (n + 271), .int 0, .int 0, .int 0, .int 0, .int (-1), .int 1, .int (allN nn), .int (allN nn)])), (n + 328, .inl (5, nn, .inr (.inr (.inr (.inr (fun j => if j < nn then some (n + 329 + 22 * j) else none))))))] := hSW.sub [0, 1, 2, 3, 4] rfl rfl
  have hidl : ids.length = nn := by
    have e1 := congrArg List.length hms
    rw [List.length_map] at e1
    have e2 : (LST p nn 1 (allN nn)).length = nn := by unfold LST; rw [List.length_map, List.length_range']
    have := hN.len.1
    omega
  obtain ⟨nh, hn⟩ : ∃ z, h.1 = z := ⟨_, rfl⟩
  obtain ⟨sl, hs⟩ : ∃ z, h.2.1 = z := ⟨_, rfl⟩
  have hn0 : 0 < nh := by
    have := (ax_g_lt (hF.at 0 rfl)).2
    omega
  show ax_A (ax_step L xs) ((150, 0, fr, lo), [(0, .ref s0)], [], h) _
  have hbase : h.1 = nh := hn
  have hbasl : h.2.1 = sl := hs
  have hf : ax_fr (fun x => x ∈ [s0]) h h := ax_fr.rf
  refine ar_aload_n 1 d_150_0 rfl rfl ?_
  refine ar_iconst 2 (v := 0) d_150_1 rfl (by decide) ?_
  refine ar_putf 5 [.ref (n + 264), .ref n, .ref (n + 266), .ref (n + 328), .ref (n + 320), .ref (n + 262), .ref (n + 263), .int 0, .int 0, .int 0, .int 0] d_150_2 rfl (ci := 0) (k := 10) rfl rfl (hF.at 0 rfl) (Nat.le_of_ble_eq_true rfl) rfl rfl rfl ?_
  replace hF : ax_hs (ax_put h s0 (.inr (0, [.ref (n + 264), .ref n, .ref (n + 266), .ref (n + 328), .ref (n + 320), .ref (n + 262), .ref (n + 263), .int 0, .int 0, .int 0, .int 0]))) [(s0, .inr (0, [.ref (n + 264), .ref n, .ref (n + 266), .ref (n + 328), .ref (n + 320), .ref (n + 262), .ref (n + 263), .int 0, .int 0, .int 0, .int 0])), (n + 264, .inr (3, [.int (nI nn), .int (nI cc), .int (nI gg), .ref (n + 265)])), (n + 265, .inl (0, gg * nn, .inl f)), (n + 266, .inr (4, [.ref (n + 264), .ref n, .ref (n + 267), .int 0, .ref (n + 268), .ref (n + 269), .ref (n + 270), .ref (n + 271), .int 0, .int 0, .int 0, .int 0, .int (-1), .int 1, .int (allN nn), .int (allN nn)])), (n + 328, .inl (5, nn, .inr (.inr (.inr (.inr (fun j => if j < nn then some (n + 329 + 22 * j) else none))))))] := hF.put 0 _ rfl rfl
  replace hf := hf.put (a := s0) (c := .inr (0, [.ref (n + 264), .ref n, .ref (n + 266), .ref (n + 328), .ref (n + 320), .ref (n + 262), .ref (n + 263), .int 0, .int 0, .int 0, .int 0])) (by simp)
  replace hn : (ax_put h s0 (.inr (0, [.ref (n + 264), .ref n, .ref (n + 266), .ref (n + 328), .ref (n + 320), .ref (n + 262), .ref (n + 263), .int 0, .int 0, .int 0, .int 0]))).1 = nh := hn
  replace hs : (ax_put h s0 (.inr (0, [.ref (n + 264), .ref n, .ref (n + 266), .ref (n + 328), .ref (n + 320), .ref (n + 262), .ref (n + 263), .int 0, .int 0, .int 0, .int 0]))).2.1 = sl := hs
  generalize ax_put h s0 (.inr (0, [.ref (n + 264), .ref n, .ref (n + 266), .ref (n + 328), .ref (n + 320), .ref (n + 262), .ref (n + 263), .int 0, .int 0, .int 0, .int 0])) = h1 at hF hf hn hs ⊢
  refine ar_aload_n 6 d_150_5 rfl rfl ?_
  refine ar_getf 9 d_150_6 rfl (ci := 0) (k := 2) rfl (hF.at 0 rfl) rfl ?_
  refine ar_getf 12 d_150_9 rfl (ci := 4) (k := 8) rfl (hF.at 3 rfl) rfl ?_
  refine ar_aload_n 13 d_150_12 rfl rfl ?_
  refine ar_getf 16 d_150_13 rfl (ci := 0) (k := 2) rfl (hF.at 0 rfl) rfl ?_
  refine ar_getf 19 d_150_16 rfl (ci := 4) (k := 10) rfl (hF.at 3 rfl) rfl ?_
  refine ar_isub 20 d_150_19 rfl ?_
  refine ar_top (x' := 0) (by decide) ?_
  refine ar_istore_n 21 [(0, .ref s0), (1, .int 0)] d_150_20 rfl (by decide) rfl ?_
  refine ar_aload_n 22 d_150_21 rfl rfl ?_
  refine ar_getf 25 d_150_22 rfl (ci := 0) (k := 2) rfl (hF.at 0 rfl) rfl ?_
  refine ar_aload_n 26 d_150_25 rfl rfl ?_
  refine ar_call (r := [.ref (n + 266)]) (na := 0) (kd := 0) (cm := 146) (fr2 := fr - 1) (lo2 := lo - 20) 29 d_150_26 (ar_hoV (as := []) rfl rfl rfl (hF.at 0 rfl)) rfl (by omega) (show lo - 20 + (19 + 1) = lo by omega) (Nat.le_of_ble_eq_true rfl) (Nat.le_of_ble_eq_true rfl) (c_146 (hF.sub (F' := [(s0, .inr (0, [.ref (n + 264), .ref n, .ref (n + 266), .ref (n + 328), .ref (n + 320), .ref (n + 262), .ref (n + 263), .int 0, .int 0, .int 0, .int 0])), (n + 264, .inr (3, [.int (nI nn), .int (nI cc), .int (nI gg), .ref (n + 265)]))]) [0, 1] rfl rfl)) ?_
  intro v hh hq
  obtain ⟨rfl, ehh⟩ := hq
  rw [ehh]
  clear ehh
  have hN1 := hN.fr hf (by intro x hx hB; simp at hB; subst hB; unfold NTA at hx; omega)
  refine ar_call (r := []) (na := 0) (kd := 0) (cm := 147) (fr2 := fr - 1) (lo2 := lo - 21) 32 d_150_29 (ar_hoV (as := [.int (allN nn)]) rfl rfl rfl (hF.at 3 rfl)) rfl (by omega) (show lo - 21 + (19 + 2) = lo by omega) (Nat.le_of_ble_eq_true rfl) (Nat.le_of_ble_eq_true rfl) (c_147L (by omega) (by omega) (by omega) (by unfold NTA; omega) (by unfold NTA; omega) (by omega) hN1 (hF.sub (F' := [(n + 266, .inr (4, [.ref (n + 264), .ref n, .ref (n + 267), .int 0, .ref (n + 268), .ref (n + 269), .ref (n + 270), .ref (n + 271), .int 0, .int 0, .int 0, .int 0, .int (-1), .int 1, .int (allN nn), .int (allN nn)])), (n + 264, .inr (3, [.int (nI nn), .int (nI cc), .int (nI gg), .ref (n + 265)]))]) [3, 1] rfl rfl) hn hs (by omega)) ?_
  intro v h9 hq
  obtain ⟨ids', ms', rfl, qF, hN2, hms2, qf, qn, qs⟩ := hq
  have hfT : ax_fr (fun x => NTA n (n + 1) x ∨ x = s0 ∨ x = n + 266) h h9 := (hf.mono (fun x hx => Or.inr (Or.inl (by simpa using hx)))).tr (qf.mono (fun x hx => hx.imp id (fun z => Or.inr (by simpa using z))))
  have hR : ax_hs h9 [(s0, .inr (0, [.ref (n + 264), .ref n, .ref (n + 266), .ref (n + 328), .ref (n + 320), .ref (n + 262), .ref (n + 263), .int 0, .int 0, .int 0, .int 0])), (n + 265, .inl (0, gg * nn, .inl f)), (n + 328, .inl (5, nn, .inr (.inr (.inr (.inr (fun j => if j < nn then some (n + 329 + 22 * j) else none))))))] := (hF.sub (F' := [(s0, .inr (0, [.ref (n + 264), .ref n, .ref (n + 266), .ref (n + 328), .ref (n + 320), .ref (n + 262), .ref (n + 263), .int 0, .int 0, .int 0, .int 0])), (n + 265, .inl (0, gg * nn, .inl f)), (n + 328, .inl (5, nn, .inr (.inr (.inr (.inr (fun j => if j < nn then some (n + 329 + 22 * j) else none))))))]) [0, 2, 4] rfl rfl).fr qf (by intro x hx z; rcases z with z | z; (simp only [List.mem_cons, List.not_mem_nil, or_false] at hx; unfold NTA at z; rcases hx with rfl | rfl | rfl <;> dsimp only at z <;> omega); exact ax_hs.apartA hF [0, 2, 4] [3] (by decide) rfl rfl x.1 (List.mem_map.mpr ⟨x, hx, rfl⟩) z)
  have hG := hR.app qF (by intro i j p q hp hq; exact ax_hs.apart2 hF [0, 2, 4] [3, 1] (by decide) rfl rfl hp hq)
  have hW9 : ax_hs h9 (W0 s0 n nn gg cc f 0 (1 + 1) 0) := hG.sub [0, 4, 1, 3, 2] rfl rfl
  have hW9 : ax_hs h9 (W0 s0 n nn gg cc f 0 2 (nI 0)) := hW9
  rw [hms] at hms2
  obtain ⟨hI, hme⟩ := Iv.ini (p := p) (nn := nn) (by omega) (by omega)
  rw [← hms2] at hI hme
  have hQ : SQ h9 s0 n nn gg cc p f (fun _ => 1) 0 0 ids' ms' 0 (fun _ => 0) (fun _ => 0) := by
    refine ⟨⟨by omega, by omega, by omega, by omega, by omega, hs0⟩, hpl, ⟨0, hW9⟩, hN2, fun j hj => ?_⟩
    obtain ⟨fm, hq⟩ := hD j hj
    exact ⟨Or.inl rfl, _, _, _, _, _, _, _, _, hq.fr hfT (fun z hz hA => by have := QN.lt z hz; unfold NTA at hA; omega), fun _ => rfl⟩
  have hT9 : ax_hs h9 (TW n gg) := (hSW.sub (F' := TW n gg) [5, 6, 7, 10, 11, 12] rfl rfl).fr hfT (by intro z hz hA; simp only [TW, List.mem_cons, List.not_mem_nil, or_false] at hz; unfold NTA at hA; rcases hz with rfl | rfl | rfl | rfl | rfl | rfl <;> dsimp only at hA <;> omega)
  have hZ9 : SZ (n + 329 + 22 * nn) h h9 := ⟨qn.trans hbase.symm, qs.trans hbasl.symm, hfT.mono (fun x hx => by unfold NTA at hx; omega)⟩
  refine ar_iconst 33 (v := 0) d_150_32 rfl (by decide) ?_
  refine ar_istore_n 34 [(0, .ref s0), (1, .int 0), (2, .int 0)] d_150_33 rfl (by decide) rfl ?_
  have key : ∀ (k i : Nat), i + k = nn → ax_A (ax_step L xs) ((150, 34, fr, lo), [(0, .ref s0), (1, .int 0), (2, .int (nI i))], [], h9) (fun r h' => r = some (.int 0) ∧ SZ (n + 329 + 22 * nn) h h') := by
    intro k
    induction k with
    | zero =>
      intro i hi
      have e0 : i = nn := by omega
      subst e0
      refine ar_iload_n 35 d_150_34 rfl rfl ?_
      refine ar_aload_n 36 d_150_35 rfl rfl ?_
      refine ar_getf 39 d_150_36 rfl (ci := 0) (k := 3) rfl (hW9.at 0 rfl) rfl ?_
      refine ar_alen 40 d_150_39 rfl (hW9.at 4 rfl) (by decide) ?_
      refine ar_icmp_ge 84 43 d_150_40 (by decide) rfl (fun _ => ?_) (fun c => absurd (nI_le (Nat.le_refl _) (by omega)) c)
      refine ar_iconst 85 (v := 0) d_150_84 rfl (by decide) ?_
      refine ar_istore_n 86 [(0, .ref s0), (1, .int 0), (2, .int 0)] d_150_85 rfl (by decide) rfl ?_
      refine ar_iload_n 87 d_150_86 rfl rfl ?_
      refine ar_sipush 90 (v := 2000) d_150_87 rfl (by decide) ?_
      refine ar_icmp_gt 150 93 d_150_90 (by decide) rfl (fun c => absurd c (by decide)) (fun _ => ?_)
      refine ar_aload_n 94 d_150_93 rfl rfl ?_
      refine ar_call (r := []) (na := 0) (kd := 0) (cm := 151) (fr2 := fr - 1) (lo2 := lo - 21) 97 d_150_94 (ar_hoV (as := []) rfl rfl rfl (hW9.at 0 rfl)) rfl (by omega) (show lo - 21 + (19 + 2) = lo by omega) (Nat.le_of_ble_eq_true rfl) (Nat.le_of_ble_eq_true rfl) (c_151F (by rcases (show i = 3 ∨ i = 4 ∨ i = 5 ∨ i = 6 by omega) with rfl | rfl | rfl | rfl <;> decide) (hW9.sub (F' := [(s0, .inr (0, [.ref (n + 264), .ref n, .ref (n + 266), .ref (n + 328), .ref (n + 320), .ref (n + 262), .ref (n + 263), .int 0, .int 0, .int 0, .int 0])), (n + 266, .inr (4, [.ref (n + 264), .ref n, .ref (n + 267), .int 0, .ref (n + 268), .ref (n + 269), .ref (n + 270), .ref (n + 271), .int 0, .int 0, .int 0, .int 0, .int (-1), .int 2, .int (allN i), .int (nI 0)]))]) [0, 3] rfl rfl)) ?_
      intro v hh hq
      obtain ⟨rfl, ehh⟩ := hq
      rw [ehh]
      clear ehh
      refine ar_if_ne 150 100 d_150_97 (by decide) rfl (fun c => absurd c (by decide)) (fun _ => ?_)
      refine ar_iload_n 101 d_150_100 rfl rfl ?_
      refine ar_if_le 108 104 d_150_101 (by decide) rfl (fun _ => ?_) (fun c => absurd (Int32.le_refl _) c)
      refine ar_iconst 109 (v := 0) d_150_108 rfl (by decide) ?_
      refine ar_istore_n 110 [(0, .ref s0), (1, .int 0), (2, .int 0), (3, .int 0)] d_150_109 rfl (by decide) rfl ?_
      refine slp (by omega) (by omega) 36 0 h9 (fun _ => 1) 0 0 0 _ _ ids' ms' (by omega) hme hQ hI (fun h' e' km' kc' q' u' b' y j1 j2 j3 j4 => ?_)
      obtain ⟨f1, f2, f3⟩ := Iv.fin (by omega) j2
      have hT' : ax_hs h' (TW n gg) := hT9.fr j4 (by intro z hz hA; simp only [TW, List.mem_cons, List.not_mem_nil, or_false] at hz; unfold TBN at hA; rcases hz with rfl | rfl | rfl | rfl | rfl | rfl <;> dsimp only at hA <;> omega)
      exact s_fin (by omega) (by omega) j1 f2 f3 hT' (fun h2 j5 => ⟨rfl, hZ9.tr (j3.tr j5)⟩)
    | succ k ih =>
      intro i hi
      have hin : i < nn := by omega
      obtain ⟨-, ep, st, hd, cl, ni, tu, md, fm, hq, -⟩ := hQ.2.2.2.2 i hin
      refine ar_iload_n 35 d_150_34 rfl rfl ?_
      refine ar_aload_n 36 d_150_35 rfl rfl ?_
      refine ar_getf 39 d_150_36 rfl (ci := 0) (k := 3) rfl (hW9.at 0 rfl) rfl ?_
      refine ar_alen 40 d_150_39 rfl (hW9.at 4 rfl) (by decide) ?_
      refine ar_icmp_ge 84 43 d_150_40 (by decide) rfl (fun c => absurd c (nI_ge hin (by omega))) (fun _ => ?_)
      refine ar_aload_n 44 d_150_43 rfl rfl ?_
      refine ar_getf 47 d_150_44 rfl (ci := 0) (k := 3) rfl (hW9.at 0 rfl) rfl ?_
      refine ar_iload_n 48 d_150_47 rfl rfl ?_
      refine ar_aald 49 d_150_48 rfl (hW9.at 4 rfl) rfl (nI_in hin (by omega)) ?_
      refine ar_tv (v' := .ref (n + 329 + 22 * i)) (by rw [nI_clamp (by omega), if_pos hin]; rfl) ?_
      refine ar_getf 52 d_150_49 rfl (ci := 7) (k := 6) rfl (hq.at 0 rfl) rfl ?_
      refine ar_if_ne 78 55 d_150_52 (by decide) rfl (fun _ => ?_) (fun c => absurd (by decide) c)
      refine ar_iinc 81 [(0, .ref s0), (1, .int 0), (2, .int (nI (i + 1)))] d_150_78 rfl rfl (nI_1 i) (by decide) rfl ?_
      refine ar_goto 34 d_150_81 (by decide) ?_
      exact ih (i + 1) (by omega)
  exact key nn 0 (by omega)

/-! the net: its MESSAGES in a region; NT h nt w cnt p t M B: the net nt with its array at w; MESSAGE j is at w + 1 + 2 j, its body behind it; way[i] is MESSAGE p i, taken is t, lost is 1 -/
theorem ar_tv {L : Nat} {xs : Nat → Int32} {mi pc fr lo : Nat} {lv : List (Nat × Value)} {r : List Value} {h : ax_H} {post : ax_Po} {v v' : Value} (e : v = v') (k : ax_A (ax_step L xs) ((mi, pc, fr, lo), lv, v' :: r, h) post) : ax_A (ax_step L xs) ((mi, pc, fr, lo), lv, v :: r, h) post := by rw [e]; exact k
def ms_c (u : Nat → Int32) (b : Nat) : va_E := .inr (2, [.int (u 0), .int (u 1), .int (u 2), .int (u 3), .int (u 4), .int (u 5), .int (u 6), .int (u 7), .ref b])
def ms_at (h : ax_H) (a : Nat) (u f : Nat → Int32) : Prop := ax_g h a = some (ms_c u (a + 1)) ∧ ax_g h (a + 1) = some (.inl (0, 617, .inl f))
def NT (h : ax_H) (nt w cnt : Nat) (p : Nat → Nat) (t : Nat) (M B : Nat → Nat → Int32) : Prop :=
  (nt < w ∧ cnt ≤ 128 ∧ t < 130 ∧ t ≠ 1 ∧ (∀ i, i < 128 → p i < 130 ∧ p i ≠ 1 ∧ p i ≠ t) ∧ ∀ i j, i < 128 → j < 128 → p i = p j → i = j) ∧
  ax_g h nt = some (.inr (1, [.ref w, .int (nI cnt), .ref (w + 1 + 2 * t), .ref (w + 3)])) ∧
  (∃ f, ax_g h w = some (.inl (3, 128, .inr (.inr (.inr (.inr f))))) ∧ ∀ i, i < 128 → f i = some (w + 1 + 2 * p i)) ∧
  ∀ j, j < 130 → ms_at h (w + 1 + 2 * j) (M j) (B j)
/-- what the net's calls may write -/
def NTA (nt w : Nat) (x : Nat) : Prop := x = nt ∨ (w ≤ x ∧ x < w + 261)
theorem NT.fr {A : Nat → Prop} {h h' : ax_H} {nt w cnt t : Nat} {p : Nat → Nat} {M B : Nat → Nat → Int32} (hN : NT h nt w cnt p t M B) (hf : ax_fr A h h') (hA : ∀ x, NTA nt w x → ¬ A x) : NT h' nt w cnt p t M B := by
  obtain ⟨k1, k2, ⟨f, k3, k4⟩, k5⟩ := hN
  refine ⟨k1, hf.g k2 (hA _ (Or.inl rfl)), ⟨f, hf.g k3 (hA _ (Or.inr (by omega))), k4⟩, fun j hj => ⟨hf.g (k5 j hj).1 (hA _ (Or.inr (by omega))), hf.g (k5 j hj).2 (hA _ (Or.inr (by omega)))⟩⟩
theorem ax_hs.two {h : ax_H} {a b : Nat} {c d : va_E} (g1 : ax_g h a = some c) (g2 : ax_g h b = some d) (hab : a ≠ b) : ax_hs h [(a, c), (b, d)] := (ax_hs.one g1).app (ax_hs.one g2) (fun i j p q hp hq => by
  have h1 := List.mem_of_getElem? hp
  have h2 := List.mem_of_getElem? hq
  simp at h1 h2
  rw [h1, h2]
  exact hab)
theorem ax_hs.cons {h : ax_H} {a : Nat} {c : va_E} {F : List (Nat × va_E)} (g : ax_g h a = some c) (hF : ax_hs h F) (hd : ∀ q ∈ F, a ≠ q.1) : ax_hs h ((a, c) :: F) := (ax_hs.one g).app hF (fun i j p q hp hq => by
  have h1 := List.mem_of_getElem? hp
  simp at h1
  rw [h1]
  exact hd q (List.mem_of_getElem? hq))
theorem lp_2 {L : Nat} {xs : Nat → Int32} {fr lo nt n sl0 : Nat} {h0 : ax_H} {post : ax_Po} (hfr : 2 ≤ fr) (hlo : 32 ≤ lo) (hn0 : 0 < n) (hnt : nt < n) (h0n : h0.1 = n)
    (hp : ∀ h', NT h' nt n 0 (fun i => i + 2) 0 (fun _ _ => 0) (fun _ _ => 0) → h'.1 = n + 261 → h'.2.1 = sl0 + 81508 → ax_fr (fun x => x ∈ [nt]) h0 h' → post none h') :
    ∀ (k i : Nat), i + k = 128 → ∀ (h : ax_H) (m sl : Nat), m = n + 5 + 2 * i → sl = sl0 + 1380 + 626 * i → h.1 = m → h.2.1 = sl → ax_fr (fun x => x ∈ [nt]) h0 h → ax_hs h [(nt, .inr (1, [.ref n, .int 0, .ref (n + 1), .ref (n + 3)])), (n, .inl (3, 128, .inr (.inr (.inr (.inr (fun j => if j < i then some (n + 5 + 2 * j) else none))))))] → (∀ j, j < 2 + i → ms_at h (n + 1 + 2 * j) (fun _ => 0) (fun _ => 0)) → ax_A (ax_step L xs) ((2, 38, fr, lo), [(0, .ref nt), (1, .int (nI i))], [], h) post := by
  intro k
  induction k with
  | zero =>
    intro i hi h m sl hm hsl hn hs hf0 hF hms
    have e : i = 128 := by omega
    subst e
    refine ar_iload_n 39 d_2_38 rfl rfl ?_
    refine ar_aload_n 40 d_2_39 rfl rfl ?_
    refine ar_getf 43 d_2_40 rfl (ci := 1) (k := 0) rfl (hF.at 0 rfl) rfl ?_
    refine ar_alen 44 d_2_43 rfl (hF.at 1 rfl) (by decide) ?_
    refine ar_icmp_ge 66 47 d_2_44 (by decide) rfl (fun _ => ?_) (fun c => absurd (nI_le (Nat.le_refl _) (show 128 < 2 ^ 31 by decide)) c)
    refine ar_ret d_2_66 rfl (hp h ⟨⟨hnt, by decide, by decide, by decide, fun i hi => (by show i + 2 < 130 ∧ i + 2 ≠ 1 ∧ i + 2 ≠ 0; omega), fun i j _ _ e => by have e' : i + 2 = j + 2 := e; omega⟩, hF.at 0 rfl, ⟨_, hF.at 1 rfl, fun i hi => ?_⟩, fun j hj => hms j (by omega)⟩ (by omega) (by omega) hf0)
    show (if i < 128 then some (n + 5 + 2 * i) else none) = some (n + 1 + 2 * (i + 2))
    rw [if_pos hi]
    congr 1
    omega
  | succ k ih =>
    intro i hi h m sl hm hsl hn hs hf0 hF hms
    have hlt : i < 128 := by omega
    have hm0 : 0 < m := by omega
    have hbase : h.1 = m := hn
    have hbasl : h.2.1 = sl := hs
    have hf : ax_fr (fun x => x ∈ [n]) h h := ax_fr.rf
    refine ar_iload_n 39 d_2_38 rfl rfl ?_
    refine ar_aload_n 40 d_2_39 rfl rfl ?_
    refine ar_getf 43 d_2_40 rfl (ci := 1) (k := 0) rfl (hF.at 0 rfl) rfl ?_
    refine ar_alen 44 d_2_43 rfl (hF.at 1 rfl) (by decide) ?_
    refine ar_icmp_ge 66 47 d_2_44 (by decide) rfl (fun c => absurd c (nI_ge hlt (show 128 < 2 ^ 31 by decide))) (fun _ => ?_)
    refine ar_aload_n 48 d_2_47 rfl rfl ?_
    refine ar_getf 51 d_2_48 rfl (ci := 1) (k := 0) rfl (hF.at 0 rfl) rfl ?_
    refine ar_iload_n 52 d_2_51 rfl rfl ?_
    refine ar_new 55 d_2_52 rfl (ci := 2) rfl ?_
    rw [hn]
    refine ar_heap (h' := ax_push h 9 (.inr (2, [.int 0, .int 0, .int 0, .int 0, .int 0, .int 0, .int 0, .int 0, .null]))) rfl ?_
    replace hF : ax_hs (ax_push h 9 (.inr (2, [.int 0, .int 0, .int 0, .int 0, .int 0, .int 0, .int 0, .int 0, .null]))) [(nt, .inr (1, [.ref n, .int 0, .ref (n + 1), .ref (n + 3)])), (n, .inl (3, 128, .inr (.inr (.inr (.inr (fun j => if j < i then some (n + 5 + 2 * j) else none)))))), (m, .inr (2, [.int 0, .int 0, .int 0, .int 0, .int 0, .int 0, .int 0, .int 0, .null]))] := hF.push (by omega) 9 _ (by rw [hn]; rfl)
    replace hf := hf.push (n := 9) (c := .inr (2, [.int 0, .int 0, .int 0, .int 0, .int 0, .int 0, .int 0, .int 0, .null]))
    replace hn : (ax_push h 9 (.inr (2, [.int 0, .int 0, .int 0, .int 0, .int 0, .int 0, .int 0, .int 0, .null]))).1 = m + 1 := by show h.1 + 1 = _; rw [hn]
    replace hs : (ax_push h 9 (.inr (2, [.int 0, .int 0, .int 0, .int 0, .int 0, .int 0, .int 0, .int 0, .null]))).2.1 = sl + 9 := by show h.2.1 + 9 = _; omega
    generalize ax_push h 9 (.inr (2, [.int 0, .int 0, .int 0, .int 0, .int 0, .int 0, .int 0, .int 0, .null])) = h1 at hF hf hn hs ⊢
    refine ar_dup 56 d_2_55 rfl rfl ?_
    refine ar_call (r := [.ref m, .int (nI i), .ref n]) (na := 0) (kd := 0) (cm := 3) (fr2 := fr - 1) (lo2 := lo - 20) 59 d_2_56 (ar_hoI (as := []) rfl rfl rfl) rfl (by omega) (show lo - 20 + (19 + 1) = lo by omega) (Nat.le_of_ble_eq_true rfl) (Nat.le_of_ble_eq_true rfl) (c_3 (by omega) (by omega) (hF.sub (F' := [(m, .inr (2, [.int 0, .int 0, .int 0, .int 0, .int 0, .int 0, .int 0, .int 0, .null]))]) [2] rfl rfl) hn hs (by omega)) ?_
    intro v h2 hq
    obtain ⟨rfl, qF, qn, qs, qf⟩ := hq
    have qF : ax_hs h2 [(m, .inr (2, [.int 0, .int 0, .int 0, .int 0, .int 0, .int 0, .int 0, .int 0, .ref (m + 1)])), (m + 1, .inl (0, 617, .inl (fun _ => 0)))] := qF
    replace hF : ax_hs h2 [(nt, .inr (1, [.ref n, .int 0, .ref (n + 1), .ref (n + 3)])), (n, .inl (3, 128, .inr (.inr (.inr (.inr (fun j => if j < i then some (n + 5 + 2 * j) else none)))))), (m, .inr (2, [.int 0, .int 0, .int 0, .int 0, .int 0, .int 0, .int 0, .int 0, .ref (m + 1)])), (m + 1, .inl (0, 617, .inl (fun _ => 0)))] := ax_hs.call (rest := [(nt, .inr (1, [.ref n, .int 0, .ref (n + 1), .ref (n + 3)])), (n, .inl (3, 128, .inr (.inr (.inr (.inr (fun j => if j < i then some (n + 5 + 2 * j) else none))))))]) [2] [0, 1] hF qf qF rfl rfl rfl [2] rfl rfl [2] (news := [m + 1]) rfl rfl (by rw [hn]; simp; try omega) rfl
    replace hf := hf.trC qf (by intro x hx hB; simp at hB; first | (rcases hB with rfl <;> first | omega | simp) | omega | simp [hB])
    replace hn : h2.1 = m + 2 := by omega
    replace hs : h2.2.1 = sl + 626 := by omega
    clear qF qn qs qf
    refine ar_aast 60 d_2_59 rfl (hF.at 1 rfl) rfl (hF.at 2 rfl) (vp_in_nI hlt (show 128 < 2 ^ 31 by decide)) ?_
    replace hF : ax_hs (ax_put h2 n (.inl (3, 128, .inr (.inr (.inr (.inr (va_up (fun j => if j < i then some (n + 5 + 2 * j) else none) (nI i).toNatClampNeg (some m)))))))) [(nt, .inr (1, [.ref n, .int 0, .ref (n + 1), .ref (n + 3)])), (n, .inl (3, 128, .inr (.inr (.inr (.inr (va_up (fun j => if j < i then some (n + 5 + 2 * j) else none) (nI i).toNatClampNeg (some m))))))), (m, .inr (2, [.int 0, .int 0, .int 0, .int 0, .int 0, .int 0, .int 0, .int 0, .ref (m + 1)])), (m + 1, .inl (0, 617, .inl (fun _ => 0)))] := hF.put 1 _ rfl rfl
    replace hf := hf.put (a := n) (c := .inl (3, 128, .inr (.inr (.inr (.inr (va_up (fun j => if j < i then some (n + 5 + 2 * j) else none) (nI i).toNatClampNeg (some m))))))) (by simp)
    replace hn : (ax_put h2 n (.inl (3, 128, .inr (.inr (.inr (.inr (va_up (fun j => if j < i then some (n + 5 + 2 * j) else none) (nI i).toNatClampNeg (some m)))))))).1 = m + 2 := hn
    replace hs : (ax_put h2 n (.inl (3, 128, .inr (.inr (.inr (.inr (va_up (fun j => if j < i then some (n + 5 + 2 * j) else none) (nI i).toNatClampNeg (some m)))))))).2.1 = sl + 626 := hs
    generalize ax_put h2 n (.inl (3, 128, .inr (.inr (.inr (.inr (va_up (fun j => if j < i then some (n + 5 + 2 * j) else none) (nI i).toNatClampNeg (some m))))))) = h3 at hF hf hn hs ⊢
    refine ar_iinc 63 [(0, .ref nt), (1, .int (nI (i + 1)))] d_2_60 rfl rfl (nI_1 i) (by decide) rfl ?_
    refine ar_goto 38 d_2_63 (by decide) ?_
    have ef : va_up (fun j => if j < i then some (n + 5 + 2 * j) else none) (nI i).toNatClampNeg (some m) = (fun j => if j < i + 1 then some (n + 5 + 2 * j) else none) := by
      funext j
      rw [nI_clamp (by omega)]
      show (if j = i then some m else if j < i then some (n + 5 + 2 * j) else none) = (if j < i + 1 then some (n + 5 + 2 * j) else none)
      by_cases h1 : j = i
      · subst h1
        rw [if_pos rfl, if_pos (by omega), hm]
      · rw [if_neg h1]
        by_cases h2 : j < i
        · rw [if_pos h2, if_pos (by omega)]
        · rw [if_neg h2, if_neg (by omega)]
    rw [ef] at hF
    refine ih (i + 1) (by omega) h3 (m + 2) (sl + 626) (by omega) (by omega) hn hs (hf0.trC hf (fun x hx hB => by simp at hB; omega)) (hF.sub (F' := [(nt, .inr (1, [.ref n, .int 0, .ref (n + 1), .ref (n + 3)])), (n, .inl (3, 128, .inr (.inr (.inr (.inr (fun j => if j < i + 1 then some (n + 5 + 2 * j) else none))))))]) [0, 1] rfl rfl) (fun j hj => ?_)
    by_cases hji : j < 2 + i
    · exact ⟨hf.g (hms j hji).1 (by simp; omega), hf.g (hms j hji).2 (by simp; omega)⟩
    · have e : n + 1 + 2 * j = m := by omega
      rw [e]
      exact ⟨hF.at 2 rfl, hF.at 3 rfl⟩
theorem c_2 {L : Nat} {xs : Nat → Int32} {fr lo : Nat} {h : ax_H} {n sl nt : Nat} (hfr : 2 ≤ fr) (hlo : 32 ≤ lo) (hF : ax_hs h [(nt, .inr (1, [.null, .int 0, .null, .null]))]) (hn : h.1 = n) (hs : h.2.1 = sl) (hn0 : 0 < n) : ax_M L xs 2 fr lo [.ref nt] h (fun r h' => r = none ∧ NT h' nt n 0 (fun i => i + 2) 0 (fun _ _ => 0) (fun _ _ => 0) ∧ h'.1 = n + 261 ∧ h'.2.1 = sl + 81508 ∧ ax_fr (fun x => x ∈ [nt]) h h') := by
  have hnt : nt < n := by
    have := (ax_g_lt (hF.at 0 rfl)).2
    omega
  have h0n := hn
  show ax_A (ax_step L xs) ((2, 0, fr, lo), [(0, .ref nt)], [], h) _
  have hbase : h.1 = n := hn
  have hbasl : h.2.1 = sl := hs
  have hf : ax_fr (fun x => x ∈ [nt]) h h := ax_fr.rf
  refine ar_aload_n 1 d_2_0 rfl rfl ?_
  refine ar_objI 4 d_2_1 rfl rfl (by omega) (by show 0 + 12 ≤ lo; omega) ?_
  refine ar_aload_n 5 d_2_4 rfl rfl ?_
  refine ar_sipush 8 (v := 128) d_2_5 rfl (by decide) ?_
  refine ar_newq 11 d_2_8 rfl (t := 3) rfl (by decide) (N := 128) (by decide) (by decide) ?_
  rw [hn]
  replace hF : ax_hs (ax_push h 128 (.inl (3, 128, .inr (.inr (.inr (.inr (fun _ => none))))))) [(nt, .inr (1, [.null, .int 0, .null, .null])), (n, .inl (3, 128, .inr (.inr (.inr (.inr (fun _ => none))))))] := hF.push (by omega) 128 _ (by rw [hn]; rfl)
  replace hf := hf.push (n := 128) (c := .inl (3, 128, .inr (.inr (.inr (.inr (fun _ => none))))))
  replace hn : (ax_push h 128 (.inl (3, 128, .inr (.inr (.inr (.inr (fun _ => none))))))).1 = n + 1 := by show h.1 + 1 = _; rw [hn]
  replace hs : (ax_push h 128 (.inl (3, 128, .inr (.inr (.inr (.inr (fun _ => none))))))).2.1 = sl + 128 := by show h.2.1 + 128 = _; omega
  generalize ax_push h 128 (.inl (3, 128, .inr (.inr (.inr (.inr (fun _ => none)))))) = h1 at hF hf hn hs ⊢
  refine ar_putf 14 [.ref n, .int 0, .null, .null] d_2_11 rfl (ci := 1) (k := 0) rfl (by decide +kernel) (hF.at 0 rfl) (Nat.le_of_ble_eq_true rfl) rfl rfl rfl ?_
  replace hF : ax_hs (ax_put h1 nt (.inr (1, [.ref n, .int 0, .null, .null]))) [(nt, .inr (1, [.ref n, .int 0, .null, .null])), (n, .inl (3, 128, .inr (.inr (.inr (.inr (fun _ => none))))))] := hF.put 0 _ rfl rfl
  replace hf := hf.put (a := nt) (c := .inr (1, [.ref n, .int 0, .null, .null])) (by simp)
  replace hn : (ax_put h1 nt (.inr (1, [.ref n, .int 0, .null, .null]))).1 = n + 1 := hn
  replace hs : (ax_put h1 nt (.inr (1, [.ref n, .int 0, .null, .null]))).2.1 = sl + 128 := hs
  generalize ax_put h1 nt (.inr (1, [.ref n, .int 0, .null, .null])) = h2 at hF hf hn hs ⊢
  refine ar_aload_n 15 d_2_14 rfl rfl ?_
  refine ar_new 18 d_2_15 rfl (ci := 2) rfl ?_
  rw [hn]
  refine ar_heap (h' := ax_push h2 9 (.inr (2, [.int 0, .int 0, .int 0, .int 0, .int 0, .int 0, .int 0, .int 0, .null]))) rfl ?_
  replace hF : ax_hs (ax_push h2 9 (.inr (2, [.int 0, .int 0, .int 0, .int 0, .int 0, .int 0, .int 0, .int 0, .null]))) [(nt, .inr (1, [.ref n, .int 0, .null, .null])), (n, .inl (3, 128, .inr (.inr (.inr (.inr (fun _ => none)))))), (n + 1, .inr (2, [.int 0, .int 0, .int 0, .int 0, .int 0, .int 0, .int 0, .int 0, .null]))] := hF.push (by omega) 9 _ (by rw [hn]; rfl)
  replace hf := hf.push (n := 9) (c := .inr (2, [.int 0, .int 0, .int 0, .int 0, .int 0, .int 0, .int 0, .int 0, .null]))
  replace hn : (ax_push h2 9 (.inr (2, [.int 0, .int 0, .int 0, .int 0, .int 0, .int 0, .int 0, .int 0, .null]))).1 = n + 2 := by show h2.1 + 1 = _; rw [hn]
  replace hs : (ax_push h2 9 (.inr (2, [.int 0, .int 0, .int 0, .int 0, .int 0, .int 0, .int 0, .int 0, .null]))).2.1 = sl + 137 := by show h2.2.1 + 9 = _; omega
  generalize ax_push h2 9 (.inr (2, [.int 0, .int 0, .int 0, .int 0, .int 0, .int 0, .int 0, .int 0, .null])) = h3 at hF hf hn hs ⊢
  refine ar_dup 19 d_2_18 rfl rfl ?_
  refine ar_call (r := [.ref (n + 1), .ref nt]) (na := 0) (kd := 0) (cm := 3) (fr2 := fr - 1) (lo2 := lo - 20) 22 d_2_19 (ar_hoI (as := []) rfl rfl rfl) rfl (by omega) (show lo - 20 + (19 + 1) = lo by omega) (Nat.le_of_ble_eq_true rfl) (Nat.le_of_ble_eq_true rfl) (c_3 (by omega) (by omega) (hF.sub (F' := [(n + 1, .inr (2, [.int 0, .int 0, .int 0, .int 0, .int 0, .int 0, .int 0, .int 0, .null]))]) [2] rfl rfl) hn hs (by omega)) ?_
  intro v h4 hq
  obtain ⟨rfl, qF, qn, qs, qf⟩ := hq
  have qF : ax_hs h4 [(n + 1, .inr (2, [.int 0, .int 0, .int 0, .int 0, .int 0, .int 0, .int 0, .int 0, .ref (n + 2)])), (n + 2, .inl (0, 617, .inl (fun _ => 0)))] := qF
  replace hF : ax_hs h4 [(nt, .inr (1, [.ref n, .int 0, .null, .null])), (n, .inl (3, 128, .inr (.inr (.inr (.inr (fun _ => none)))))), (n + 1, .inr (2, [.int 0, .int 0, .int 0, .int 0, .int 0, .int 0, .int 0, .int 0, .ref (n + 2)])), (n + 2, .inl (0, 617, .inl (fun _ => 0)))] := ax_hs.call (rest := [(nt, .inr (1, [.ref n, .int 0, .null, .null])), (n, .inl (3, 128, .inr (.inr (.inr (.inr (fun _ => none))))))]) [2] [0, 1] hF qf qF rfl rfl rfl [2] rfl rfl [2] (news := [n + 2]) rfl rfl (by rw [hn]; simp; try omega) rfl
  replace hf := hf.trC qf (by intro x hx hB; simp at hB; first | (rcases hB with rfl <;> first | omega | simp) | omega | simp [hB])
  replace hn : h4.1 = n + 3 := by omega
  replace hs : h4.2.1 = sl + 754 := by omega
  clear qF qn qs qf
  refine ar_putf 25 [.ref n, .int 0, .ref (n + 1), .null] d_2_22 rfl (ci := 1) (k := 2) rfl rfl (hF.at 0 rfl) (Nat.le_of_ble_eq_true rfl) rfl rfl rfl ?_
  replace hF : ax_hs (ax_put h4 nt (.inr (1, [.ref n, .int 0, .ref (n + 1), .null]))) [(nt, .inr (1, [.ref n, .int 0, .ref (n + 1), .null])), (n, .inl (3, 128, .inr (.inr (.inr (.inr (fun _ => none)))))), (n + 1, .inr (2, [.int 0, .int 0, .int 0, .int 0, .int 0, .int 0, .int 0, .int 0, .ref (n + 2)])), (n + 2, .inl (0, 617, .inl (fun _ => 0)))] := hF.put 0 _ rfl rfl
  replace hf := hf.put (a := nt) (c := .inr (1, [.ref n, .int 0, .ref (n + 1), .null])) (by simp)
  replace hn : (ax_put h4 nt (.inr (1, [.ref n, .int 0, .ref (n + 1), .null]))).1 = n + 3 := hn
  replace hs : (ax_put h4 nt (.inr (1, [.ref n, .int 0, .ref (n + 1), .null]))).2.1 = sl + 754 := hs
  generalize ax_put h4 nt (.inr (1, [.ref n, .int 0, .ref (n + 1), .null])) = h5 at hF hf hn hs ⊢
  refine ar_aload_n 26 d_2_25 rfl rfl ?_
  refine ar_new 29 d_2_26 rfl (ci := 2) rfl ?_
  rw [hn]
  refine ar_heap (h' := ax_push h5 9 (.inr (2, [.int 0, .int 0, .int 0, .int 0, .int 0, .int 0, .int 0, .int 0, .null]))) rfl ?_
  replace hF : ax_hs (ax_push h5 9 (.inr (2, [.int 0, .int 0, .int 0, .int 0, .int 0, .int 0, .int 0, .int 0, .null]))) [(nt, .inr (1, [.ref n, .int 0, .ref (n + 1), .null])), (n, .inl (3, 128, .inr (.inr (.inr (.inr (fun _ => none)))))), (n + 1, .inr (2, [.int 0, .int 0, .int 0, .int 0, .int 0, .int 0, .int 0, .int 0, .ref (n + 2)])), (n + 2, .inl (0, 617, .inl (fun _ => 0))), (n + 3, .inr (2, [.int 0, .int 0, .int 0, .int 0, .int 0, .int 0, .int 0, .int 0, .null]))] := hF.push (by omega) 9 _ (by rw [hn]; rfl)
  replace hf := hf.push (n := 9) (c := .inr (2, [.int 0, .int 0, .int 0, .int 0, .int 0, .int 0, .int 0, .int 0, .null]))
  replace hn : (ax_push h5 9 (.inr (2, [.int 0, .int 0, .int 0, .int 0, .int 0, .int 0, .int 0, .int 0, .null]))).1 = n + 4 := by show h5.1 + 1 = _; rw [hn]
  replace hs : (ax_push h5 9 (.inr (2, [.int 0, .int 0, .int 0, .int 0, .int 0, .int 0, .int 0, .int 0, .null]))).2.1 = sl + 763 := by show h5.2.1 + 9 = _; omega
  generalize ax_push h5 9 (.inr (2, [.int 0, .int 0, .int 0, .int 0, .int 0, .int 0, .int 0, .int 0, .null])) = h6 at hF hf hn hs ⊢
  refine ar_dup 30 d_2_29 rfl rfl ?_
  refine ar_call (r := [.ref (n + 3), .ref nt]) (na := 0) (kd := 0) (cm := 3) (fr2 := fr - 1) (lo2 := lo - 20) 33 d_2_30 (ar_hoI (as := []) rfl rfl rfl) rfl (by omega) (show lo - 20 + (19 + 1) = lo by omega) (Nat.le_of_ble_eq_true rfl) (Nat.le_of_ble_eq_true rfl) (c_3 (by omega) (by omega) (hF.sub (F' := [(n + 3, .inr (2, [.int 0, .int 0, .int 0, .int 0, .int 0, .int 0, .int 0, .int 0, .null]))]) [4] rfl rfl) hn hs (by omega)) ?_
  intro v h7 hq
  obtain ⟨rfl, qF, qn, qs, qf⟩ := hq
  have qF : ax_hs h7 [(n + 3, .inr (2, [.int 0, .int 0, .int 0, .int 0, .int 0, .int 0, .int 0, .int 0, .ref (n + 4)])), (n + 4, .inl (0, 617, .inl (fun _ => 0)))] := qF
  replace hF : ax_hs h7 [(nt, .inr (1, [.ref n, .int 0, .ref (n + 1), .null])), (n, .inl (3, 128, .inr (.inr (.inr (.inr (fun _ => none)))))), (n + 1, .inr (2, [.int 0, .int 0, .int 0, .int 0, .int 0, .int 0, .int 0, .int 0, .ref (n + 2)])), (n + 2, .inl (0, 617, .inl (fun _ => 0))), (n + 3, .inr (2, [.int 0, .int 0, .int 0, .int 0, .int 0, .int 0, .int 0, .int 0, .ref (n + 4)])), (n + 4, .inl (0, 617, .inl (fun _ => 0)))] := ax_hs.call (rest := [(nt, .inr (1, [.ref n, .int 0, .ref (n + 1), .null])), (n, .inl (3, 128, .inr (.inr (.inr (.inr (fun _ => none)))))), (n + 1, .inr (2, [.int 0, .int 0, .int 0, .int 0, .int 0, .int 0, .int 0, .int 0, .ref (n + 2)])), (n + 2, .inl (0, 617, .inl (fun _ => 0)))]) [4] [0, 1, 2, 3] hF qf qF rfl rfl rfl [4] rfl rfl [4] (news := [n + 4]) rfl rfl (by rw [hn]; simp; try omega) rfl
  replace hf := hf.trC qf (by intro x hx hB; simp at hB; first | (rcases hB with rfl <;> first | omega | simp) | omega | simp [hB])
  replace hn : h7.1 = n + 5 := by omega
  replace hs : h7.2.1 = sl + 1380 := by omega
  clear qF qn qs qf
  refine ar_putf 36 [.ref n, .int 0, .ref (n + 1), .ref (n + 3)] d_2_33 rfl (ci := 1) (k := 3) rfl (by decide +kernel) (hF.at 0 rfl) (Nat.le_of_ble_eq_true rfl) rfl rfl rfl ?_
  replace hF : ax_hs (ax_put h7 nt (.inr (1, [.ref n, .int 0, .ref (n + 1), .ref (n + 3)]))) [(nt, .inr (1, [.ref n, .int 0, .ref (n + 1), .ref (n + 3)])), (n, .inl (3, 128, .inr (.inr (.inr (.inr (fun _ => none)))))), (n + 1, .inr (2, [.int 0, .int 0, .int 0, .int 0, .int 0, .int 0, .int 0, .int 0, .ref (n + 2)])), (n + 2, .inl (0, 617, .inl (fun _ => 0))), (n + 3, .inr (2, [.int 0, .int 0, .int 0, .int 0, .int 0, .int 0, .int 0, .int 0, .ref (n + 4)])), (n + 4, .inl (0, 617, .inl (fun _ => 0)))] := hF.put 0 _ rfl rfl
  replace hf := hf.put (a := nt) (c := .inr (1, [.ref n, .int 0, .ref (n + 1), .ref (n + 3)])) (by simp)
  replace hn : (ax_put h7 nt (.inr (1, [.ref n, .int 0, .ref (n + 1), .ref (n + 3)]))).1 = n + 5 := hn
  replace hs : (ax_put h7 nt (.inr (1, [.ref n, .int 0, .ref (n + 1), .ref (n + 3)]))).2.1 = sl + 1380 := hs
  generalize ax_put h7 nt (.inr (1, [.ref n, .int 0, .ref (n + 1), .ref (n + 3)])) = h8 at hF hf hn hs ⊢
  refine ar_iconst 37 (v := 0) d_2_36 rfl (by decide) ?_
  refine ar_istore_n 38 [(0, .ref nt), (1, .int 0)] d_2_37 rfl (by decide) rfl ?_
  have ef : (fun j => if j < 0 then some (n + 5 + 2 * j) else none) = (fun _ : Nat => (none : Option Nat)) := by
    funext j
    exact if_neg (by omega)
  rw [← ef] at hF
  refine lp_2 hfr hlo hn0 hnt h0n (fun h' k1 k2 k3 k4 => ⟨rfl, k1, k2, k3, k4⟩) 128 0 rfl h8 (n + 5) (sl + 1380) rfl rfl hn hs hf (hF.sub [0, 1] rfl rfl) (fun j hj => ?_)
  rcases (show j = 0 ∨ j = 1 by omega) with rfl | rfl
  · exact ⟨hF.at 2 rfl, hF.at 3 rfl⟩
  · exact ⟨hF.at 4 rfl, hF.at 5 rfl⟩


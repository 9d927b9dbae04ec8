/-! clamp; Askers() -/
def clI (x a b : Int32) : Int32 := if a < (if x < b then x else b) then (if x < b then x else b) else a
theorem clI_k {a b : Nat} (x : Int32) (hab : a ≤ b) (hb : b < 2 ^ 31) : ∃ k, a ≤ k ∧ k ≤ b ∧ clI x (nI a) (nI b) = nI k := by
  unfold clI
  by_cases h1 : x < nI b
  · rw [if_pos h1]
    by_cases h2 : nI a < x
    · rw [if_pos h2]
      have h0 : ¬ x < 0 := by
        intro h3
        have h4 := nI_pos' (show a < 2 ^ 31 by omega)
        rw [Int32.lt_iff_toInt_lt] at h2 h3
        rw [Int32.le_iff_toInt_le] at h4
        omega
      obtain ⟨j, hj, e⟩ := nI_of h0
      subst e
      rw [nI_ltI hj hb] at h1
      rw [nI_ltI (by omega) hj] at h2
      exact ⟨j, by omega, by omega, rfl⟩
    · rw [if_neg h2]
      exact ⟨a, Nat.le_refl _, hab, rfl⟩
  · rw [if_neg h1]
    by_cases h2 : nI a < nI b
    · rw [if_pos h2]
      exact ⟨b, hab, Nat.le_refl _, rfl⟩
    · rw [if_neg h2]
      exact ⟨a, Nat.le_refl _, hab, rfl⟩
theorem c_4 {L : Nat} {xs : Nat → Int32} {fr lo : Nat} {h : ax_H} {x a b : Int32} (hfr : 1 ≤ fr) (hlo : 15 ≤ lo) : ax_M L xs 4 fr lo [.int x, .int a, .int b] h (fun r h' => r = some (.int (clI x a b)) ∧ h' = h) := by
  show ax_A (ax_step L xs) ((4, 0, fr, lo), [(0, .int x), (1, .int a), (2, .int b)], [], h) _
  refine ar_iload_n 1 d_4_0 rfl rfl ?_
  refine ar_iload_n 2 d_4_1 rfl rfl ?_
  refine ar_iload_n 3 d_4_2 rfl rfl ?_
  refine ar_min 6 d_4_3 rfl rfl (by omega) (by show 1 + 13 ≤ lo; omega) (w := if x < b then x else b) (rfl) ?_
  refine ar_max 9 d_4_6 rfl rfl (by omega) (by show 0 + 13 ≤ lo; omega) (w := clI x a b) (rfl) ?_
  exact ar_iret d_4_9 rfl rfl (⟨rfl, rfl⟩)
def allN (nn : Nat) : Int32 := ((1 : Int32) <<< (nI nn &&& 31)) - 1
def ak_at (h : ax_H) (a : Nat) : Prop := ax_g h a = some (.inr (5, [.int 0, .int 0, .int 0, .int 0, .int 0, .int 0, .int 0, .ref (a + 1)])) ∧ ax_g h (a + 1) = some (.inl (0, 612, .inl (fun _ => 0)))
theorem ak_at.fr {A : Nat → Prop} {h h' : ax_H} {a : Nat} (k : ak_at h a) (hf : ax_fr A h h') (h1 : ¬ A a) (h2 : ¬ A (a + 1)) : ak_at h' a := ⟨hf.g k.1 h1, hf.g k.2 h2⟩
theorem lp_9 {L : Nat} {xs : Nat → Int32} {fr lo as rk nt nn n sl0 : Nat} {h0 : ax_H} {post : ax_Po} (hfr : 2 ≤ fr) (hlo : 32 ≤ lo) (hn0 : 0 < n) (has : as < n)
    (hp : ∀ h', ax_hs h' [(as, .inr (4, [.ref rk, .ref nt, .ref n, .int 0, .ref (n + 1), .ref (n + 2), .ref (n + 3), .ref (n + 4), .int 0, .int 0, .int 0, .int 0, .int (-1), .int 1, .int (allN nn), .int (allN nn)])), (n + 3, .inl (4, 24, .inr (.inr (.inr (.inr (fun j => if j < 24 then some (n + 5 + 2 * j) else none))))))] → (∀ j, j < 24 → ak_at h' (n + 5 + 2 * j)) → h'.1 = n + 53 → h'.2.1 = sl0 + 14880 → ax_fr (fun x => x ∈ [n + 3]) h0 h' → post none h') :
    ∀ (k i : Nat), i + k = 24 → ∀ (h : ax_H) (m sl : Nat), m = n + 5 + 2 * i → sl = sl0 + 620 * i → h.1 = m → h.2.1 = sl → h0.1 = n + 5 → ax_fr (fun x => x ∈ [n + 3]) h0 h → ax_hs h [(as, .inr (4, [.ref rk, .ref nt, .ref n, .int 0, .ref (n + 1), .ref (n + 2), .ref (n + 3), .ref (n + 4), .int 0, .int 0, .int 0, .int 0, .int (-1), .int 1, .int (allN nn), .int (allN nn)])), (n + 3, .inl (4, 24, .inr (.inr (.inr (.inr (fun j => if j < i then some (n + 5 + 2 * j) else none))))))] → (∀ j, j < i → ak_at h (n + 5 + 2 * j)) → ax_A (ax_step L xs) ((9, 88, fr, lo), [(0, .ref as), (1, .ref rk), (2, .ref nt), (3, .int (nI i))], [], h) post := by
  intro k
  induction k with
  | zero =>
    intro i hi h m sl hm hsl hn hs h0n hf0 hF hms
    have e : i = 24 := by omega
    subst e
    refine ar_iload_n 89 d_9_88 rfl rfl ?_
    refine ar_aload_n 90 d_9_89 rfl rfl ?_
    refine ar_getf 93 d_9_90 rfl (ci := 4) (k := 6) rfl (hF.at 0 rfl) rfl ?_
    refine ar_alen 94 d_9_93 rfl (hF.at 1 rfl) (by decide) ?_
    refine ar_icmp_ge 116 97 d_9_94 (by decide) rfl (fun _ => ?_) (fun c => absurd (nI_le (Nat.le_refl _) (show 24 < 2 ^ 31 by decide)) c)
    exact ar_ret d_9_116 rfl (hp h hF hms (by omega) (by omega) hf0)
  | succ k ih =>
    intro i hi h m sl hm hsl hn hs h0n hf0 hF hms
    have hlt : i < 24 := by omega
    have hm0 : 0 < m := by omega
    have hbase : h.1 = m := hn
    have hbasl : h.2.1 = sl := hs
    have hf : ax_fr (fun x => x ∈ [n + 3]) h h := ax_fr.rf
    refine ar_iload_n 89 d_9_88 rfl rfl ?_
    refine ar_aload_n 90 d_9_89 rfl rfl ?_
    refine ar_getf 93 d_9_90 rfl (ci := 4) (k := 6) rfl (hF.at 0 rfl) rfl ?_
    refine ar_alen 94 d_9_93 rfl (hF.at 1 rfl) (by decide) ?_
    refine ar_icmp_ge 116 97 d_9_94 (by decide) rfl (fun c => absurd c (nI_ge hlt (show 24 < 2 ^ 31 by decide))) (fun _ => ?_)
    refine ar_aload_n 98 d_9_97 rfl rfl ?_
    refine ar_getf 101 d_9_98 rfl (ci := 4) (k := 6) rfl (hF.at 0 rfl) rfl ?_
    refine ar_iload_n 102 d_9_101 rfl rfl ?_
    refine ar_new 105 d_9_102 rfl (ci := 5) rfl ?_
    rw [hn]
    refine ar_heap (h' := ax_push h 8 (.inr (5, [.int 0, .int 0, .int 0, .int 0, .int 0, .int 0, .int 0, .null]))) rfl ?_
    replace hF : ax_hs (ax_push h 8 (.inr (5, [.int 0, .int 0, .int 0, .int 0, .int 0, .int 0, .int 0, .null]))) [(as, .inr (4, [.ref rk, .ref nt, .ref n, .int 0, .ref (n + 1), .ref (n + 2), .ref (n + 3), .ref (n + 4), .int 0, .int 0, .int 0, .int 0, .int (-1), .int 1, .int (allN nn), .int (allN nn)])), (n + 3, .inl (4, 24, .inr (.inr (.inr (.inr (fun j => if j < i then some (n + 5 + 2 * j) else none)))))), (m, .inr (5, [.int 0, .int 0, .int 0, .int 0, .int 0, .int 0, .int 0, .null]))] := hF.push (by omega) 8 _ (by rw [hn]; rfl)
    replace hf := hf.push (n := 8) (c := .inr (5, [.int 0, .int 0, .int 0, .int 0, .int 0, .int 0, .int 0, .null]))
    replace hn : (ax_push h 8 (.inr (5, [.int 0, .int 0, .int 0, .int 0, .int 0, .int 0, .int 0, .null]))).1 = m + 1 := by show h.1 + 1 = _; rw [hn]
    replace hs : (ax_push h 8 (.inr (5, [.int 0, .int 0, .int 0, .int 0, .int 0, .int 0, .int 0, .null]))).2.1 = sl + 8 := by show h.2.1 + 8 = _; omega
    generalize ax_push h 8 (.inr (5, [.int 0, .int 0, .int 0, .int 0, .int 0, .int 0, .int 0, .null])) = h1 at hF hf hn hs ⊢
    refine ar_dup 106 d_9_105 rfl rfl ?_
    refine ar_call (r := [.ref m, .int (nI i), .ref (n + 3)]) (na := 0) (kd := 0) (cm := 10) (fr2 := fr - 1) (lo2 := lo - 20) 109 d_9_106 (ar_hoI (as := []) rfl rfl rfl) rfl (by omega) (show lo - 20 + (19 + 1) = lo by omega) (Nat.le_of_ble_eq_true rfl) (Nat.le_of_ble_eq_true rfl) (c_10 (by omega) (by omega) (hF.sub (F' := [(m, .inr (5, [.int 0, .int 0, .int 0, .int 0, .int 0, .int 0, .int 0, .null]))]) [2] rfl rfl) hn hs (by omega)) ?_
    intro v h2 hq
    obtain ⟨rfl, qF, qn, qs, qf⟩ := hq
    have qF : ax_hs h2 [(m, .inr (5, [.int 0, .int 0, .int 0, .int 0, .int 0, .int 0, .int 0, .ref (m + 1)])), (m + 1, .inl (0, 612, .inl (fun _ => 0)))] := qF
    replace hF : ax_hs h2 [(as, .inr (4, [.ref rk, .ref nt, .ref n, .int 0, .ref (n + 1), .ref (n + 2), .ref (n + 3), .ref (n + 4), .int 0, .int 0, .int 0, .int 0, .int (-1), .int 1, .int (allN nn), .int (allN nn)])), (n + 3, .inl (4, 24, .inr (.inr (.inr (.inr (fun j => if j < i then some (n + 5 + 2 * j) else none)))))), (m, .inr (5, [.int 0, .int 0, .int 0, .int 0, .int 0, .int 0, .int 0, .ref (m + 1)])), (m + 1, .inl (0, 612, .inl (fun _ => 0)))] := ax_hs.call (rest := [(as, .inr (4, [.ref rk, .ref nt, .ref n, .int 0, .ref (n + 1), .ref (n + 2), .ref (n + 3), .ref (n + 4), .int 0, .int 0, .int 0, .int 0, .int (-1), .int 1, .int (allN nn), .int (allN nn)])), (n + 3, .inl (4, 24, .inr (.inr (.inr (.inr (fun j => if j < i then some (n + 5 + 2 * j) else none))))))]) [2] [0, 1] hF qf qF rfl rfl rfl [2] rfl rfl [2] (news := [m + 1]) rfl rfl (by rw [hn]; simp; try omega) rfl
    replace hf := hf.trC qf (by intro x hx hB; simp at hB; first | (rcases hB with rfl <;> first | omega | simp) | omega | simp [hB])
    replace hn : h2.1 = m + 2 := by omega
    replace hs : h2.2.1 = sl + 620 := by omega
    clear qF qn qs qf
    refine ar_aast 110 d_9_109 rfl (hF.at 1 rfl) rfl (hF.at 2 rfl) (vp_in_nI hlt (show 24 < 2 ^ 31 by decide)) ?_
    replace hF : ax_hs (ax_put h2 (n + 3) (.inl (4, 24, .inr (.inr (.inr (.inr (va_up (fun j => if j < i then some (n + 5 + 2 * j) else none) (nI i).toNatClampNeg (some m)))))))) [(as, .inr (4, [.ref rk, .ref nt, .ref n, .int 0, .ref (n + 1), .ref (n + 2), .ref (n + 3), .ref (n + 4), .int 0, .int 0, .int 0, .int 0, .int (-1), .int 1, .int (allN nn), .int (allN nn)])), (n + 3, .inl (4, 24, .inr (.inr (.inr (.inr (va_up (fun j => if j < i then some (n + 5 + 2 * j) else none) (nI i).toNatClampNeg (some m))))))), (m, .inr (5, [.int 0, .int 0, .int 0, .int 0, .int 0, .int 0, .int 0, .ref (m + 1)])), (m + 1, .inl (0, 612, .inl (fun _ => 0)))] := hF.put 1 _ rfl rfl
    replace hf := hf.put (a := n + 3) (c := .inl (4, 24, .inr (.inr (.inr (.inr (va_up (fun j => if j < i then some (n + 5 + 2 * j) else none) (nI i).toNatClampNeg (some m))))))) (by simp)
    replace hn : (ax_put h2 (n + 3) (.inl (4, 24, .inr (.inr (.inr (.inr (va_up (fun j => if j < i then some (n + 5 + 2 * j) else none) (nI i).toNatClampNeg (some m)))))))).1 = m + 2 := hn
    replace hs : (ax_put h2 (n + 3) (.inl (4, 24, .inr (.inr (.inr (.inr (va_up (fun j => if j < i then some (n + 5 + 2 * j) else none) (nI i).toNatClampNeg (some m)))))))).2.1 = sl + 620 := hs
    generalize ax_put h2 (n + 3) (.inl (4, 24, .inr (.inr (.inr (.inr (va_up (fun j => if j < i then some (n + 5 + 2 * j) else none) (nI i).toNatClampNeg (some m))))))) = h3 at hF hf hn hs ⊢
    refine ar_iinc 113 [(0, .ref as), (1, .ref rk), (2, .ref nt), (3, .int (nI (i + 1)))] d_9_110 rfl rfl (nI_1 i) (by decide) rfl ?_
    refine ar_goto 88 d_9_113 (by decide) ?_
    have ef : va_up (fun j => if j < i then some (n + 5 + 2 * j) else none) (nI i).toNatClampNeg (some m) = (fun j => if j < i + 1 then some (n + 5 + 2 * j) else none) := by
      funext j
      rw [nI_clamp (by omega)]
      show (if j = i then some m else if j < i then some (n + 5 + 2 * j) else none) = (if j < i + 1 then some (n + 5 + 2 * j) else none)
      by_cases h1 : j = i
      · subst h1
        rw [if_pos rfl, if_pos (by omega), hm]
      · rw [if_neg h1]
        by_cases h2 : j < i
        · rw [if_pos h2, if_pos (by omega)]
        · rw [if_neg h2, if_neg (by omega)]
    rw [ef] at hF
    refine ih (i + 1) (by omega) h3 (m + 2) (sl + 620) (by omega) (by omega) hn hs h0n (hf0.trC hf (fun x hx hB => hB)) (hF.sub (F' := [(as, .inr (4, [.ref rk, .ref nt, .ref n, .int 0, .ref (n + 1), .ref (n + 2), .ref (n + 3), .ref (n + 4), .int 0, .int 0, .int 0, .int 0, .int (-1), .int 1, .int (allN nn), .int (allN nn)])), (n + 3, .inl (4, 24, .inr (.inr (.inr (.inr (fun j => if j < i + 1 then some (n + 5 + 2 * j) else none))))))]) [0, 1] rfl rfl) (fun j hj => ?_)
    by_cases hji : j < i
    · exact (hms j hji).fr hf (by simp; omega) (by simp; omega)
    · have e : n + 5 + 2 * j = m := by omega
      rw [e]
      exact ⟨hF.at 2 rfl, hF.at 3 rfl⟩
set_option maxRecDepth 100000 in
theorem c_9 {L : Nat} {xs : Nat → Int32} {fr lo as rk nt nn gg o n sl : Nat} {C : Int32} {h : ax_H} (hfr : 2 ≤ fr) (hlo : 32 ≤ lo) (hF : ax_hs h [(as, .inr (4, [.null, .null, .null, .int 0, .null, .null, .null, .null, .int 0, .int 0, .int 0, .int 0, .int 0, .int 0, .int 0, .int 0])), (rk, .inr (3, [.int (nI nn), .int C, .int (nI gg), .ref o]))]) (hn : h.1 = n) (hs : h.2.1 = sl) (hn0 : 0 < n) : ax_M L xs 9 fr lo [.ref as, .ref rk, .ref nt] h (fun r h' => r = none ∧ ax_hs h' [(as, .inr (4, [.ref rk, .ref nt, .ref n, .int 0, .ref (n + 1), .ref (n + 2), .ref (n + 3), .ref (n + 4), .int 0, .int 0, .int 0, .int 0, .int (-1), .int 1, .int (allN nn), .int (allN nn)])), (rk, .inr (3, [.int (nI nn), .int C, .int (nI gg), .ref o])), (n, .inl (0, 512, .inl (fun _ => 0))), (n + 1, .inl (0, 100, .inl (fun _ => 0))), (n + 2, .inl (0, 2, .inl (fun _ => 0))), (n + 3, .inl (4, 24, .inr (.inr (.inr (.inr (fun j => if j < 24 then some (n + 5 + 2 * j) else none)))))), (n + 4, .inl (0, 512, .inl (fun _ => 0)))] ∧ (∀ j, j < 24 → ak_at h' (n + 5 + 2 * j)) ∧ h'.1 = n + 53 ∧ h'.2.1 = sl + 16030 ∧ ax_fr (fun x => x ∈ [as]) h h') := by
  have has : as < n := by
    have := (ax_g_lt (hF.at 0 rfl)).2
    omega
  have hrk : rk < n := by
    have := (ax_g_lt (hF.at 1 rfl)).2
    omega
  show ax_A (ax_step L xs) ((9, 0, fr, lo), [(0, .ref as), (1, .ref rk), (2, .ref nt)], [], h) _
  have hbase : h.1 = n := hn
  have hbasl : h.2.1 = sl := hs
  have hf : ax_fr (fun x => x ∈ [as]) h h := ax_fr.rf
  refine ar_aload_n 1 d_9_0 rfl rfl ?_
  refine ar_objI 4 d_9_1 rfl rfl (by omega) (by show 0 + 12 ≤ lo; omega) ?_
  refine ar_aload_n 5 d_9_4 rfl rfl ?_
  refine ar_sipush 8 (v := 512) d_9_5 rfl (by decide) ?_
  refine ar_newi 10 d_9_8 rfl (by decide) (N := 512) (by decide) (by decide) ?_
  rw [hn]
  replace hF : ax_hs (ax_push h 512 (.inl (0, 512, .inl (fun _ => 0)))) [(as, .inr (4, [.null, .null, .null, .int 0, .null, .null, .null, .null, .int 0, .int 0, .int 0, .int 0, .int 0, .int 0, .int 0, .int 0])), (rk, .inr (3, [.int (nI nn), .int C, .int (nI gg), .ref o])), (n, .inl (0, 512, .inl (fun _ => 0)))] := hF.push (by omega) 512 _ (by rw [hn]; rfl)
  replace hf := hf.push (n := 512) (c := .inl (0, 512, .inl (fun _ => 0)))
  replace hn : (ax_push h 512 (.inl (0, 512, .inl (fun _ => 0)))).1 = n + 1 := by show h.1 + 1 = _; rw [hn]
  replace hs : (ax_push h 512 (.inl (0, 512, .inl (fun _ => 0)))).2.1 = sl + 512 := by show h.2.1 + 512 = _; omega
  generalize ax_push h 512 (.inl (0, 512, .inl (fun _ => 0))) = h1 at hF hf hn hs ⊢
  refine ar_putf 13 [.null, .null, .ref n, .int 0, .null, .null, .null, .null, .int 0, .int 0, .int 0, .int 0, .int 0, .int 0, .int 0, .int 0] d_9_10 rfl (ci := 4) (k := 2) rfl (by decide +kernel) (hF.at 0 rfl) (Nat.le_of_ble_eq_true rfl) rfl rfl rfl ?_
  replace hF : ax_hs (ax_put h1 as (.inr (4, [.null, .null, .ref n, .int 0, .null, .null, .null, .null, .int 0, .int 0, .int 0, .int 0, .int 0, .int 0, .int 0, .int 0]))) [(as, .inr (4, [.null, .null, .ref n, .int 0, .null, .null, .null, .null, .int 0, .int 0, .int 0, .int 0, .int 0, .int 0, .int 0, .int 0])), (rk, .inr (3, [.int (nI nn), .int C, .int (nI gg), .ref o])), (n, .inl (0, 512, .inl (fun _ => 0)))] := hF.put 0 _ rfl rfl
  replace hf := hf.put (a := as) (c := .inr (4, [.null, .null, .ref n, .int 0, .null, .null, .null, .null, .int 0, .int 0, .int 0, .int 0, .int 0, .int 0, .int 0, .int 0])) (by simp)
  replace hn : (ax_put h1 as (.inr (4, [.null, .null, .ref n, .int 0, .null, .null, .null, .null, .int 0, .int 0, .int 0, .int 0, .int 0, .int 0, .int 0, .int 0]))).1 = n + 1 := hn
  replace hs : (ax_put h1 as (.inr (4, [.null, .null, .ref n, .int 0, .null, .null, .null, .null, .int 0, .int 0, .int 0, .int 0, .int 0, .int 0, .int 0, .int 0]))).2.1 = sl + 512 := hs
  generalize ax_put h1 as (.inr (4, [.null, .null, .ref n, .int 0, .null, .null, .null, .null, .int 0, .int 0, .int 0, .int 0, .int 0, .int 0, .int 0, .int 0])) = h2 at hF hf hn hs ⊢
  refine ar_aload_n 14 d_9_13 rfl rfl ?_
  refine ar_bipush 16 (v := 100) d_9_14 rfl (by decide) ?_
  refine ar_newi 18 d_9_16 rfl (by decide) (N := 100) (by decide) (by decide) ?_
  rw [hn]
  replace hF : ax_hs (ax_push h2 100 (.inl (0, 100, .inl (fun _ => 0)))) [(as, .inr (4, [.null, .null, .ref n, .int 0, .null, .null, .null, .null, .int 0, .int 0, .int 0, .int 0, .int 0, .int 0, .int 0, .int 0])), (rk, .inr (3, [.int (nI nn), .int C, .int (nI gg), .ref o])), (n, .inl (0, 512, .inl (fun _ => 0))), (n + 1, .inl (0, 100, .inl (fun _ => 0)))] := hF.push (by omega) 100 _ (by rw [hn]; rfl)
  replace hf := hf.push (n := 100) (c := .inl (0, 100, .inl (fun _ => 0)))
  replace hn : (ax_push h2 100 (.inl (0, 100, .inl (fun _ => 0)))).1 = n + 2 := by show h2.1 + 1 = _; rw [hn]
  replace hs : (ax_push h2 100 (.inl (0, 100, .inl (fun _ => 0)))).2.1 = sl + 612 := by show h2.2.1 + 100 = _; omega
  generalize ax_push h2 100 (.inl (0, 100, .inl (fun _ => 0))) = h3 at hF hf hn hs ⊢
  refine ar_putf 21 [.null, .null, .ref n, .int 0, .ref (n + 1), .null, .null, .null, .int 0, .int 0, .int 0, .int 0, .int 0, .int 0, .int 0, .int 0] d_9_18 rfl (ci := 4) (k := 4) rfl (by decide +kernel) (hF.at 0 rfl) (Nat.le_of_ble_eq_true rfl) rfl rfl rfl ?_
  replace hF : ax_hs (ax_put h3 as (.inr (4, [.null, .null, .ref n, .int 0, .ref (n + 1), .null, .null, .null, .int 0, .int 0, .int 0, .int 0, .int 0, .int 0, .int 0, .int 0]))) [(as, .inr (4, [.null, .null, .ref n, .int 0, .ref (n + 1), .null, .null, .null, .int 0, .int 0, .int 0, .int 0, .int 0, .int 0, .int 0, .int 0])), (rk, .inr (3, [.int (nI nn), .int C, .int (nI gg), .ref o])), (n, .inl (0, 512, .inl (fun _ => 0))), (n + 1, .inl (0, 100, .inl (fun _ => 0)))] := hF.put 0 _ rfl rfl
  replace hf := hf.put (a := as) (c := .inr (4, [.null, .null, .ref n, .int 0, .ref (n + 1), .null, .null, .null, .int 0, .int 0, .int 0, .int 0, .int 0, .int 0, .int 0, .int 0])) (by simp)
  replace hn : (ax_put h3 as (.inr (4, [.null, .null, .ref n, .int 0, .ref (n + 1), .null, .null, .null, .int 0, .int 0, .int 0, .int 0, .int 0, .int 0, .int 0, .int 0]))).1 = n + 2 := hn
  replace hs : (ax_put h3 as (.inr (4, [.null, .null, .ref n, .int 0, .ref (n + 1), .null, .null, .null, .int 0, .int 0, .int 0, .int 0, .int 0, .int 0, .int 0, .int 0]))).2.1 = sl + 612 := hs
  generalize ax_put h3 as (.inr (4, [.null, .null, .ref n, .int 0, .ref (n + 1), .null, .null, .null, .int 0, .int 0, .int 0, .int 0, .int 0, .int 0, .int 0, .int 0])) = h4 at hF hf hn hs ⊢
  refine ar_aload_n 22 d_9_21 rfl rfl ?_
  refine ar_iconst 23 (v := 2) d_9_22 rfl (by decide) ?_
  refine ar_newi 25 d_9_23 rfl (by decide) (N := 2) (by decide) (by decide) ?_
  rw [hn]
  replace hF : ax_hs (ax_push h4 2 (.inl (0, 2, .inl (fun _ => 0)))) [(as, .inr (4, [.null, .null, .ref n, .int 0, .ref (n + 1), .null, .null, .null, .int 0, .int 0, .int 0, .int 0, .int 0, .int 0, .int 0, .int 0])), (rk, .inr (3, [.int (nI nn), .int C, .int (nI gg), .ref o])), (n, .inl (0, 512, .inl (fun _ => 0))), (n + 1, .inl (0, 100, .inl (fun _ => 0))), (n + 2, .inl (0, 2, .inl (fun _ => 0)))] := hF.push (by omega) 2 _ (by rw [hn]; rfl)
  replace hf := hf.push (n := 2) (c := .inl (0, 2, .inl (fun _ => 0)))
  replace hn : (ax_push h4 2 (.inl (0, 2, .inl (fun _ => 0)))).1 = n + 3 := by show h4.1 + 1 = _; rw [hn]
  replace hs : (ax_push h4 2 (.inl (0, 2, .inl (fun _ => 0)))).2.1 = sl + 614 := by show h4.2.1 + 2 = _; omega
  generalize ax_push h4 2 (.inl (0, 2, .inl (fun _ => 0))) = h5 at hF hf hn hs ⊢
  refine ar_putf 28 [.null, .null, .ref n, .int 0, .ref (n + 1), .ref (n + 2), .null, .null, .int 0, .int 0, .int 0, .int 0, .int 0, .int 0, .int 0, .int 0] d_9_25 rfl (ci := 4) (k := 5) rfl (by decide +kernel) (hF.at 0 rfl) (Nat.le_of_ble_eq_true rfl) rfl rfl rfl ?_
  replace hF : ax_hs (ax_put h5 as (.inr (4, [.null, .null, .ref n, .int 0, .ref (n + 1), .ref (n + 2), .null, .null, .int 0, .int 0, .int 0, .int 0, .int 0, .int 0, .int 0, .int 0]))) [(as, .inr (4, [.null, .null, .ref n, .int 0, .ref (n + 1), .ref (n + 2), .null, .null, .int 0, .int 0, .int 0, .int 0, .int 0, .int 0, .int 0, .int 0])), (rk, .inr (3, [.int (nI nn), .int C, .int (nI gg), .ref o])), (n, .inl (0, 512, .inl (fun _ => 0))), (n + 1, .inl (0, 100, .inl (fun _ => 0))), (n + 2, .inl (0, 2, .inl (fun _ => 0)))] := hF.put 0 _ rfl rfl
  replace hf := hf.put (a := as) (c := .inr (4, [.null, .null, .ref n, .int 0, .ref (n + 1), .ref (n + 2), .null, .null, .int 0, .int 0, .int 0, .int 0, .int 0, .int 0, .int 0, .int 0])) (by simp)
  replace hn : (ax_put h5 as (.inr (4, [.null, .null, .ref n, .int 0, .ref (n + 1), .ref (n + 2), .null, .null, .int 0, .int 0, .int 0, .int 0, .int 0, .int 0, .int 0, .int 0]))).1 = n + 3 := hn
  replace hs : (ax_put h5 as (.inr (4, [.null, .null, .ref n, .int 0, .ref (n + 1), .ref (n + 2), .null, .null, .int 0, .int 0, .int 0, .int 0, .int 0, .int 0, .int 0, .int 0]))).2.1 = sl + 614 := hs
  generalize ax_put h5 as (.inr (4, [.null, .null, .ref n, .int 0, .ref (n + 1), .ref (n + 2), .null, .null, .int 0, .int 0, .int 0, .int 0, .int 0, .int 0, .int 0, .int 0])) = h6 at hF hf hn hs ⊢
  refine ar_aload_n 29 d_9_28 rfl rfl ?_
  refine ar_bipush 31 (v := 24) d_9_29 rfl (by decide) ?_
  refine ar_newq 34 d_9_31 rfl (t := 4) rfl (by decide) (N := 24) (by decide) (by decide) ?_
  rw [hn]
  replace hF : ax_hs (ax_push h6 24 (.inl (4, 24, .inr (.inr (.inr (.inr (fun _ => none))))))) [(as, .inr (4, [.null, .null, .ref n, .int 0, .ref (n + 1), .ref (n + 2), .null, .null, .int 0, .int 0, .int 0, .int 0, .int 0, .int 0, .int 0, .int 0])), (rk, .inr (3, [.int (nI nn), .int C, .int (nI gg), .ref o])), (n, .inl (0, 512, .inl (fun _ => 0))), (n + 1, .inl (0, 100, .inl (fun _ => 0))), (n + 2, .inl (0, 2, .inl (fun _ => 0))), (n + 3, .inl (4, 24, .inr (.inr (.inr (.inr (fun _ => none))))))] := hF.push (by omega) 24 _ (by rw [hn]; rfl)
  replace hf := hf.push (n := 24) (c := .inl (4, 24, .inr (.inr (.inr (.inr (fun _ => none))))))
  replace hn : (ax_push h6 24 (.inl (4, 24, .inr (.inr (.inr (.inr (fun _ => none))))))).1 = n + 4 := by show h6.1 + 1 = _; rw [hn]
  replace hs : (ax_push h6 24 (.inl (4, 24, .inr (.inr (.inr (.inr (fun _ => none))))))).2.1 = sl + 638 := by show h6.2.1 + 24 = _; omega
  generalize ax_push h6 24 (.inl (4, 24, .inr (.inr (.inr (.inr (fun _ => none)))))) = h7 at hF hf hn hs ⊢
  refine ar_putf 37 [.null, .null, .ref n, .int 0, .ref (n + 1), .ref (n + 2), .ref (n + 3), .null, .int 0, .int 0, .int 0, .int 0, .int 0, .int 0, .int 0, .int 0] d_9_34 rfl (ci := 4) (k := 6) rfl (by decide +kernel) (hF.at 0 rfl) (Nat.le_of_ble_eq_true rfl) rfl rfl rfl ?_
  replace hF : ax_hs (ax_put h7 as (.inr (4, [.null, .null, .ref n, .int 0, .ref (n + 1), .ref (n + 2), .ref (n + 3), .null, .int 0, .int 0, .int 0, .int 0, .int 0, .int 0, .int 0, .int 0]))) [(as, .inr (4, [.null, .null, .ref n, .int 0, .ref (n + 1), .ref (n + 2), .ref (n + 3), .null, .int 0, .int 0, .int 0, .int 0, .int 0, .int 0, .int 0, .int 0])), (rk, .inr (3, [.int (nI nn), .int C, .int (nI gg), .ref o])), (n, .inl (0, 512, .inl (fun _ => 0))), (n + 1, .inl (0, 100, .inl (fun _ => 0))), (n + 2, .inl (0, 2, .inl (fun _ => 0))), (n + 3, .inl (4, 24, .inr (.inr (.inr (.inr (fun _ => none))))))] := hF.put 0 _ rfl rfl
  replace hf := hf.put (a := as) (c := .inr (4, [.null, .null, .ref n, .int 0, .ref (n + 1), .ref (n + 2), .ref (n + 3), .null, .int 0, .int 0, .int 0, .int 0, .int 0, .int 0, .int 0, .int 0])) (by simp)
  replace hn : (ax_put h7 as (.inr (4, [.null, .null, .ref n, .int 0, .ref (n + 1), .ref (n + 2), .ref (n + 3), .null, .int 0, .int 0, .int 0, .int 0, .int 0, .int 0, .int 0, .int 0]))).1 = n + 4 := hn
  replace hs : (ax_put h7 as (.inr (4, [.null, .null, .ref n, .int 0, .ref (n + 1), .ref (n + 2), .ref (n + 3), .null, .int 0, .int 0, .int 0, .int 0, .int 0, .int 0, .int 0, .int 0]))).2.1 = sl + 638 := hs
  generalize ax_put h7 as (.inr (4, [.null, .null, .ref n, .int 0, .ref (n + 1), .ref (n + 2), .ref (n + 3), .null, .int 0, .int 0, .int 0, .int 0, .int 0, .int 0, .int 0, .int 0])) = h8 at hF hf hn hs ⊢
  refine ar_aload_n 38 d_9_37 rfl rfl ?_
  refine ar_sipush 41 (v := 512) d_9_38 rfl (by decide) ?_
  refine ar_newi 43 d_9_41 rfl (by decide) (N := 512) (by decide) (by decide) ?_
  rw [hn]
  replace hF : ax_hs (ax_push h8 512 (.inl (0, 512, .inl (fun _ => 0)))) [(as, .inr (4, [.null, .null, .ref n, .int 0, .ref (n + 1), .ref (n + 2), .ref (n + 3), .null, .int 0, .int 0, .int 0, .int 0, .int 0, .int 0, .int 0, .int 0])), (rk, .inr (3, [.int (nI nn), .int C, .int (nI gg), .ref o])), (n, .inl (0, 512, .inl (fun _ => 0))), (n + 1, .inl (0, 100, .inl (fun _ => 0))), (n + 2, .inl (0, 2, .inl (fun _ => 0))), (n + 3, .inl (4, 24, .inr (.inr (.inr (.inr (fun _ => none)))))), (n + 4, .inl (0, 512, .inl (fun _ => 0)))] := hF.push (by omega) 512 _ (by rw [hn]; rfl)
  replace hf := hf.push (n := 512) (c := .inl (0, 512, .inl (fun _ => 0)))
  replace hn : (ax_push h8 512 (.inl (0, 512, .inl (fun _ => 0)))).1 = n + 5 := by show h8.1 + 1 = _; rw [hn]
  replace hs : (ax_push h8 512 (.inl (0, 512, .inl (fun _ => 0)))).2.1 = sl + 1150 := by show h8.2.1 + 512 = _; omega
  generalize ax_push h8 512 (.inl (0, 512, .inl (fun _ => 0))) = h9 at hF hf hn hs ⊢
  refine ar_putf 46 [.null, .null, .ref n, .int 0, .ref (n + 1), .ref (n + 2), .ref (n + 3), .ref (n + 4), .int 0, .int 0, .int 0, .int 0, .int 0, .int 0, .int 0, .int 0] d_9_43 rfl (ci := 4) (k := 7) rfl (by decide +kernel) (hF.at 0 rfl) (Nat.le_of_ble_eq_true rfl) rfl rfl rfl ?_
  replace hF : ax_hs (ax_put h9 as (.inr (4, [.null, .null, .ref n, .int 0, .ref (n + 1), .ref (n + 2), .ref (n + 3), .ref (n + 4), .int 0, .int 0, .int 0, .int 0, .int 0, .int 0, .int 0, .int 0]))) [(as, .inr (4, [.null, .null, .ref n, .int 0, .ref (n + 1), .ref (n + 2), .ref (n + 3), .ref (n + 4), .int 0, .int 0, .int 0, .int 0, .int 0, .int 0, .int 0, .int 0])), (rk, .inr (3, [.int (nI nn), .int C, .int (nI gg), .ref o])), (n, .inl (0, 512, .inl (fun _ => 0))), (n + 1, .inl (0, 100, .inl (fun _ => 0))), (n + 2, .inl (0, 2, .inl (fun _ => 0))), (n + 3, .inl (4, 24, .inr (.inr (.inr (.inr (fun _ => none)))))), (n + 4, .inl (0, 512, .inl (fun _ => 0)))] := hF.put 0 _ rfl rfl
  replace hf := hf.put (a := as) (c := .inr (4, [.null, .null, .ref n, .int 0, .ref (n + 1), .ref (n + 2), .ref (n + 3), .ref (n + 4), .int 0, .int 0, .int 0, .int 0, .int 0, .int 0, .int 0, .int 0])) (by simp)
  replace hn : (ax_put h9 as (.inr (4, [.null, .null, .ref n, .int 0, .ref (n + 1), .ref (n + 2), .ref (n + 3), .ref (n + 4), .int 0, .int 0, .int 0, .int 0, .int 0, .int 0, .int 0, .int 0]))).1 = n + 5 := hn
  replace hs : (ax_put h9 as (.inr (4, [.null, .null, .ref n, .int 0, .ref (n + 1), .ref (n + 2), .ref (n + 3), .ref (n + 4), .int 0, .int 0, .int 0, .int 0, .int 0, .int 0, .int 0, .int 0]))).2.1 = sl + 1150 := hs
  generalize ax_put h9 as (.inr (4, [.null, .null, .ref n, .int 0, .ref (n + 1), .ref (n + 2), .ref (n + 3), .ref (n + 4), .int 0, .int 0, .int 0, .int 0, .int 0, .int 0, .int 0, .int 0])) = h10 at hF hf hn hs ⊢
  refine ar_aload_n 47 d_9_46 rfl rfl ?_
  refine ar_iconst 48 (v := -1) d_9_47 rfl (by decide) ?_
  refine ar_putf 51 [.null, .null, .ref n, .int 0, .ref (n + 1), .ref (n + 2), .ref (n + 3), .ref (n + 4), .int 0, .int 0, .int 0, .int 0, .int (-1), .int 0, .int 0, .int 0] d_9_48 rfl (ci := 4) (k := 12) rfl rfl (hF.at 0 rfl) (Nat.le_of_ble_eq_true rfl) rfl rfl rfl ?_
  replace hF : ax_hs (ax_put h10 as (.inr (4, [.null, .null, .ref n, .int 0, .ref (n + 1), .ref (n + 2), .ref (n + 3), .ref (n + 4), .int 0, .int 0, .int 0, .int 0, .int (-1), .int 0, .int 0, .int 0]))) [(as, .inr (4, [.null, .null, .ref n, .int 0, .ref (n + 1), .ref (n + 2), .ref (n + 3), .ref (n + 4), .int 0, .int 0, .int 0, .int 0, .int (-1), .int 0, .int 0, .int 0])), (rk, .inr (3, [.int (nI nn), .int C, .int (nI gg), .ref o])), (n, .inl (0, 512, .inl (fun _ => 0))), (n + 1, .inl (0, 100, .inl (fun _ => 0))), (n + 2, .inl (0, 2, .inl (fun _ => 0))), (n + 3, .inl (4, 24, .inr (.inr (.inr (.inr (fun _ => none)))))), (n + 4, .inl (0, 512, .inl (fun _ => 0)))] := hF.put 0 _ rfl rfl
  replace hf := hf.put (a := as) (c := .inr (4, [.null, .null, .ref n, .int 0, .ref (n + 1), .ref (n + 2), .ref (n + 3), .ref (n + 4), .int 0, .int 0, .int 0, .int 0, .int (-1), .int 0, .int 0, .int 0])) (by simp)
  replace hn : (ax_put h10 as (.inr (4, [.null, .null, .ref n, .int 0, .ref (n + 1), .ref (n + 2), .ref (n + 3), .ref (n + 4), .int 0, .int 0, .int 0, .int 0, .int (-1), .int 0, .int 0, .int 0]))).1 = n + 5 := hn
  replace hs : (ax_put h10 as (.inr (4, [.null, .null, .ref n, .int 0, .ref (n + 1), .ref (n + 2), .ref (n + 3), .ref (n + 4), .int 0, .int 0, .int 0, .int 0, .int (-1), .int 0, .int 0, .int 0]))).2.1 = sl + 1150 := hs
  generalize ax_put h10 as (.inr (4, [.null, .null, .ref n, .int 0, .ref (n + 1), .ref (n + 2), .ref (n + 3), .ref (n + 4), .int 0, .int 0, .int 0, .int 0, .int (-1), .int 0, .int 0, .int 0])) = h11 at hF hf hn hs ⊢
  refine ar_aload_n 52 d_9_51 rfl rfl ?_
  refine ar_iconst 53 (v := 1) d_9_52 rfl (by decide) ?_
  refine ar_putf 56 [.null, .null, .ref n, .int 0, .ref (n + 1), .ref (n + 2), .ref (n + 3), .ref (n + 4), .int 0, .int 0, .int 0, .int 0, .int (-1), .int 1, .int 0, .int 0] d_9_53 rfl (ci := 4) (k := 13) rfl rfl (hF.at 0 rfl) (Nat.le_of_ble_eq_true rfl) rfl rfl rfl ?_
  replace hF : ax_hs (ax_put h11 as (.inr (4, [.null, .null, .ref n, .int 0, .ref (n + 1), .ref (n + 2), .ref (n + 3), .ref (n + 4), .int 0, .int 0, .int 0, .int 0, .int (-1), .int 1, .int 0, .int 0]))) [(as, .inr (4, [.null, .null, .ref n, .int 0, .ref (n + 1), .ref (n + 2), .ref (n + 3), .ref (n + 4), .int 0, .int 0, .int 0, .int 0, .int (-1), .int 1, .int 0, .int 0])), (rk, .inr (3, [.int (nI nn), .int C, .int (nI gg), .ref o])), (n, .inl (0, 512, .inl (fun _ => 0))), (n + 1, .inl (0, 100, .inl (fun _ => 0))), (n + 2, .inl (0, 2, .inl (fun _ => 0))), (n + 3, .inl (4, 24, .inr (.inr (.inr (.inr (fun _ => none)))))), (n + 4, .inl (0, 512, .inl (fun _ => 0)))] := hF.put 0 _ rfl rfl
  replace hf := hf.put (a := as) (c := .inr (4, [.null, .null, .ref n, .int 0, .ref (n + 1), .ref (n + 2), .ref (n + 3), .ref (n + 4), .int 0, .int 0, .int 0, .int 0, .int (-1), .int 1, .int 0, .int 0])) (by simp)
  replace hn : (ax_put h11 as (.inr (4, [.null, .null, .ref n, .int 0, .ref (n + 1), .ref (n + 2), .ref (n + 3), .ref (n + 4), .int 0, .int 0, .int 0, .int 0, .int (-1), .int 1, .int 0, .int 0]))).1 = n + 5 := hn
  replace hs : (ax_put h11 as (.inr (4, [.null, .null, .ref n, .int 0, .ref (n + 1), .ref (n + 2), .ref (n + 3), .ref (n + 4), .int 0, .int 0, .int 0, .int 0, .int (-1), .int 1, .int 0, .int 0]))).2.1 = sl + 1150 := hs
  generalize ax_put h11 as (.inr (4, [.null, .null, .ref n, .int 0, .ref (n + 1), .ref (n + 2), .ref (n + 3), .ref (n + 4), .int 0, .int 0, .int 0, .int 0, .int (-1), .int 1, .int 0, .int 0])) = h12 at hF hf hn hs ⊢
  refine ar_aload_n 57 d_9_56 rfl rfl ?_
  refine ar_aload_n 58 d_9_57 rfl rfl ?_
  refine ar_putf 61 [.ref rk, .null, .ref n, .int 0, .ref (n + 1), .ref (n + 2), .ref (n + 3), .ref (n + 4), .int 0, .int 0, .int 0, .int 0, .int (-1), .int 1, .int 0, .int 0] d_9_58 rfl (ci := 4) (k := 0) rfl (by decide +kernel) (hF.at 0 rfl) (Nat.le_of_ble_eq_true rfl) rfl rfl rfl ?_
  replace hF : ax_hs (ax_put h12 as (.inr (4, [.ref rk, .null, .ref n, .int 0, .ref (n + 1), .ref (n + 2), .ref (n + 3), .ref (n + 4), .int 0, .int 0, .int 0, .int 0, .int (-1), .int 1, .int 0, .int 0]))) [(as, .inr (4, [.ref rk, .null, .ref n, .int 0, .ref (n + 1), .ref (n + 2), .ref (n + 3), .ref (n + 4), .int 0, .int 0, .int 0, .int 0, .int (-1), .int 1, .int 0, .int 0])), (rk, .inr (3, [.int (nI nn), .int C, .int (nI gg), .ref o])), (n, .inl (0, 512, .inl (fun _ => 0))), (n + 1, .inl (0, 100, .inl (fun _ => 0))), (n + 2, .inl (0, 2, .inl (fun _ => 0))), (n + 3, .inl (4, 24, .inr (.inr (.inr (.inr (fun _ => none)))))), (n + 4, .inl (0, 512, .inl (fun _ => 0)))] := hF.put 0 _ rfl rfl
  replace hf := hf.put (a := as) (c := .inr (4, [.ref rk, .null, .ref n, .int 0, .ref (n + 1), .ref (n + 2), .ref (n + 3), .ref (n + 4), .int 0, .int 0, .int 0, .int 0, .int (-1), .int 1, .int 0, .int 0])) (by simp)
  replace hn : (ax_put h12 as (.inr (4, [.ref rk, .null, .ref n, .int 0, .ref (n + 1), .ref (n + 2), .ref (n + 3), .ref (n + 4), .int 0, .int 0, .int 0, .int 0, .int (-1), .int 1, .int 0, .int 0]))).1 = n + 5 := hn
  replace hs : (ax_put h12 as (.inr (4, [.ref rk, .null, .ref n, .int 0, .ref (n + 1), .ref (n + 2), .ref (n + 3), .ref (n + 4), .int 0, .int 0, .int 0, .int 0, .int (-1), .int 1, .int 0, .int 0]))).2.1 = sl + 1150 := hs
  generalize ax_put h12 as (.inr (4, [.ref rk, .null, .ref n, .int 0, .ref (n + 1), .ref (n + 2), .ref (n + 3), .ref (n + 4), .int 0, .int 0, .int 0, .int 0, .int (-1), .int 1, .int 0, .int 0])) = h13 at hF hf hn hs ⊢
  refine ar_aload_n 62 d_9_61 rfl rfl ?_
  refine ar_aload_n 63 d_9_62 rfl rfl ?_
  refine ar_putf 66 [.ref rk, .ref nt, .ref n, .int 0, .ref (n + 1), .ref (n + 2), .ref (n + 3), .ref (n + 4), .int 0, .int 0, .int 0, .int 0, .int (-1), .int 1, .int 0, .int 0] d_9_63 rfl (ci := 4) (k := 1) rfl (by decide +kernel) (hF.at 0 rfl) (Nat.le_of_ble_eq_true rfl) rfl rfl rfl ?_
  replace hF : ax_hs (ax_put h13 as (.inr (4, [.ref rk, .ref nt, .ref n, .int 0, .ref (n + 1), .ref (n + 2), .ref (n + 3), .ref (n + 4), .int 0, .int 0, .int 0, .int 0, .int (-1), .int 1, .int 0, .int 0]))) [(as, .inr (4, [.ref rk, .ref nt, .ref n, .int 0, .ref (n + 1), .ref (n + 2), .ref (n + 3), .ref (n + 4), .int 0, .int 0, .int 0, .int 0, .int (-1), .int 1, .int 0, .int 0])), (rk, .inr (3, [.int (nI nn), .int C, .int (nI gg), .ref o])), (n, .inl (0, 512, .inl (fun _ => 0))), (n + 1, .inl (0, 100, .inl (fun _ => 0))), (n + 2, .inl (0, 2, .inl (fun _ => 0))), (n + 3, .inl (4, 24, .inr (.inr (.inr (.inr (fun _ => none)))))), (n + 4, .inl (0, 512, .inl (fun _ => 0)))] := hF.put 0 _ rfl rfl
  replace hf := hf.put (a := as) (c := .inr (4, [.ref rk, .ref nt, .ref n, .int 0, .ref (n + 1), .ref (n + 2), .ref (n + 3), .ref (n + 4), .int 0, .int 0, .int 0, .int 0, .int (-1), .int 1, .int 0, .int 0])) (by simp)
  replace hn : (ax_put h13 as (.inr (4, [.ref rk, .ref nt, .ref n, .int 0, .ref (n + 1), .ref (n + 2), .ref (n + 3), .ref (n + 4), .int 0, .int 0, .int 0, .int 0, .int (-1), .int 1, .int 0, .int 0]))).1 = n + 5 := hn
  replace hs : (ax_put h13 as (.inr (4, [.ref rk, .ref nt, .ref n, .int 0, .ref (n + 1), .ref (n + 2), .ref (n + 3), .ref (n + 4), .int 0, .int 0, .int 0, .int 0, .int (-1), .int 1, .int 0, .int 0]))).2.1 = sl + 1150 := hs
  generalize ax_put h13 as (.inr (4, [.ref rk, .ref nt, .ref n, .int 0, .ref (n + 1), .ref (n + 2), .ref (n + 3), .ref (n + 4), .int 0, .int 0, .int 0, .int 0, .int (-1), .int 1, .int 0, .int 0])) = h14 at hF hf hn hs ⊢
  refine ar_aload_n 67 d_9_66 rfl rfl ?_
  refine ar_iconst 68 (v := 1) d_9_67 rfl (by decide) ?_
  refine ar_aload_n 69 d_9_68 rfl rfl ?_
  refine ar_getf 72 d_9_69 rfl (ci := 3) (k := 0) rfl (hF.at 1 rfl) rfl ?_
  refine ar_ishl 73 d_9_72 rfl ?_
  refine ar_iconst 74 (v := 1) d_9_73 rfl (by decide) ?_
  refine ar_isub 75 d_9_74 rfl ?_
  refine ar_top (x' := allN nn) (rfl) ?_
  refine ar_putf 78 [.ref rk, .ref nt, .ref n, .int 0, .ref (n + 1), .ref (n + 2), .ref (n + 3), .ref (n + 4), .int 0, .int 0, .int 0, .int 0, .int (-1), .int 1, .int (allN nn), .int 0] d_9_75 rfl (ci := 4) (k := 14) rfl rfl (hF.at 0 rfl) (Nat.le_of_ble_eq_true rfl) rfl rfl rfl ?_
  replace hF : ax_hs (ax_put h14 as (.inr (4, [.ref rk, .ref nt, .ref n, .int 0, .ref (n + 1), .ref (n + 2), .ref (n + 3), .ref (n + 4), .int 0, .int 0, .int 0, .int 0, .int (-1), .int 1, .int (allN nn), .int 0]))) [(as, .inr (4, [.ref rk, .ref nt, .ref n, .int 0, .ref (n + 1), .ref (n + 2), .ref (n + 3), .ref (n + 4), .int 0, .int 0, .int 0, .int 0, .int (-1), .int 1, .int (allN nn), .int 0])), (rk, .inr (3, [.int (nI nn), .int C, .int (nI gg), .ref o])), (n, .inl (0, 512, .inl (fun _ => 0))), (n + 1, .inl (0, 100, .inl (fun _ => 0))), (n + 2, .inl (0, 2, .inl (fun _ => 0))), (n + 3, .inl (4, 24, .inr (.inr (.inr (.inr (fun _ => none)))))), (n + 4, .inl (0, 512, .inl (fun _ => 0)))] := hF.put 0 _ rfl rfl
  replace hf := hf.put (a := as) (c := .inr (4, [.ref rk, .ref nt, .ref n, .int 0, .ref (n + 1), .ref (n + 2), .ref (n + 3), .ref (n + 4), .int 0, .int 0, .int 0, .int 0, .int (-1), .int 1, .int (allN nn), .int 0])) (by simp)
  replace hn : (ax_put h14 as (.inr (4, [.ref rk, .ref nt, .ref n, .int 0, .ref (n + 1), .ref (n + 2), .ref (n + 3), .ref (n + 4), .int 0, .int 0, .int 0, .int 0, .int (-1), .int 1, .int (allN nn), .int 0]))).1 = n + 5 := hn
  replace hs : (ax_put h14 as (.inr (4, [.ref rk, .ref nt, .ref n, .int 0, .ref (n + 1), .ref (n + 2), .ref (n + 3), .ref (n + 4), .int 0, .int 0, .int 0, .int 0, .int (-1), .int 1, .int (allN nn), .int 0]))).2.1 = sl + 1150 := hs
  generalize ax_put h14 as (.inr (4, [.ref rk, .ref nt, .ref n, .int 0, .ref (n + 1), .ref (n + 2), .ref (n + 3), .ref (n + 4), .int 0, .int 0, .int 0, .int 0, .int (-1), .int 1, .int (allN nn), .int 0])) = h15 at hF hf hn hs ⊢
  refine ar_aload_n 79 d_9_78 rfl rfl ?_
  refine ar_aload_n 80 d_9_79 rfl rfl ?_
  refine ar_getf 83 d_9_80 rfl (ci := 4) (k := 14) rfl (hF.at 0 rfl) rfl ?_
  refine ar_putf 86 [.ref rk, .ref nt, .ref n, .int 0, .ref (n + 1), .ref (n + 2), .ref (n + 3), .ref (n + 4), .int 0, .int 0, .int 0, .int 0, .int (-1), .int 1, .int (allN nn), .int (allN nn)] d_9_83 rfl (ci := 4) (k := 15) rfl rfl (hF.at 0 rfl) (Nat.le_of_ble_eq_true rfl) rfl rfl rfl ?_
  replace hF : ax_hs (ax_put h15 as (.inr (4, [.ref rk, .ref nt, .ref n, .int 0, .ref (n + 1), .ref (n + 2), .ref (n + 3), .ref (n + 4), .int 0, .int 0, .int 0, .int 0, .int (-1), .int 1, .int (allN nn), .int (allN nn)]))) [(as, .inr (4, [.ref rk, .ref nt, .ref n, .int 0, .ref (n + 1), .ref (n + 2), .ref (n + 3), .ref (n + 4), .int 0, .int 0, .int 0, .int 0, .int (-1), .int 1, .int (allN nn), .int (allN nn)])), (rk, .inr (3, [.int (nI nn), .int C, .int (nI gg), .ref o])), (n, .inl (0, 512, .inl (fun _ => 0))), (n + 1, .inl (0, 100, .inl (fun _ => 0))), (n + 2, .inl (0, 2, .inl (fun _ => 0))), (n + 3, .inl (4, 24, .inr (.inr (.inr (.inr (fun _ => none)))))), (n + 4, .inl (0, 512, .inl (fun _ => 0)))] := hF.put 0 _ rfl rfl
  replace hf := hf.put (a := as) (c := .inr (4, [.ref rk, .ref nt, .ref n, .int 0, .ref (n + 1), .ref (n + 2), .ref (n + 3), .ref (n + 4), .int 0, .int 0, .int 0, .int 0, .int (-1), .int 1, .int (allN nn), .int (allN nn)])) (by simp)
  replace hn : (ax_put h15 as (.inr (4, [.ref rk, .ref nt, .ref n, .int 0, .ref (n + 1), .ref (n + 2), .ref (n + 3), .ref (n + 4), .int 0, .int 0, .int 0, .int 0, .int (-1), .int 1, .int (allN nn), .int (allN nn)]))).1 = n + 5 := hn
  replace hs : (ax_put h15 as (.inr (4, [.ref rk, .ref nt, .ref n, .int 0, .ref (n + 1), .ref (n + 2), .ref (n + 3), .ref (n + 4), .int 0, .int 0, .int 0, .int 0, .int (-1), .int 1, .int (allN nn), .int (allN nn)]))).2.1 = sl + 1150 := hs
  generalize ax_put h15 as (.inr (4, [.ref rk, .ref nt, .ref n, .int 0, .ref (n + 1), .ref (n + 2), .ref (n + 3), .ref (n + 4), .int 0, .int 0, .int 0, .int 0, .int (-1), .int 1, .int (allN nn), .int (allN nn)])) = h16 at hF hf hn hs ⊢
  refine ar_iconst 87 (v := 0) d_9_86 rfl (by decide) ?_
  refine ar_istore_n 88 [(0, .ref as), (1, .ref rk), (2, .ref nt), (3, .int 0)] d_9_87 rfl (by decide) rfl ?_
  have ef : (fun j => if j < 0 then some (n + 5 + 2 * j) else none) = (fun _ : Nat => (none : Option Nat)) := by
    funext j
    exact if_neg (by omega)
  rw [← ef] at hF
  refine lp_9 (h0 := h16) (sl0 := sl + 1150) hfr hlo hn0 has (fun h' j1 j2 j3 j4 j5 => ?_) 24 0 rfl h16 (n + 5) (sl + 1150) (by omega) (by omega) hn hs hn ax_fr.rf (hF.sub [0, 5] rfl rfl) (fun j hj => by omega)
  have hF9 := ax_hs.call (rest := [(rk, .inr (3, [.int (nI nn), .int C, .int (nI gg), .ref o])), (n, .inl (0, 512, .inl (fun _ => 0))), (n + 1, .inl (0, 100, .inl (fun _ => 0))), (n + 2, .inl (0, 2, .inl (fun _ => 0))), (n + 4, .inl (0, 512, .inl (fun _ => 0)))]) [0, 5] [1, 2, 3, 4, 6] hF j5 j1 rfl rfl rfl [5] rfl rfl [0, 5] (news := []) rfl rfl (fun _ z => absurd z List.not_mem_nil) rfl
  exact ⟨rfl, hF9.sub (F' := [(as, .inr (4, [.ref rk, .ref nt, .ref n, .int 0, .ref (n + 1), .ref (n + 2), .ref (n + 3), .ref (n + 4), .int 0, .int 0, .int 0, .int 0, .int (-1), .int 1, .int (allN nn), .int (allN nn)])), (rk, .inr (3, [.int (nI nn), .int C, .int (nI gg), .ref o])), (n, .inl (0, 512, .inl (fun _ => 0))), (n + 1, .inl (0, 100, .inl (fun _ => 0))), (n + 2, .inl (0, 2, .inl (fun _ => 0))), (n + 3, .inl (4, 24, .inr (.inr (.inr (.inr (fun j => if j < 24 then some (n + 5 + 2 * j) else none)))))), (n + 4, .inl (0, 512, .inl (fun _ => 0)))]) [5, 0, 1, 2, 3, 6, 4] rfl rfl, j2, j3, by omega, hf.trC j5 (fun x hx hB => by simp at hB; omega)⟩


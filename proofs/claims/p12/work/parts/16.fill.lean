/-! frames; filling of arrays -/
theorem ax_hs.one {h : ax_H} {a : Nat} {c : va_E} (g : ax_g h a = some c) : ax_hs h [(a, c)] := ⟨fun i j p q hi hj _ => by
  have h1 := (List.getElem?_eq_some_iff.mp hi).1
  have h2 := (List.getElem?_eq_some_iff.mp hj).1
  simp at h1 h2
  omega, fun k q hk => by
  have h1 := (List.getElem?_eq_some_iff.mp hk).1
  simp at h1
  subst h1
  cases hk
  exact g⟩
def ax_fr (A : Nat → Prop) (h h' : ax_H) : Prop := ax_le h h' ∧ ∀ x, x < h.1 → ¬ A x → h'.2.2 x = h.2.2 x
theorem ax_fr.rf {A : Nat → Prop} {h : ax_H} : ax_fr A h h := ⟨ax_le.rf, fun _ _ _ => rfl⟩
theorem ax_fr.tr {A : Nat → Prop} {a b c : ax_H} (h1 : ax_fr A a b) (h2 : ax_fr A b c) : ax_fr A a c := ⟨h1.1.tr h2.1, fun x hx hA => (h2.2 x (Nat.lt_of_lt_of_le hx h1.1.1) hA).trans (h1.2 x hx hA)⟩
theorem ax_fr.mono {A B : Nat → Prop} {h h' : ax_H} (hf : ax_fr A h h') (hAB : ∀ x, A x → B x) : ax_fr B h h' := ⟨hf.1, fun x hx hB => hf.2 x hx (fun z => hB (hAB x z))⟩
theorem ax_fr.put {A : Nat → Prop} {h0 h : ax_H} {a : Nat} {c : va_E} (hf : ax_fr A h0 h) (ha : A a) : ax_fr A h0 (ax_put h a c) := ⟨hf.1, fun x hx hA => by
  have hxa : x ≠ a := fun e => hA (by rw [e]; exact ha)
  show (if x = a then c else h.2.2 x) = _
  rw [if_neg hxa]
  exact hf.2 x hx hA⟩
theorem ax_fr.push {A : Nat → Prop} {h0 h : ax_H} {n : Nat} {c : va_E} (hf : ax_fr A h0 h) : ax_fr A h0 (ax_push h n c) := ⟨hf.1.tr ⟨Nat.le_succ _, Nat.le_add_right _ _⟩, fun x hx hA => by
  have hxa : x ≠ h.1 := fun e => absurd hf.1.1 (by omega)
  show (if x = h.1 then c else h.2.2 x) = _
  rw [if_neg hxa]
  exact hf.2 x hx hA⟩
theorem ax_fr.g {A : Nat → Prop} {h h' : ax_H} (hf : ax_fr A h h') {a : Nat} {c : va_E} (g : ax_g h a = some c) (hA : ¬ A a) : ax_g h' a = some c := by
  obtain ⟨g1, g2⟩ := ax_g_lt g
  have g3 : h.2.2 a = c := by
    unfold ax_g at g
    rw [if_pos ⟨g1, g2⟩] at g
    exact Option.some.inj g
  unfold ax_g
  rw [if_pos ⟨g1, Nat.lt_of_lt_of_le g2 hf.1.1⟩, hf.2 a g2 hA, g3]
theorem ax_hs.fr {A : Nat → Prop} {h h' : ax_H} {F : List (Nat × va_E)} (hF : ax_hs h F) (hf : ax_fr A h h') (hA : ∀ q ∈ F, ¬ A q.1) : ax_hs h' F := ⟨hF.1, fun k q hk => hf.g (hF.2 k q hk) (hA q (List.mem_of_getElem? hk))⟩
theorem ax_put_self {h : ax_H} {a : Nat} {c : va_E} (g : ax_g h a = some c) : ax_put h a c = h := by
  obtain ⟨g1, g2⟩ := ax_g_lt g
  have g3 : h.2.2 a = c := by
    unfold ax_g at g
    rw [if_pos ⟨g1, g2⟩] at g
    exact Option.some.inj g
  obtain ⟨n, k, f⟩ := h
  show (n, k, va_up f a c) = (n, k, f)
  have : va_up f a c = f := by
    funext x
    show (if x = a then c else f x) = f x
    split
    · next e => rw [e]; exact g3.symm
    · rfl
  rw [this]
def ax_fill (f : Nat → Int32) (a b : Nat) (v : Int32) : Nat → Int32 := fun j => if a ≤ j ∧ j < b then v else f j
theorem ax_fill_0 (f : Nat → Int32) (a : Nat) (v : Int32) : ax_fill f a a v = f := by
  funext j
  exact if_neg (by omega)
theorem ax_fill_s (f : Nat → Int32) {a i : Nat} (v : Int32) (h : a ≤ i) : upd (ax_fill f a i v) i v = ax_fill f a (i + 1) v := by
  funext j
  by_cases hj : j = i
  · subst hj
    rw [pk_us]
    exact (if_pos ⟨h, Nat.lt_succ_self _⟩).symm
  · rw [pk_un hj]
    show (if a ≤ j ∧ j < i then v else f j) = (if a ≤ j ∧ j < i + 1 then v else f j)
    by_cases h1 : a ≤ j ∧ j < i
    · rw [if_pos h1, if_pos (by omega)]
    · rw [if_neg h1, if_neg (by omega)]
theorem lp_13 {L : Nat} {xs : Nat → Int32} {fr lo : Nat} {h : ax_H} {a N : Nat} {f : Nat → Int32} {v : Int32} {post : ax_Po} (g : ax_g h a = some (.inl (0, N, .inl f))) (hN : N < 2 ^ 31) (hp : post none (ax_put h a (.inl (0, N, .inl (ax_fill f 0 N v))))) : ∀ (k i : Nat), i + k = N → ax_A (ax_step L xs) ((13, 5, fr, lo), [(0, .ref a), (1, .int v), (2, .int (nI i)), (3, .int (nI N))], [], (ax_put h a (.inl (0, N, .inl (ax_fill f 0 i v))))) post := by
  intro k
  induction k with
  | zero =>
    intro i hi
    have e : i = N := by omega
    subst e
    skip
    refine ar_iload_n 6 d_13_5 rfl rfl ?_
    refine ar_iload_n 7 d_13_6 rfl rfl ?_
    refine ar_icmp_ge 20 10 d_13_7 (by decide) rfl (fun _ => ?_) (fun c => absurd (nI_le (Nat.le_refl _) hN) c)
    exact ar_ret d_13_20 rfl (hp)
  | succ k ih =>
    intro i hi
    have hlt : i < N := by omega
    have hF : ax_hs (ax_put h a (.inl (0, N, .inl (ax_fill f 0 i v)))) [(a, .inl (0, N, .inl (ax_fill f 0 i v)))] := (ax_hs.one g).put 0 _ rfl rfl
    refine ar_iload_n 6 d_13_5 rfl rfl ?_
    refine ar_iload_n 7 d_13_6 rfl rfl ?_
    refine ar_icmp_ge 20 10 d_13_7 (by decide) rfl (fun c => absurd c (nI_ge hlt hN)) (fun _ => ?_)
    refine ar_aload_n 11 d_13_10 rfl rfl ?_
    refine ar_iload_n 12 d_13_11 rfl rfl ?_
    refine ar_iload_n 13 d_13_12 rfl rfl ?_
    refine ar_iast 14 d_13_13 rfl (hF.at 0 rfl) (vp_in_nI hlt hN) ?_
    have hF : ax_hs (ax_put (ax_put h a (.inl (0, N, .inl (ax_fill f 0 i v)))) a (.inl (0, N, .inl (upd (ax_fill f 0 i v) (nI i).toNatClampNeg v)))) [(a, .inl (0, N, .inl (upd (ax_fill f 0 i v) (nI i).toNatClampNeg v)))] := hF.put 0 _ rfl rfl
    refine ar_heap ag_put2 ?_
    refine ar_heap (h' := ax_put h a (.inl (0, N, .inl (ax_fill f 0 (i + 1) v)))) (by rw [nI_clamp (by omega), ax_fill_s f v (Nat.zero_le i)]) ?_
    refine ar_iinc 17 [(0, .ref a), (1, .int v), (2, .int (nI (i + 1))), (3, .int (nI N))] d_13_14 rfl rfl (nI_1 i) (by decide) rfl ?_
    refine ar_goto 5 d_13_17 (by decide) ?_
    exact ih (i + 1) (by omega)
theorem c_13 {L : Nat} {xs : Nat → Int32} {fr lo : Nat} {h : ax_H} {a N : Nat} {f : Nat → Int32} {v : Int32} (g : ax_g h a = some (.inl (0, N, .inl f))) (hN : N < 2 ^ 31) : ax_M L xs 13 fr lo [.ref a, .int v] h (fun r h' => r = none ∧ h' = ax_put h a (.inl (0, N, .inl (ax_fill f 0 N v)))) := by
  have hF := ax_hs.one g
  show ax_A (ax_step L xs) ((13, 0, fr, lo), [(0, .ref a), (1, .int v)], [], h) _
  refine ar_iconst 1 (v := 0) d_13_0 rfl (by decide) ?_
  refine ar_istore_n 2 [(0, .ref a), (1, .int v), (2, .int 0)] d_13_1 rfl (by decide) rfl ?_
  refine ar_aload_n 3 d_13_2 rfl rfl ?_
  refine ar_alen 4 d_13_3 rfl (hF.at 0 rfl) (by decide) ?_
  refine ar_istore_n 5 [(0, .ref a), (1, .int v), (2, .int 0), (3, .int (Int32.ofNat N))] d_13_4 rfl (by decide) rfl ?_
  refine ar_heap (h' := ax_put h a (.inl (0, N, .inl (ax_fill f 0 0 v)))) (by rw [ax_fill_0, ax_put_self g]) ?_
  exact lp_13 g hN ⟨rfl, rfl⟩ N 0 (Nat.zero_add N)
theorem c_28 {L : Nat} {xs : Nat → Int32} {fr lo : Nat} {h : ax_H} {n p q : Int32} (h1 : p ≤ q) (h2 : 0 ≤ p) (h3 : q ≤ n) : ax_M L xs 28 fr lo [.int n, .int p, .int q] h (fun r h' => r = none ∧ h' = h) := by
  show ax_A (ax_step L xs) ((28, 0, fr, lo), [(0, .int n), (1, .int p), (2, .int q)], [], h) _
  refine ar_iload_n 1 d_28_0 rfl rfl ?_
  refine ar_iload_n 2 d_28_1 rfl rfl ?_
  refine ar_icmp_le 46 5 d_28_2 (by decide) rfl (fun _ => ?_) (fun c => absurd (h1) c)
  refine ar_iload_n 47 d_28_46 rfl rfl ?_
  refine ar_if_ge 59 50 d_28_47 (by decide) rfl (fun _ => ?_) (fun c => absurd (h2) c)
  refine ar_iload_n 60 d_28_59 rfl rfl ?_
  refine ar_iload_n 61 d_28_60 rfl rfl ?_
  refine ar_icmp_le 73 64 d_28_61 (by decide) rfl (fun _ => ?_) (fun c => absurd (h3) c)
  exact ar_ret d_28_73 rfl (⟨rfl, rfl⟩)
theorem lp_27 {L : Nat} {xs : Nat → Int32} {fr lo : Nat} {h : ax_H} {a N p q : Nat} {f : Nat → Int32} {v : Int32} {post : ax_Po} (g : ax_g h a = some (.inl (0, N, .inl f))) (hN : N < 2 ^ 31) (hq : q ≤ N) (hp : post none (ax_put h a (.inl (0, N, .inl (ax_fill f p q v))))) : ∀ (k i : Nat), p ≤ i → i + k = q → ax_A (ax_step L xs) ((27, 10, fr, lo), [(0, .ref a), (1, .int (nI p)), (2, .int (nI q)), (3, .int v), (4, .int (nI i))], [], (ax_put h a (.inl (0, N, .inl (ax_fill f p i v))))) post := by
  intro k
  induction k with
  | zero =>
    intro i hpi hi
    have e : i = q := by omega
    subst e
    refine ar_iload 12 d_27_10 rfl rfl ?_
    refine ar_iload_n 13 d_27_12 rfl rfl ?_
    refine ar_icmp_ge 27 16 d_27_13 (by decide) rfl (fun _ => ?_) (fun c => absurd (nI_le (Nat.le_refl _) (by omega)) c)
    exact ar_ret d_27_27 rfl (hp)
  | succ k ih =>
    intro i hpi hi
    have hlt : i < q := by omega
    have hF : ax_hs (ax_put h a (.inl (0, N, .inl (ax_fill f p i v)))) [(a, .inl (0, N, .inl (ax_fill f p i v)))] := (ax_hs.one g).put 0 _ rfl rfl
    refine ar_iload 12 d_27_10 rfl rfl ?_
    refine ar_iload_n 13 d_27_12 rfl rfl ?_
    refine ar_icmp_ge 27 16 d_27_13 (by decide) rfl (fun c => absurd c (nI_ge hlt (by omega))) (fun _ => ?_)
    refine ar_aload_n 17 d_27_16 rfl rfl ?_
    refine ar_iload 19 d_27_17 rfl rfl ?_
    refine ar_iload_n 20 d_27_19 rfl rfl ?_
    refine ar_iast 21 d_27_20 rfl (hF.at 0 rfl) (vp_in_nI (by omega) hN) ?_
    have hF : ax_hs (ax_put (ax_put h a (.inl (0, N, .inl (ax_fill f p i v)))) a (.inl (0, N, .inl (upd (ax_fill f p i v) (nI i).toNatClampNeg v)))) [(a, .inl (0, N, .inl (upd (ax_fill f p i v) (nI i).toNatClampNeg v)))] := hF.put 0 _ rfl rfl
    refine ar_heap ag_put2 ?_
    refine ar_heap (h' := ax_put h a (.inl (0, N, .inl (ax_fill f p (i + 1) v)))) (by rw [nI_clamp (by omega), ax_fill_s f v hpi]) ?_
    refine ar_iinc 24 [(0, .ref a), (1, .int (nI p)), (2, .int (nI q)), (3, .int v), (4, .int (nI (i + 1)))] d_27_21 rfl rfl (nI_1 i) (by decide) rfl ?_
    refine ar_goto 10 d_27_24 (by decide) ?_
    exact ih (i + 1) (by omega) (by omega)
theorem c_27 {L : Nat} {xs : Nat → Int32} {fr lo : Nat} {h : ax_H} {a N p q : Nat} {f : Nat → Int32} {v : Int32} (hfr : 1 ≤ fr) (hlo : 22 ≤ lo) (g : ax_g h a = some (.inl (0, N, .inl f))) (hN : N < 2 ^ 31) (hpq : p ≤ q) (hq : q ≤ N) : ax_M L xs 27 fr lo [.ref a, .int (nI p), .int (nI q), .int v] h (fun r h' => r = none ∧ h' = ax_put h a (.inl (0, N, .inl (ax_fill f p q v)))) := by
  have hF := ax_hs.one g
  show ax_A (ax_step L xs) ((27, 0, fr, lo), [(0, .ref a), (1, .int (nI p)), (2, .int (nI q)), (3, .int v)], [], h) _
  refine ar_aload_n 1 d_27_0 rfl rfl ?_
  refine ar_alen 2 d_27_1 rfl (hF.at 0 rfl) (by decide) ?_
  refine ar_iload_n 3 d_27_2 rfl rfl ?_
  refine ar_iload_n 4 d_27_3 rfl rfl ?_
  refine ar_call (r := []) (na := 0) (kd := 0) (cm := 28) (fr2 := fr - 1) (lo2 := lo - 22) 7 d_27_4 (ar_hoS (as := [.int (Int32.ofNat N), .int (nI p), .int (nI q)]) rfl rfl rfl) rfl (by omega) (show lo - 22 + (19 + 3) = lo by omega) (Nat.le_of_ble_eq_true rfl) (Nat.le_of_ble_eq_true rfl) (c_28 (nI_le hpq (by omega)) (nI_pos' (by omega)) (nI_le hq hN)) ?_
  intro v hh hq
  obtain ⟨rfl, rfl⟩ := hq
  refine ar_iload_n 8 d_27_7 rfl rfl ?_
  refine ar_istore 10 [(0, .ref a), (1, .int (nI p)), (2, .int (nI q)), (3, .int v), (4, .int (nI p))] d_27_8 rfl (by decide) rfl ?_
  refine ar_heap (h' := ax_put hh a (.inl (0, N, .inl (ax_fill f p p v)))) (by rw [ax_fill_0, ax_put_self g]) ?_
  exact lp_27 g hN hq ⟨rfl, rfl⟩ (q - p) p (Nat.le_refl _) (by omega)


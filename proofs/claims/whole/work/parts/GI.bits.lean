/-! which bits a MESSAGE sets -/
def B17 (n k i : Nat) (b : Nat → Int32) (D D' : Nat → Nat → Int32) : Prop := ∀ a m, m < 32 → bt (D' 17 a) m = true → bt (D 17 a) m = true ∨ (m = n ∧ a < 961 ∧ ∃ j, i ≤ j ∧ j < i + k ∧ fndI (D 15) (D 16) (b j) = nI a)
theorem B17.cons {n k i : Nat} {b : Nat → Int32} {D D2 D' : Nat → Nat → Int32} (h : B17 n k (i + 1) b D2 D') (e15 : D2 15 = D 15) (e16 : D2 16 = D 16) (h2 : ∀ a m, m < 32 → bt (D2 17 a) m = true → bt (D 17 a) m = true ∨ (m = n ∧ a < 961 ∧ fndI (D 15) (D 16) (b i) = nI a)) : B17 n (k + 1) i b D D' := fun a m hm hb => by
  rcases h a m hm hb with q | ⟨q1, q0, j, q2, q3, q4⟩
  · rcases h2 a m hm q with w | ⟨w1, w0, w2⟩
    · exact Or.inl w
    · exact Or.inr ⟨w1, w0, i, Nat.le_refl _, by omega, w2⟩
  · exact Or.inr ⟨q1, q0, j, by omega, by omega, by rw [← e15, ← e16]; exact q4⟩
theorem have_b {nn gg : Nat} {C me : Int32} {f u b : Nat → Int32} {K A : Int64} {Y : List Mg} {n : Nat} (hn : n < 32) (hu : u 1 = nI n) : ∀ (k i : Nat) (D : Nat → Nat → Int32), (∀ j, i ≤ j → j < i + k → fndI (D 15) (D 16) (b j) = -1 ∨ ∃ a, a < 961 ∧ fndI (D 15) (D 16) (b j) = nI a) → B17 n k i b D (G_89 nn gg C me f u b k i D K A Y).1
  | 0, i, D, _ => fun a m _ hb => Or.inl hb
  | k + 1, i, D, hf => by
    rw [G_89.eq_2]
    rcases hf i (Nat.le_refl _) (by omega) with e | ⟨a0, ha0, e⟩
    · rw [if_pos e]
      refine B17.cons (have_b hn hu k (i + 1) _ (fun j h1 h2 => by rw [va_up_n _ _ (by decide), va_up_n _ _ (by decide)]; exact hf j (by omega) (by omega))) (va_up_n _ _ (by decide)) (va_up_n _ _ (by decide)) (fun a m _ hb => Or.inl ?_)
      rw [va_up_n _ _ (by decide)] at hb; exact hb
    · rw [if_neg (by rw [e]; exact nIneg (by omega)), bnN_e, e, nI_clamp (by omega)]
      refine B17.cons (have_b hn hu k (i + 1) _ (fun j h1 h2 => by rw [va_up_n _ _ (by decide), va_up_n _ _ (by decide)]; exact hf j (by omega) (by omega))) (va_up_n _ _ (by decide)) (va_up_n _ _ (by decide)) (fun a m hm hb => ?_)
      rw [va_up_s] at hb
      by_cases c : a = a0
      · subst c
        rw [pk_us, hu, bt_set _ hn hm] at hb
        simp only [Bool.or_eq_true, decide_eq_true_eq] at hb
        rcases hb with q | q
        · exact Or.inl q
        · exact Or.inr ⟨q, ha0, e⟩
      · rw [pk_un c] at hb; exact Or.inl hb
theorem judge_b {nn gg : Nat} {C me : Int32} {f u b : Nat → Int32} {D : Nat → Nat → Int32} {K A : Int64} {t : Int32} {n : Nat} (hn : n < 32) (hf : fndI (D 15) (D 16) t = -1 ∨ ∃ a, a < 961 ∧ fndI (D 15) (D 16) t = nI a) :
    ∃ (y : Int32) (D1 : Nat → Nat → Int32), (∀ Y, F_76 nn gg C me f u b D K A Y t (nI n) = (y, D1, K, A, Y)) ∧ (∀ q, q ≠ 17 → D1 q = D q) ∧ (y = 0 ∨ y = 1 ∨ y = 2) ∧ ∀ a m, m < 32 → bt (D1 17 a) m = true → bt (D 17 a) m = true ∨ (m = n ∧ a < 961 ∧ fndI (D 15) (D 16) t = nI a) := by
  rcases hf with e | ⟨a0, ha, e⟩
  · have b0 : ∀ a m, m < 32 → bt (D 17 a) m = true → bt (D 17 a) m = true ∨ (m = n ∧ a < 961 ∧ fndI (D 15) (D 16) t = nI a) := fun _ _ _ z => Or.inl z
    by_cases c : knA K (D 10 9) = 0
    · exact ⟨2, D, fun Y => by unfold F_76; rw [if_pos e, if_pos c], fun _ _ => rfl, Or.inr (Or.inr rfl), b0⟩
    · by_cases d : D 16 960 < (t - t / 512 * 512)
      · exact ⟨2, D, fun Y => by unfold F_76; rw [if_pos e, if_neg c, if_pos d], fun _ _ => rfl, Or.inr (Or.inr rfl), b0⟩
      · exact ⟨1, D, fun Y => by unfold F_76; rw [if_pos e, if_neg c, if_neg d], fun _ _ => rfl, Or.inr (Or.inl rfl), b0⟩
  · have hcl : (fndI (D 15) (D 16) t).toNatClampNeg = a0 := by rw [e, nI_clamp (by omega)]
    have hne : ¬ fndI (D 15) (D 16) t = -1 := by rw [e]; exact nIneg (by omega)
    have hq : ∀ q, q ≠ 17 → va_up D 17 (upd (D 17) a0 ((D 17 a0) ||| (1 <<< (nI n &&& 31)))) q = D q := fun q hq => va_up_n _ _ hq
    have hb : ∀ a m, m < 32 → bt (va_up D 17 (upd (D 17) a0 ((D 17 a0) ||| (1 <<< (nI n &&& 31)))) 17 a) m = true → bt (D 17 a) m = true ∨ (m = n ∧ a < 961 ∧ fndI (D 15) (D 16) t = nI a) := fun a m hm hb => by
      rw [va_up_s] at hb
      by_cases c : a = a0
      · subst c
        rw [pk_us, bt_set _ hn hm] at hb
        simp only [Bool.or_eq_true, decide_eq_true_eq] at hb
        rcases hb with q | q
        · exact Or.inl q
        · exact Or.inr ⟨q, ha, e⟩
      · rw [pk_un c] at hb; exact Or.inl hb
    by_cases c : (((D 8) (grp (D 11) gg a0)) >>> (nI n &&& 31)) &&& 1 = 0
    · by_cases d : D 8 (grp (D 11) gg a0) = 0
      · exact ⟨2, _, fun Y => by unfold F_76; rw [if_neg hne, bnN_e, hcl, if_pos c, if_pos d], hq, Or.inr (Or.inr rfl), hb⟩
      · by_cases q : ((upd (D 17) a0 ((D 17 a0) ||| (1 <<< (nI n &&& 31)))) a0) &&& (D 8 (grp (D 11) gg a0)) = D 8 (grp (D 11) gg a0)
        · exact ⟨1, _, fun Y => by unfold F_76; rw [if_neg hne, bnN_e, hcl, if_pos c, if_neg d, if_neg (fun z => z q)], hq, Or.inr (Or.inl rfl), hb⟩
        · exact ⟨2, _, fun Y => by unfold F_76; rw [if_neg hne, bnN_e, hcl, if_pos c, if_neg d, if_pos q], hq, Or.inr (Or.inr rfl), hb⟩
    · exact ⟨0, _, fun Y => by unfold F_76; rw [if_neg hne, bnN_e, hcl, if_neg c], hq, Or.inl rfl, hb⟩
theorem listed_b {nn gg : Nat} {C me : Int32} {f u b : Nat → Int32} {s2 s3 : Int32} {K : Int64} {n : Nat} (hn : n < 32) (hu : u 1 = nI n) : ∀ (k i d : Nat) (c : Int32) (D : Nat → Nat → Int32) (A : Int64) (Y : List Mg), (∀ j, i ≤ j → j < i + k → fndI (D 15) (D 16) (b j) = -1 ∨ ∃ a, a < 961 ∧ fndI (D 15) (D 16) (b j) = nI a) → B17 n k i b D (G_70 nn gg C me f u b s2 s3 k i d c D K A Y).1
  | 0, i, d, c, D, A, Y, _ => by
    have e : (G_70 nn gg C me f u b s2 s3 0 i d c D K A Y).1 17 = D 17 := by
      rw [G_70.eq_1]
      repeat' split
      all_goals (dsimp only; rw [va_up_n _ _ (by decide)])
    intro a m _ hb
    rw [e] at hb
    exact Or.inl hb
  | k + 1, i, d, c, D, A, Y, hf => by
    obtain ⟨y, D1, j1, j2, j3, j4⟩ := judge_b (nn := nn) (gg := gg) (C := C) (me := me) (f := f) (u := u) (b := b) (K := K) (A := A) hn (hf i (Nat.le_refl _) (by omega))
    have hjy : ∀ Y, F_76 nn gg C me f u b D K A Y (b i) (u 1) = (y, D1, K, A, Y) := fun Y => by rw [hu]; exact j1 Y
    have hf2 : ∀ D2 : Nat → Nat → Int32, (∀ q, q ≠ 9 → q ≠ 17 → D2 q = D q) → ∀ j, i + 1 ≤ j → j < i + 1 + k → fndI (D2 15) (D2 16) (b j) = -1 ∨ ∃ a, a < 961 ∧ fndI (D2 15) (D2 16) (b j) = nI a := fun D2 h2 j a1 a2 => by
      rw [h2 15 (by decide) (by decide), h2 16 (by decide) (by decide)]
      exact hf j (by omega) (by omega)
    have go0 : ∀ (D2 : Nat → Nat → Int32) (d2 : Nat) (c2 : Int32) (A1 : Int64) (Y1 : List Mg), (∀ q, q ≠ 9 → q ≠ 17 → D2 q = D q) → D2 17 = D1 17 → B17 n (k + 1) i b D (G_70 nn gg C me f u b s2 s3 k (i + 1) d2 c2 D2 K A1 Y1).1 := fun D2 d2 c2 A1 Y1 a1 a5 =>
      B17.cons (listed_b hn hu k (i + 1) d2 c2 D2 A1 Y1 (hf2 D2 a1)) (a1 15 (by decide) (by decide)) (a1 16 (by decide) (by decide)) (fun a m hm hb => by rw [a5] at hb; exact j4 a m hm hb)
    have goF : ∀ (D2 : Nat → Nat → Int32) (d2 : Nat) (c2 : Int32), (∀ q, q ≠ 9 → q ≠ 17 → D2 q = D q) → D2 17 = D1 17 → ∀ Y1, B17 n (k + 1) i b D (bnS (F_79 nn gg C me f u b D2 K A Y1 (b i) (u 1)) (fun D3 K3 A3 Y3 => G_70 nn gg C me f u b s2 s3 k (i + 1) d2 c2 D3 K3 A3 Y3)).1 := fun D2 d2 c2 a1 a5 Y1 => by
      obtain ⟨A1, Z1, w1, _⟩ := news_z (nn := nn) (gg := gg) (C := C) (me := me) (f := f) (u := u) (b := b) (D := D2) (K := K) (A := A) (t := b i) (k := u 1) (by
        rw [a1 15 (by decide) (by decide), a1 16 (by decide) (by decide)]
        exact hf i (Nat.le_refl _) (by omega))
      rw [w1 Y1, bnS_e]
      exact go0 D2 d2 c2 A1 _ a1 a5
    have e1 : ∀ q, q ≠ 9 → q ≠ 17 → D1 q = D q := fun q _ h => j2 q h
    have e9 : ∀ q, q ≠ 9 → q ≠ 17 → va_up D1 9 (upd (D1 9) d (b i)) q = D q := fun q h1 h2 => by rw [va_up_n _ _ h1, j2 q h2]
    have h9 : va_up D1 9 (upd (D1 9) d (b i)) 17 = D1 17 := va_up_n _ _ (by decide)
    rcases j3 with hy | hy | hy
    · subst hy
      by_cases q2 : s2 = 0
      · have e : G_70 nn gg C me f u b s2 s3 (k + 1) i d c D K A Y = bnS (F_79 nn gg C me f u b D1 K A Y (b i) (u 1)) (fun D3 K3 A3 Y3 => G_70 nn gg C me f u b s2 s3 k (i + 1) d (c + 1) D3 K3 A3 Y3) := by
          rw [G_70.eq_2, hjy Y, bnR_e, if_neg (fun z => z rfl), if_neg (by decide), if_neg (fun z => z q2)]
        rw [e]
        exact goF D1 d (c + 1) e1 rfl Y
      · have e : G_70 nn gg C me f u b s2 s3 (k + 1) i d c D K A Y = G_70 nn gg C me f u b s2 s3 k (i + 1) d (c + 1) D1 K A Y := by
          rw [G_70.eq_2, hjy Y, bnR_e, if_neg (fun z => z rfl), if_neg (by decide), if_pos q2]
        rw [e]
        exact go0 D1 d (c + 1) A Y e1 rfl
    · subst hy
      by_cases q3 : s3 = 0
      · by_cases q2 : s2 = 0
        · have e : G_70 nn gg C me f u b s2 s3 (k + 1) i d c D K A Y = bnS (F_79 nn gg C me f u b D1 K A Y (b i) (u 1)) (fun D3 K3 A3 Y3 => G_70 nn gg C me f u b s2 s3 k (i + 1) d c D3 K3 A3 Y3) := by
            rw [G_70.eq_2, hjy Y, bnR_e, if_pos (by decide), if_neg (fun z => z rfl), if_pos q3, if_neg (by decide), if_neg (fun z => z q2)]
          rw [e]
          exact goF D1 d c e1 rfl Y
        · have e : G_70 nn gg C me f u b s2 s3 (k + 1) i d c D K A Y = G_70 nn gg C me f u b s2 s3 k (i + 1) d c D1 K A Y := by
            rw [G_70.eq_2, hjy Y, bnR_e, if_pos (by decide), if_neg (fun z => z rfl), if_pos q3, if_neg (by decide), if_pos q2]
          rw [e]
          exact go0 D1 d c A Y e1 rfl
      · by_cases q2 : s2 = 0
        · have e : G_70 nn gg C me f u b s2 s3 (k + 1) i d c D K A Y = bnS (F_79 nn gg C me f u b (va_up D1 9 (upd (D1 9) d (b i))) K A Y (b i) (u 1)) (fun D3 K3 A3 Y3 => G_70 nn gg C me f u b s2 s3 k (i + 1) (d + 1) c D3 K3 A3 Y3) := by
            rw [G_70.eq_2, hjy Y, bnR_e, if_pos (by decide), if_neg (fun z => z rfl), if_neg q3, if_neg (by decide), if_neg (fun z => z q2)]
          rw [e]
          exact goF (va_up D1 9 (upd (D1 9) d (b i))) (d + 1) c e9 h9 Y
        · have e : G_70 nn gg C me f u b s2 s3 (k + 1) i d c D K A Y = G_70 nn gg C me f u b s2 s3 k (i + 1) (d + 1) c (va_up D1 9 (upd (D1 9) d (b i))) K A Y := by
            rw [G_70.eq_2, hjy Y, bnR_e, if_pos (by decide), if_neg (fun z => z rfl), if_neg q3, if_neg (by decide), if_pos q2]
          rw [e]
          exact go0 (va_up D1 9 (upd (D1 9) d (b i))) (d + 1) c A Y e9 h9
    · subst hy
      have e : G_70 nn gg C me f u b s2 s3 (k + 1) i d c D K A Y = bnS (F_79 nn gg C me f u b D1 K A Y (b i) (u 1)) (fun D3 K3 A3 Y3 => G_70 nn gg C me f u b s2 s3 k (i + 1) d c D3 K3 A3 Y3) := by
        rw [G_70.eq_2, hjy Y, bnR_e, if_pos (by decide), if_pos (by decide), if_pos rfl]
      rw [e]
      exact goF D1 d c e1 rfl Y
/-- bits of a MESSAGE that the leader hears -/
theorem hear_b {P : Pm} {g : Gh} {e : Nat} {me : Int32} {u b : Nat → Int32} {D D' : Nat → Nat → Int32} {K A K' A' : Int64} {Z : List Mg} (hgg : 0 < P.gg) (hnn : P.nn ≤ 6) (h : LO P g e D K) (hm : MO P g e (u, b)) (hk : u 0 = 5 ∨ u 0 = 11) (hF : ∀ Y, F_67 P.nn P.gg P.C me P.f u b D K A Y = (D', K', A', psl Y Z)) : ∃ n, n < P.nn ∧ u 1 = nI n ∧ ∀ a m, m < 32 → bt (D' 17 a) m = true → bt (D 17 a) m = true ∨ (m = n ∧ a < 961 ∧ ∃ j, j < (u 7).toNatClampNeg ∧ fndI (D 15) (D 16) (b j) = nI a) := by
  have h7 : LO P g e (hrd u D) K := h.f7 (pk_un (by decide)) (pk_un (by decide))
  obtain ⟨n, n1, n2, n3⟩ := hm.ls hk
  have n2 : u 1 = nI n := n2
  have hfd : ∀ j, 0 ≤ j → j < 0 + (u 7).toNatClampNeg → fndI (hrd u D 15) (hrd u D 16) (b j) = -1 ∨ ∃ a, a < 961 ∧ fndI (hrd u D 15) (hrd u D 16) (b j) = nI a := fun j _ hj => by
    obtain ⟨k, a1, a2, _⟩ := n3 j (by rw [Nat.zero_add] at hj; exact hj)
    have a1 : b j = nI k := a1
    rw [a1]; exact (h7.fdO hgg a2).1
  refine ⟨n, n1, n2, ?_⟩
  have fin : B17 n (u 7).toNatClampNeg 0 b (hrd u D) D' → ∀ a m, m < 32 → bt (D' 17 a) m = true → bt (D 17 a) m = true ∨ (m = n ∧ a < 961 ∧ ∃ j, j < (u 7).toNatClampNeg ∧ fndI (D 15) (D 16) (b j) = nI a) := fun hB a m hm hb => by
    rcases hB a m hm hb with q | ⟨q1, q0, j, _, q3, q4⟩
    · rw [hrd_n (by decide)] at q; exact Or.inl q
    · rw [hrd_n (by decide), hrd_n (by decide)] at q4
      exact Or.inr ⟨q1, q0, j, by omega, q4⟩
  apply fin
  have hF0 := hF []
  rcases hk with c5 | c11
  · have c2 : ¬ u 0 = 2 := by rw [c5]; decide
    unfold F_67 at hF0
    rw [if_pos c2, if_pos c5] at hF0
    have key : ∀ s2 s3 : Int32, B17 n (u 7).toNatClampNeg 0 b (hrd u D) (G_70 P.nn P.gg P.C me P.f u b s2 s3 (u 7).toNatClampNeg 0 0 0 (hrd u D) K A []).1 := fun s2 s3 => listed_b (by omega) n2 _ 0 0 0 (hrd u D) A [] hfd
    have h70 : B17 n (u 7).toNatClampNeg 0 b (hrd u D) (F_70 P.nn P.gg P.C me P.f u b (hrd u D) K A []).1 := by
      unfold F_70
      rw [bnN_e]
      split
      · exact key _ _
      · split
        · exact key _ _
        · split
          · exact key _ _
          · exact key _ _
    obtain ⟨D4, K4, A4, Y4, h4⟩ : ∃ D4 K4 A4 Y4, F_70 P.nn P.gg P.C me P.f u b (hrd u D) K A [] = (D4, K4, A4, Y4) := ⟨_, _, _, _, rfl⟩
    rw [h4] at h70
    have h4' := h4
    unfold hrd at h4'
    rw [h4', bnS_e] at hF0
    rw [← (Prod.mk.inj hF0).1]
    exact h70
  · have c2 : ¬ u 0 = 2 := by rw [c11]; decide
    unfold F_67 at hF0
    rw [if_pos c2, if_neg (show ¬ u 0 = 5 by rw [c11]; decide), if_neg (show ¬ u 0 = 6 by rw [c11]; decide), if_neg (show ¬ u 0 = 7 by rw [c11]; decide), if_neg (show ¬ u 0 = 8 by rw [c11]; decide), if_neg (show ¬ u 0 = 9 by rw [c11]; decide), if_neg (show ¬ u 0 = 10 by rw [c11]; decide), if_pos c11] at hF0
    have h89 : B17 n (u 7).toNatClampNeg 0 b (hrd u D) (F_89 P.nn P.gg P.C me P.f u b (hrd u D) K A []).1 := by
      unfold F_89
      rw [bnN_e]
      exact have_b (by omega) n2 _ 0 (hrd u D) hfd
    obtain ⟨D4, K4, A4, Y4, h4⟩ : ∃ D4 K4 A4 Y4, F_89 P.nn P.gg P.C me P.f u b (hrd u D) K A [] = (D4, K4, A4, Y4) := ⟨_, _, _, _, rfl⟩
    rw [h4] at h89
    have h4' := h4
    unfold hrd at h4'
    rw [h4', bnS_e] at hF0
    rw [← (Prod.mk.inj hF0).1]
    exact h89

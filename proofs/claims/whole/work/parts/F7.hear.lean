/-! what the leader hears: posts, potential, clean NODES -/
theorem have_z {nn gg : Nat} {C me : Int32} {f u b : Nat → Int32} {K A : Int64} {n : Nat} (hn : n < 32) (hu : u 1 = nI n) : ∀ (k i : Nat) (D : Nat → Nat → Int32), (∀ j, i ≤ j → j < i + k → fndI (D 15) (D 16) (b j) = -1 ∨ ∃ a, a < 961 ∧ fndI (D 15) (D 16) (b j) = nI a) → ∃ D' : Nat → Nat → Int32, (∀ Y, G_89 nn gg C me f u b k i D K A Y = (D', K, A, Y)) ∧ (∀ q, q ≠ 7 → q ≠ 17 → D' q = D q) ∧ (∀ x, x ≠ 10 → D' 7 x = D 7 x) ∧ (∀ m, m < 32 → bt (D' 7 10) m = true → bt (D 7 10) m = true) ∧ (bt (D' 7 10) n = true → ∀ j, i ≤ j → j < i + k → ¬ fndI (D 15) (D 16) (b j) = -1) ∧ (∀ a m, m < 32 → bt (D 17 a) m = true → bt (D' 17 a) m = true) ∧ ∀ j a, i ≤ j → j < i + k → a < 961 → fndI (D 15) (D 16) (b j) = nI a → bt (D' 17 a) n = true
  | 0, i, D, _ => ⟨D, fun _ => rfl, fun _ _ _ => rfl, fun _ _ => rfl, fun _ _ z => z, fun _ j h1 h2 => by omega, fun _ _ _ z => z, fun j a h1 h2 => by omega⟩
  | k + 1, i, D, hf => by
    rcases hf i (Nat.le_refl _) (by omega) with e | ⟨a, ha, e⟩
    · obtain ⟨D', r1, r2, r3, r4, r5, r6, r7⟩ := have_z (nn := nn) (gg := gg) (C := C) (me := me) (f := f) (u := u) (b := b) (K := K) (A := A) hn hu k (i + 1) (va_up D 7 (upd (D 7) 10 (scB (D 7 10) (u 1) 0))) (fun j h1 h2 => by rw [va_up_n _ _ (by decide), va_up_n _ _ (by decide)]; exact hf j (by omega) (by omega))
      rw [va_up_n _ _ (show (15 : Nat) ≠ 7 by decide), va_up_n _ _ (show (16 : Nat) ≠ 7 by decide)] at r5 r7
      have hsc : ∀ m, m < 32 → bt (scB (D 7 10) (u 1) 0) m = true → bt (D 7 10) m = true ∧ m ≠ n := fun m hm z => by
        unfold scB at z
        rw [if_pos rfl, hu, bt_clr _ hn hm] at z
        simp only [Bool.and_eq_true, Bool.not_eq_true', decide_eq_false_iff_not] at z
        exact z
      have r4' : ∀ m, m < 32 → bt (D' 7 10) m = true → bt (D 7 10) m = true ∧ m ≠ n := fun m hm z => by
        have := r4 m hm z
        rw [va_up_s, pk_us] at this
        exact hsc m hm this
      refine ⟨D', fun Y => ?_, fun q h7 h17 => by rw [r2 q h7 h17, va_up_n _ _ h7], fun x hx => by rw [r3 x hx, va_up_s, pk_un hx], fun m hm z => (r4' m hm z).1, fun z => absurd rfl (r4' n hn z).2, fun a m hm z => r6 a m hm (by rw [va_up_n _ _ (by decide)]; exact z), fun j a h1 h2 h3 h4 => ?_⟩
      · rw [G_89.eq_2, if_pos e]; exact r1 Y
      · rcases Nat.lt_or_ge i j with q | q
        · exact r7 j a (by omega) (by omega) h3 h4
        · have : j = i := by omega
          rw [this, e] at h4; exact absurd h4.symm (nIneg (by omega))
    · have hcl : (fndI (D 15) (D 16) (b i)).toNatClampNeg = a := by rw [e, nI_clamp (by omega)]
      have hne : ¬ fndI (D 15) (D 16) (b i) = -1 := by rw [e]; exact nIneg (by omega)
      obtain ⟨D', r1, r2, r3, r4, r5, r6, r7⟩ := have_z (nn := nn) (gg := gg) (C := C) (me := me) (f := f) (u := u) (b := b) (K := K) (A := A) hn hu k (i + 1) (va_up D 17 (upd (D 17) a (((D 17) a) ||| (1 <<< ((u 1) &&& 31))))) (fun j h1 h2 => by rw [va_up_n _ _ (by decide), va_up_n _ _ (by decide)]; exact hf j (by omega) (by omega))
      rw [va_up_n _ _ (show (15 : Nat) ≠ 17 by decide), va_up_n _ _ (show (16 : Nat) ≠ 17 by decide)] at r5 r7
      rw [va_up_n _ _ (show (7 : Nat) ≠ 17 by decide)] at r3 r4
      have hup : ∀ a' m, m < 32 → bt (D 17 a') m = true → bt (va_up D 17 (upd (D 17) a (((D 17) a) ||| (1 <<< ((u 1) &&& 31)))) 17 a') m = true := fun a' m hm z => by
        rw [va_up_s, hu]
        by_cases ea : a' = a
        · subst ea
          rw [pk_us, bt_set _ hn hm, z]; rfl
        · rw [pk_un ea]; exact z
      refine ⟨D', fun Y => ?_, fun q h7 h17 => by rw [r2 q h7 h17, va_up_n _ _ h17], r3, r4, fun z j h1 h2 => ?_, fun a' m hm z => r6 a' m hm (hup a' m hm z), fun j a' h1 h2 h3 h4 => ?_⟩
      · rw [G_89.eq_2, if_neg hne, bnN_e, hcl]; exact r1 Y
      · rcases Nat.lt_or_ge i j with q | q
        · exact r5 z j (by omega) (by omega)
        · have : j = i := by omega
          rw [this]; exact hne
      · rcases Nat.lt_or_ge i j with q | q
        · exact r7 j a' (by omega) (by omega) h3 h4
        · have : j = i := by omega
          rw [this] at h4
          have : a' = a := nI_inj (by omega) (by omega) (h4.symm.trans e)
          subst this
          refine r6 a' n hn ?_
          rw [va_up_s, pk_us, hu, bt_set _ hn hn, decide_eq_true rfl, Bool.or_true]
/-- LACK -/
theorem lack_z {nn gg : Nat} {C me : Int32} {f u b : Nat → Int32} {D : Nat → Nat → Int32} {K A : Int64} {n : Nat} (hn : n < 32) (hu : u 1 = nI n) : ∃ D' : Nat → Nat → Int32, (∀ Y, F_90 nn gg C me f u b D K A Y = (D', K, A, Y)) ∧ (∀ q, q ≠ 7 → q ≠ 17 → D' q = D q) ∧ (∀ x, x ≠ 10 → x ≠ 14 → D' 7 x = D 7 x) ∧ (∀ m, m < 32 → bt (D' 7 10) m = true → bt (D 7 10) m = true) ∧ (D' 7 14 = D 7 14 ∨ D' 7 14 = 0) ∧ (∀ a m, m < 32 → m ≠ n → bt (D' 17 a) m = bt (D 17 a) m) ∧ (∀ a, fndI (D 15) (D 16) (u 5) = nI a → a < 961 → bt (D' 17 a) n = false) ∧ (∀ a, ¬ fndI (D 15) (D 16) (u 5) = nI a → a < 961 → (fndI (D 15) (D 16) (u 5) = -1 ∨ ∃ a, a < 961 ∧ fndI (D 15) (D 16) (u 5) = nI a) → D' 17 a = D 17 a) ∧ (¬ fndI (D 15) (D 16) (u 5) = -1 → bt (D' 7 10) n = false ∧ D' 7 14 = 0) := by
  by_cases c : fndI (D 15) (D 16) (u 5) = -1
  · refine ⟨D, fun Y => by unfold F_90; rw [if_pos c], fun _ _ _ => rfl, fun _ _ _ => rfl, fun _ _ z => z, Or.inl rfl, fun _ _ _ _ => rfl, fun a e ha => ?_, fun _ _ _ _ => rfl, fun z => absurd c z⟩
    rw [c] at e; exact absurd e.symm (nIneg (by omega))
  · refine ⟨_, fun Y => by unfold F_90; rw [if_neg c, bnN_e], fun q h7 h17 => by rw [va_up_n _ _ h17, va_up_n _ _ h7], fun x h10 h14 => by rw [va_up_n _ _ (by decide), va_up_s, pk_un h14, pk_un h10], fun m hm z => ?_, Or.inr (by rw [va_up_n _ _ (by decide), va_up_s, pk_us]), fun a m hm hne => ?_, fun a e ha => ?_, fun a e ha he => ?_, fun _ => ?_⟩
    · rw [va_up_n _ _ (by decide), va_up_s, pk_un (by decide), pk_us] at z
      unfold scB at z
      rw [if_pos rfl, hu, bt_clr _ hn hm] at z
      simp only [Bool.and_eq_true] at z
      exact z.1
    · rw [va_up_s]
      by_cases ea : a = (fndI (D 15) (D 16) (u 5)).toNatClampNeg
      · rw [← ea, pk_us, hu, bt_clr _ hn hm, decide_eq_false hne]; simp
      · rw [pk_un ea]
    · rw [va_up_s, e, nI_clamp (by omega), pk_us, hu, bt_clr _ hn hn, decide_eq_true rfl]; simp
    · rw [va_up_s, pk_un]
      intro ea
      rcases he with he | ⟨a', h1, h2⟩
      · exact c he
      · rw [h2, nI_clamp (by omega)] at ea
        exact e (by rw [ea]; exact h2)
    · refine ⟨?_, by rw [va_up_n _ _ (by decide), va_up_s, pk_us]⟩
      rw [va_up_n _ _ (by decide), va_up_s, pk_un (by decide), pk_us]
      unfold scB
      rw [if_pos rfl, hu, bt_clr _ hn hn, decide_eq_true rfl]; simp
theorem HRl.no {nn gg : Nat} {me : Int32} {g : Gh} {u b : Nat → Int32} {D D' : Nat → Nat → Int32} {K A : Int64} (e960 : D' 16 960 = D 16 960) (e10 : D' 10 9 = D 10 9) (e18 : wSt (D' 18 3) + 1 ≤ wSt (D 18 3) + wk (Nn g (D 16 960)) (u 0)) (hc : CLh gg u b D D') : HRl nn gg me g u b D K A D' K A [] := by
  refine ⟨by rw [e960]; exact Nat.le_refl _, ?_, hc, fun z hz => (by cases hz), LOr.nil⟩
  unfold Ph
  rw [e960, e10]
  show 0 + _ + 1 ≤ _
  omega
theorem wk1 {N : Nat} {k : Int32} : 1 ≤ wk N k := by
  unfold wk
  repeat' split
  all_goals omega
/-- ASK -/
theorem take_z {nn gg : Nat} {C me : Int32} {f u b : Nat → Int32} {g : Gh} {D : Nat → Nat → Int32} {K A : Int64} (h2 : u 0 = 2) : ∃ D' : Nat → Nat → Int32, (∀ Y, F_68 nn gg C me f u b D K A Y = (D', K, A, Y)) ∧ (∀ q, q < 18 → D' q = D q) ∧ HRl nn gg me g u b D K A D' K A [] ∧ ((D' = D ∧ (u 5 < D 18 4 ∨ (u 5 = D 18 4 ∧ ¬ D 18 3 = 0) ∨ ¬ D 18 3 ≤ 1)) ∨ (D 18 3 ≤ 1 ∧ D' 18 3 = 1 ∧ D' 18 4 = u 5)) := by
  have no : HRl nn gg me g u b D K A D K A [] := HRl.no rfl rfl (by have := wk1 (N := Nn g (D 16 960)) (k := u 0); omega) (CLh.same (by rw [h2]; decide) (fun z => z) (fun _ _ z => z) rfl rfl rfl rfl rfl)
  have yes : D 18 3 ≤ 1 → ∀ D', (∀ q, q < 18 → D' q = D q) → D' 18 3 = 1 → HRl nn gg me g u b D K A D' K A [] := fun c D' e1 e2 => HRl.no (by rw [e1 16 (by decide)]) (by rw [e1 10 (by decide)]) (by
    have : wk (Nn g (D 16 960)) (u 0) = 123 := by rw [h2]; rfl
    have h1 := wSt_le (D' 18 3)
    omega) (CLh.same (by rw [h2]; decide) (fun _ => Int32.le_trans c (by decide)) (fun n _ z => by rw [e1 7 (by decide)] at z; exact z) (e1 8 (by decide)) (e1 11 (by decide)) (e1 15 (by decide)) (e1 16 (by decide)) (e1 17 (by decide)))
  by_cases c1 : u 5 < D 18 4
  · exact ⟨D, fun Y => by unfold F_68; rw [bnN_e, if_pos c1], fun _ _ => rfl, no, Or.inl ⟨rfl, Or.inl c1⟩⟩
  · generalize hD1 : va_up (va_up (va_up D 18 (upd (upd (upd (D 18) 3 1) 4 (u 5)) 6 (u 6))) 19 (upd (upd (upd (upd (upd (upd (D 19) 0 (b 0)) 1 (b 1)) 2 (b 2)) 3 (b 3)) 4 (b 4)) 5 (nI (u 7).toNatClampNeg))) 20 (va_cpy b (D 20) 5 0 (100 + ((u 7).toNatClampNeg + 3) / 4)) = D1
    have q1 : ∀ q, q < 18 → D1 q = D q := fun q hq => by rw [← hD1, va_up_n _ _ (by omega), va_up_n _ _ (by omega), va_up_n _ _ (by omega)]
    have q2 : D1 18 3 = 1 := by rw [← hD1, va_up_n _ _ (by decide), va_up_n _ _ (by decide), va_up_s, pk_un (by decide), pk_un (by decide), pk_us]
    have q3 : D1 18 4 = u 5 := by rw [← hD1, va_up_n _ _ (by decide), va_up_n _ _ (by decide), va_up_s, pk_un (by decide), pk_us]
    by_cases c2 : u 5 = D 18 4
    · by_cases c3 : D 18 3 = 0
      · have c4 : D 18 3 ≤ 1 := by rw [c3]; decide
        refine ⟨D1, fun Y => ?_, q1, yes c4 D1 q1 q2, Or.inr ⟨c4, q2, q3⟩⟩
        unfold F_68
        rw [bnN_e, if_neg c1, if_neg (fun z => z c2), if_neg (fun z => z c3), if_pos c4, hD1]
      · exact ⟨D, fun Y => by unfold F_68; rw [bnN_e, if_neg c1, if_neg (fun z => z c2), if_pos c3], fun _ _ => rfl, no, Or.inl ⟨rfl, Or.inr (Or.inl ⟨c2, c3⟩)⟩⟩
    · by_cases c4 : D 18 3 ≤ 1
      · refine ⟨D1, fun Y => ?_, q1, yes c4 D1 q1 q2, Or.inr ⟨c4, q2, q3⟩⟩
        unfold F_68
        rw [bnN_e, if_neg c1, if_pos c2, if_pos c4, hD1]
      · exact ⟨D, fun Y => by unfold F_68; rw [bnN_e, if_neg c1, if_pos c2, if_neg c4], fun _ _ => rfl, no, Or.inl ⟨rfl, Or.inr (Or.inr c4)⟩⟩

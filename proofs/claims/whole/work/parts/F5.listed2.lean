/-! listed -/
/-- tag t is wanted, and wanted at NODE n -/
def KPd (gg : Nat) (D : Nat → Nat → Int32) (n : Nat) (t : Int32) : Prop := ∃ a, a < 961 ∧ fndI (D 15) (D 16) t = nI a ∧ bt (D 8 (grp (D 11) gg a)) n = true
theorem KPd.cg {gg : Nat} {D D' : Nat → Nat → Int32} {n : Nat} {t : Int32} (h : KPd gg D n t) (e8 : D' 8 = D 8) (e11 : D' 11 = D 11) (e15 : D' 15 = D 15) (e16 : D' 16 = D 16) : KPd gg D' n t := by
  unfold KPd
  rw [e8, e11, e15, e16]
  exact h
/-- what find says is a place of the table -/
def fdO (D : Nat → Nat → Int32) (t : Int32) : Prop := (fndI (D 15) (D 16) t = -1 ∨ ∃ a, a < 961 ∧ fndI (D 15) (D 16) t = nI a) ∧ (nwO (D 16 960) t → fndI (D 15) (D 16) t = -1)
theorem judge_z {nn gg : Nat} {C me : Int32} {f u b : Nat → Int32} {D : Nat → Nat → Int32} {K A : Int64} {t : Int32} {n : Nat} (hn : n < 32) (hf : fdO D t) :
    ∃ (y : Int32) (D1 : Nat → Nat → Int32), (∀ Y, F_76 nn gg C me f u b D K A Y t (nI n) = (y, D1, K, A, Y)) ∧ (∀ q, q ≠ 17 → D1 q = D q) ∧ (y = 0 ∨ y = 1 ∨ y = 2) ∧ (y = 0 → KPd gg D n t) ∧ (∀ a m, m < 32 → bt (D 17 a) m = true → bt (D1 17 a) m = true) ∧ (∀ a, a < 961 → fndI (D 15) (D 16) t = nI a → bt (D1 17 a) n = true) ∧ (nwO (D 16 960) t → y = 2) ∧ (y = 0 → ¬ nwO (D 16 960) t) := by
  obtain ⟨hf, hw⟩ := hf
  rcases hf with e | ⟨a, ha, e⟩
  · by_cases c : knA K (D 10 9) = 0
    · refine ⟨2, D, fun Y => by unfold F_76; rw [if_pos e, if_pos c], fun _ _ => rfl, Or.inr (Or.inr rfl), fun z => absurd z (by decide), fun _ _ _ z => z, fun a _ z => ?_, fun _ => rfl, fun z => absurd z (by decide)⟩
      rw [e] at z; exact absurd z.symm (nIneg (by omega))
    · by_cases d : D 16 960 < (t - t / 512 * 512)
      · refine ⟨2, D, fun Y => by unfold F_76; rw [if_pos e, if_neg c, if_pos d], fun _ _ => rfl, Or.inr (Or.inr rfl), fun z => absurd z (by decide), fun _ _ _ z => z, fun a _ z => ?_, fun _ => rfl, fun z => absurd z (by decide)⟩
        rw [e] at z; exact absurd z.symm (nIneg (by omega))
      · refine ⟨1, D, fun Y => by unfold F_76; rw [if_pos e, if_neg c, if_neg d], fun _ _ => rfl, Or.inr (Or.inl rfl), fun z => absurd z (by decide), fun _ _ _ z => z, fun a _ z => ?_, fun z => absurd (Int32.not_lt.mp d) z.2, fun z => absurd z (by decide)⟩
        rw [e] at z; exact absurd z.symm (nIneg (by omega))
  · have hcl : (fndI (D 15) (D 16) t).toNatClampNeg = a := by rw [e, nI_clamp (by omega)]
    have hne : ¬ fndI (D 15) (D 16) t = -1 := by rw [e]; exact nIneg (by omega)
    have hno : ¬ nwO (D 16 960) t := fun z => hne (hw z)
    have hup : ∀ a' m, m < 32 → bt (D 17 a') m = true → bt (va_up D 17 (upd (D 17) a ((D 17 a) ||| (1 <<< (nI n &&& 31)))) 17 a') m = true := fun a' m hm z => by
      rw [va_up_s]
      by_cases ea : a' = a
      · subst ea
        rw [pk_us, bt_set _ hn hm, z]; rfl
      · rw [pk_un ea]; exact z
    have hbn : ∀ a', a' < 961 → fndI (D 15) (D 16) t = nI a' → bt (va_up D 17 (upd (D 17) a ((D 17 a) ||| (1 <<< (nI n &&& 31)))) 17 a') n = true := fun a' h1 h2 => by
      have : a' = a := nI_inj (by omega) (by omega) (h2.symm.trans e)
      subst this
      rw [va_up_s, pk_us, bt_set _ hn hn, decide_eq_true rfl, Bool.or_true]
    by_cases c : (((D 8) (grp (D 11) gg a)) >>> (nI n &&& 31)) &&& 1 = 0
    · by_cases d : D 8 (grp (D 11) gg a) = 0
      · exact ⟨2, _, fun Y => by unfold F_76; rw [if_neg hne, bnN_e, hcl, if_pos c, if_pos d], fun q hq => va_up_n _ _ hq, Or.inr (Or.inr rfl), fun z => absurd z (by decide), hup, hbn, fun z => absurd z hno, fun z => absurd z (by decide)⟩
      · by_cases q : ((upd (D 17) a ((D 17 a) ||| (1 <<< (nI n &&& 31)))) a) &&& (D 8 (grp (D 11) gg a)) = D 8 (grp (D 11) gg a)
        · exact ⟨1, _, fun Y => by unfold F_76; rw [if_neg hne, bnN_e, hcl, if_pos c, if_neg d, if_neg (fun z => z q)], fun q hq => va_up_n _ _ hq, Or.inr (Or.inl rfl), fun z => absurd z (by decide), hup, hbn, fun z => absurd z hno, fun z => absurd z (by decide)⟩
        · exact ⟨2, _, fun Y => by unfold F_76; rw [if_neg hne, bnN_e, hcl, if_pos c, if_neg d, if_pos q], fun q hq => va_up_n _ _ hq, Or.inr (Or.inr rfl), fun z => absurd z (by decide), hup, hbn, fun z => absurd z hno, fun z => absurd z (by decide)⟩
    · refine ⟨0, _, fun Y => by unfold F_76; rw [if_neg hne, bnN_e, hcl, if_neg c], fun q hq => va_up_n _ _ hq, Or.inl rfl, fun _ => ⟨a, ha, e, ?_⟩, hup, hbn, fun z => absurd z hno, fun _ => hno⟩
      cases z : bt (D 8 (grp (D 11) gg a)) n with
      | true => rfl
      | false => exact absurd ((bitz _ hn).mpr z) c
/-- how many newer ROOTS there are among them -/
def nrT (ro : Int32) (b : Nat → Int32) : Nat → Nat → Nat
  | 0, _ => 0
  | k + 1, i => (if ¬ rtB (b i) = 0 ∧ ¬ (b i - b i / 512 * 512) ≤ ro then 1 else 0) + nrT ro b k (i + 1)
/-- something new at i -/
def nwI (D : Nat → Nat → Int32) (K A : Int64) (s2 t : Int32) : Prop := nwO (D 16 960) t ∨ (s2 = 0 ∧ ∃ a, a < 960 ∧ a % 20 = 19 ∧ fndI (D 15) (D 16) t = nI a ∧ bq K (a / 20) = false ∧ bq A (a / 20) = false)
def LZ (gg : Nat) (me : Int32) (u b : Nat → Int32) (s2 : Int32) (K : Int64) (n k i d c : Nat) (D : Nat → Nat → Int32) (A : Int64) (D' : Nat → Nat → Int32) (A' : Int64) (Z : List Mg) : Prop :=
  (∀ q, q ≠ 7 → q ≠ 9 → q ≠ 17 → D' q = D q) ∧ (∀ x, x ≠ 10 → D' 7 x = D 7 x) ∧
  (∃ w, D' 7 10 = scB (D 7 10) (u 1) w ∧ (¬ w = 0 → u 6 = 0 ∧ ¬ s2 = 0 ∧ ∃ c', c' ≤ k ∧ u 7 = nI (c + c') ∧ (c' = k → ∀ j, i ≤ j → j < i + k → KPd gg D n (b j)))) ∧
  (∀ N, Wt N Z + 2 * zA A' ≤ 2 * nrT (D 16 960) b k i + 10 + 2 * zA A) ∧ zA A' ≤ zA A ∧
  (∀ z ∈ Z, (∃ j, i ≤ j ∧ j < i + k ∧ z = mGT me D (b j) (u 1) ∧ nwT D K (b j)) ∨ ∃ (c' : Nat) (bf : Nat → Int32), c' ≤ d + k ∧ z = (va_up (mg 12 me (u 1) (D 7 7) (D 7 8)) 7 (nI c'), bf)) ∧
  (∀ a m, m < 32 → bt (D 17 a) m = true → bt (D' 17 a) m = true) ∧ (∀ j a, i ≤ j → j < i + k → a < 961 → fndI (D 15) (D 16) (b j) = nI a → bt (D' 17 a) n = true) ∧
  ((∃ j, i ≤ j ∧ j < i + k ∧ nwI D K A s2 (b j)) → ∃ j Z', Z = mGT me D (b j) (u 1) :: Z' ∧ i ≤ j ∧ j < i + k ∧ nwT D K (b j))
/-- one tag: nothing is fetched -/
theorem LZ.stp0 {gg : Nat} {me : Int32} {u b : Nat → Int32} {s2 : Int32} {K : Int64} {n k i d d2 c y : Nat} {D D2 D' : Nat → Nat → Int32} {A A' : Int64} {Z : List Mg} (h : LZ gg me u b s2 K n k (i + 1) d2 (c + y) D2 A D' A' Z) (hq : ∀ q, q ≠ 9 → q ≠ 17 → D2 q = D q) (hd : d2 ≤ d + 1) (hy : y ≤ 1) (hk : y = 1 → KPd gg D n (b i)) (hup : ∀ a m, m < 32 → bt (D 17 a) m = true → bt (D2 17 a) m = true) (hbn : ∀ a, a < 961 → fndI (D 15) (D 16) (b i) = nI a → bt (D2 17 a) n = true) (hn : n < 32) (hno : ¬ nwI D K A s2 (b i)) : LZ gg me u b s2 K n (k + 1) i d c D A D' A' Z := by
  have e7 : D2 7 = D 7 := hq 7 (by decide) (by decide)
  have e8 : D2 8 = D 8 := hq 8 (by decide) (by decide)
  have e11 : D2 11 = D 11 := hq 11 (by decide) (by decide)
  have e15 : D2 15 = D 15 := hq 15 (by decide) (by decide)
  have e16 : D2 16 = D 16 := hq 16 (by decide) (by decide)
  have egt : ∀ t, mGT me D2 t (u 1) = mGT me D t (u 1) := fun t => by unfold mGT; rw [e7]
  have ent : ∀ t, nwT D2 K t ↔ nwT D K t := fun t => by unfold nwT; rw [e15, e16]
  have eni : ∀ t, nwI D2 K A s2 t ↔ nwI D K A s2 t := fun t => by unfold nwI; rw [e15, e16]
  obtain ⟨h1, h2, ⟨w, h3, h4⟩, h5, h6, h7, h8, h9, h10⟩ := h
  refine ⟨fun q z1 z2 z3 => by rw [h1 q z1 z2 z3, hq q z2 z3], fun x hx => by rw [h2 x hx, e7], ⟨w, by rw [h3, e7], fun z => ?_⟩, fun N => ?_, h6, fun z hz => ?_, fun a m hm z => h8 a m hm (hup a m hm z), fun j a j1 j2 ha e => ?_, fun ⟨j, j1, j2, j3⟩ => ?_⟩
  · obtain ⟨a1, a2, c', a3, a4, a5⟩ := h4 z
    refine ⟨a1, a2, y + c', by omega, by rw [a4, Nat.add_assoc], fun e j j1 j2 => ?_⟩
    rcases Nat.lt_or_ge i j with q | q
    · exact (a5 (by omega) j (by omega) (by omega)).cg e8.symm e11.symm e15.symm e16.symm
    · have : j = i := by omega
      rw [this]; exact hk (by omega)
  · have := h5 N
    rw [e16] at this
    show _ ≤ 2 * ((if ¬ rtB (b i) = 0 ∧ ¬ (b i - b i / 512 * 512) ≤ D 16 960 then 1 else 0) + nrT (D 16 960) b k (i + 1)) + 10 + 2 * zA A
    omega
  · rcases h7 z hz with ⟨j, j1, j2, j3, j4⟩ | ⟨c', bf, a1, a2⟩
    · exact Or.inl ⟨j, by omega, by omega, by rw [j3, egt], (ent _).mp j4⟩
    · exact Or.inr ⟨c', bf, by omega, by rw [a2, e7]⟩
  · rcases Nat.lt_or_ge i j with q | q
    · exact h9 j a (by omega) (by omega) ha (by rw [e15, e16]; exact e)
    · have : j = i := by omega
      rw [this] at e
      exact h8 a n hn (hbn a ha e)
  · have hlt : i < j := by
      rcases Nat.lt_or_ge i j with q | q
      · exact q
      · have : j = i := by omega
        rw [this] at j3; exact absurd j3 hno
    obtain ⟨j', Z', r1, r2, r3, r4⟩ := h10 ⟨j, by omega, by omega, (eni _).mpr j3⟩
    exact ⟨j', Z', by rw [r1, egt], by omega, by omega, (ent _).mp r4⟩
/-- one tag: it is fetched if it is new -/
theorem LZ.stpF {gg : Nat} {me : Int32} {u b : Nat → Int32} {s2 : Int32} {K : Int64} {n k i d d2 c y : Nat} {D D2 D' : Nat → Nat → Int32} {A A1 A' : Int64} {Z1 Z : List Mg} (h : LZ gg me u b s2 K n k (i + 1) d2 (c + y) D2 A1 D' A' Z) (hq : ∀ q, q ≠ 9 → q ≠ 17 → D2 q = D q) (hd : d2 ≤ d + 1) (hy : y ≤ 1) (hk : y = 1 → KPd gg D n (b i)) (hup : ∀ a m, m < 32 → bt (D 17 a) m = true → bt (D2 17 a) m = true) (hbn : ∀ a, a < 961 → fndI (D 15) (D 16) (b i) = nI a → bt (D2 17 a) n = true) (hn : n < 32)
    (hz : (Z1 = [] ∧ A1 = A ∧ ¬ nwO (D2 16 960) (b i)) ∨ (Z1 = [mGT me D2 (b i) (u 1)] ∧ nwT D2 K (b i) ∧ ((nwO (D2 16 960) (b i) ∧ zA A1 ≤ zA A) ∨ zA A1 + 1 = zA A))) (hr : ∀ a, a < 960 → a % 20 = 19 → fndI (D2 15) (D2 16) (b i) = nI a → bq K (a / 20) = false → bq A (a / 20) = false → Z1 = [mGT me D2 (b i) (u 1)]) : LZ gg me u b s2 K n (k + 1) i d c D A D' A' (Z1 ++ Z) := by
  have e7 : D2 7 = D 7 := hq 7 (by decide) (by decide)
  have e15 : D2 15 = D 15 := hq 15 (by decide) (by decide)
  have e16 : D2 16 = D 16 := hq 16 (by decide) (by decide)
  have egt : ∀ t, mGT me D2 t (u 1) = mGT me D t (u 1) := fun t => by unfold mGT; rw [e7]
  have ent : ∀ t, nwT D2 K t ↔ nwT D K t := fun t => by unfold nwT; rw [e15, e16]
  rcases hz with ⟨z1, z2, z3⟩ | ⟨z1, z2, z3⟩
  · subst z1 z2
    refine LZ.stp0 h hq hd hy hk hup hbn hn (fun z => ?_)
    rcases z with z | ⟨_, a, a1, a2, a3, a4, a5⟩
    · exact z3 (by rw [e16]; exact z)
    · have := hr a a1 a2 (by rw [e15, e16]; exact a3) a4 a5
      cases this
  · subst z1
    have e8 : D2 8 = D 8 := hq 8 (by decide) (by decide)
    have e11 : D2 11 = D 11 := hq 11 (by decide) (by decide)
    obtain ⟨h1, h2, ⟨w, h3, h4⟩, h5, h6, h7, h8, h9, h10⟩ := h
    have hA : zA A1 ≤ zA A := by rcases z3 with ⟨_, y⟩ | y <;> omega
    refine ⟨fun q z1 z2 z3 => by rw [h1 q z1 z2 z3, hq q z2 z3], fun x hx => by rw [h2 x hx, e7], ⟨w, by rw [h3, e7], fun z => ?_⟩, fun N => ?_, by omega, fun z hz => ?_, fun a m hm z => h8 a m hm (hup a m hm z), fun j a j1 j2 ha e => ?_, fun _ => ⟨i, Z, by rw [← egt]; rfl, Nat.le_refl _, by omega, (ent _).mp z2⟩⟩
    · obtain ⟨a1, a2, c', a3, a4, a5⟩ := h4 z
      refine ⟨a1, a2, y + c', by omega, by rw [a4, Nat.add_assoc], fun e j j1 j2 => ?_⟩
      rcases Nat.lt_or_ge i j with q | q
      · exact (a5 (by omega) j (by omega) (by omega)).cg e8.symm e11.symm e15.symm e16.symm
      · have : j = i := by omega
        rw [this]; exact hk (by omega)
    · have := h5 N
      rw [e16] at this z3
      show wk N ((mGT me D2 (b i) (u 1)).1 0) + Wt N Z + 2 * zA A' ≤ 2 * ((if ¬ rtB (b i) = 0 ∧ ¬ (b i - b i / 512 * 512) ≤ D 16 960 then 1 else 0) + nrT (D 16 960) b k (i + 1)) + 10 + 2 * zA A
      rw [mGT_0]
      have h6 : wk N 6 = 2 := rfl
      rw [h6]
      rcases z3 with ⟨y1, y2⟩ | y
      · have y1 : ¬ rtB (b i) = 0 ∧ ¬ (b i - b i / 512 * 512) ≤ D 16 960 := y1
        rw [if_pos y1]; omega
      · omega
    · rcases List.mem_append.mp hz with e | e
      · exact Or.inl ⟨i, Nat.le_refl _, by omega, by rw [List.mem_singleton.mp e, egt], (ent _).mp z2⟩
      · rcases h7 z e with ⟨j, j1, j2, j3, j4⟩ | ⟨c', bf, a1, a2⟩
        · exact Or.inl ⟨j, by omega, by omega, by rw [j3, egt], (ent _).mp j4⟩
        · exact Or.inr ⟨c', bf, by omega, by rw [a2, e7]⟩
    · rcases Nat.lt_or_ge i j with q | q
      · exact h9 j a (by omega) (by omega) ha (by rw [e15, e16]; exact e)
      · have : j = i := by omega
        rw [this] at e
        exact h8 a n hn (hbn a ha e)
theorem listed_z {nn gg : Nat} {C me : Int32} {f u b : Nat → Int32} {s2 s3 : Int32} {K : Int64} {n : Nat} (hn : n < 32) (hu : u 1 = nI n) : ∀ (k i d c : Nat) (D : Nat → Nat → Int32) (A : Int64), d + k < 2 ^ 31 → (∀ j, i ≤ j → j < i + k → fdO D (b j)) →
    ∃ (D' : Nat → Nat → Int32) (A' : Int64) (Z : List Mg), (∀ Y, G_70 nn gg C me f u b s2 s3 k i d (nI c) D K A Y = (D', K, A', psl Y Z)) ∧ LZ gg me u b s2 K n k i d c D A D' A' Z
  | 0, i, d, c, D, A, hd, hf => by
    have fin : ∀ w, (¬ w = 0 → u 6 = 0 ∧ ¬ s2 = 0 ∧ nI c = u 7) → ∃ (Z : List Mg), (∀ Y, (if (nI d) ≤ 0 then (va_up D 7 (upd (D 7) 10 (scB (D 7 10) (u 1) w)), K, A, Y) else (va_up D 7 (upd (D 7) 10 (scB (D 7 10) (u 1) w)), K, A, pst Y (va_up (mg 12 me (u 1) (D 7 7) (D 7 8)) 7 (nI d), fun j => D 9 j))) = ((va_up D 7 (upd (D 7) 10 (scB (D 7 10) (u 1) w)), K, A, psl Y Z) : St)) ∧ LZ gg me u b s2 K n 0 i d c D A (va_up D 7 (upd (D 7) 10 (scB (D 7 10) (u 1) w))) A Z := fun w hw => by
      have base : ∀ Z, (∀ N, Wt N Z ≤ 10) → (∀ z ∈ Z, ∃ (c' : Nat) (bf : Nat → Int32), c' ≤ d + 0 ∧ z = (va_up (mg 12 me (u 1) (D 7 7) (D 7 8)) 7 (nI c'), bf)) → LZ gg me u b s2 K n 0 i d c D A (va_up D 7 (upd (D 7) 10 (scB (D 7 10) (u 1) w))) A Z := fun Z h1 h2 =>
        ⟨fun q z1 _ _ => va_up_n _ _ z1, fun x hx => by rw [va_up_s, pk_un hx], ⟨w, by rw [va_up_s, pk_us], fun z => ⟨(hw z).1, (hw z).2.1, 0, Nat.le_refl _, (hw z).2.2.symm, fun _ j j1 j2 => by omega⟩⟩, fun N => by have := h1 N; omega, Nat.le_refl _, fun z hz => Or.inr (h2 z hz), fun a m _ z => by rw [va_up_n _ _ (by decide)]; exact z, fun j a j1 j2 => by omega, fun ⟨j, j1, j2, _⟩ => by omega⟩
      by_cases e : nI d ≤ 0
      · exact ⟨[], fun Y => by rw [if_pos e]; rfl, base [] (fun N => Nat.zero_le _) (fun z hz => by cases hz)⟩
      · refine ⟨[(va_up (mg 12 me (u 1) (D 7 7) (D 7 8)) 7 (nI d), fun j => D 9 j)], fun Y => by rw [if_neg e]; rfl, base _ (fun N => ?_) (fun z hz => ⟨d, _, Nat.le_refl _, List.mem_singleton.mp hz⟩)⟩
        show wk N (va_up (mg 12 me (u 1) (D 7 7) (D 7 8)) 7 (nI d) 0) + 0 ≤ 10
        rw [va_up_n _ _ (by decide)]
        exact Nat.le_refl 10
    by_cases w1 : u 6 = 0 ∧ ¬ s2 = 0 ∧ nI c = u 7
    · obtain ⟨Z, z1, z2⟩ := fin 1 (fun _ => w1)
      refine ⟨_, A, Z, fun Y => ?_, z2⟩
      rw [← z1 Y, G_70.eq_1]
      by_cases e : nI d ≤ 0
      · rw [if_pos e, if_pos e, if_neg (fun z => z w1.1), if_neg w1.2.1, if_neg (fun z => z w1.2.2)]
      · rw [if_neg e, if_neg e, if_neg (fun z => z w1.1), if_neg w1.2.1, if_neg (fun z => z w1.2.2)]
    · obtain ⟨Z, z1, z2⟩ := fin 0 (fun z => absurd rfl z)
      refine ⟨_, A, Z, fun Y => ?_, z2⟩
      rw [← z1 Y, G_70.eq_1]
      by_cases e : nI d ≤ 0
      · rw [if_pos e, if_pos e]
        by_cases e6 : u 6 = 0
        · rw [if_neg (fun z => z e6)]
          by_cases e2 : s2 = 0
          · rw [if_pos e2]
          · rw [if_neg e2, if_pos (fun z => w1 ⟨e6, e2, z⟩)]
        · rw [if_pos e6]
          by_cases e2 : s2 = 0
          · rw [if_pos e2]
          · rw [if_neg e2]
      · rw [if_neg e, if_neg e]
        by_cases e6 : u 6 = 0
        · rw [if_neg (fun z => z e6)]
          by_cases e2 : s2 = 0
          · rw [if_pos e2]
          · rw [if_neg e2, if_pos (fun z => w1 ⟨e6, e2, z⟩)]
        · rw [if_pos e6]
          by_cases e2 : s2 = 0
          · rw [if_pos e2]
          · rw [if_neg e2]
  | k + 1, i, d, c, D, A, hd, hf => by
    obtain ⟨y, D1, j1, j2, j3, j4, j5, j6, j7, j8⟩ := judge_z (nn := nn) (gg := gg) (C := C) (me := me) (f := f) (u := u) (b := b) (K := K) (A := A) hn (hf i (Nat.le_refl _) (by omega))
    have hf2 : ∀ D2 : Nat → Nat → Int32, (∀ q, q ≠ 9 → q ≠ 17 → D2 q = D q) → ∀ j, i + 1 ≤ j → j < i + 1 + k → fdO D2 (b j) := fun D2 h2 j a1 a2 => by
      have := hf j (by omega) (by omega)
      unfold fdO at this ⊢
      rw [h2 15 (by decide) (by decide), h2 16 (by decide) (by decide)]
      exact this
    have hfi : ∀ D2 : Nat → Nat → Int32, (∀ q, q ≠ 9 → q ≠ 17 → D2 q = D q) → fndI (D2 15) (D2 16) (b i) = -1 ∨ ∃ a, a < 961 ∧ fndI (D2 15) (D2 16) (b i) = nI a := fun D2 h2 => by
      rw [h2 15 (by decide) (by decide), h2 16 (by decide) (by decide)]
      exact (hf i (Nat.le_refl _) (by omega)).1
    -- without and with a fetch
    have go0 : ∀ (D2 : Nat → Nat → Int32) (d2 c2 : Nat), (∀ q, q ≠ 9 → q ≠ 17 → D2 q = D q) → d2 ≤ d + 1 → c2 ≤ 1 → (c2 = 1 → KPd gg D n (b i)) → D2 17 = D1 17 → ¬ nwI D K A s2 (b i) → (∀ Y, G_70 nn gg C me f u b s2 s3 (k + 1) i d (nI c) D K A Y = G_70 nn gg C me f u b s2 s3 k (i + 1) d2 (nI (c + c2)) D2 K A Y) → ∃ (D' : Nat → Nat → Int32) (A' : Int64) (Z : List Mg), (∀ Y, G_70 nn gg C me f u b s2 s3 (k + 1) i d (nI c) D K A Y = (D', K, A', psl Y Z)) ∧ LZ gg me u b s2 K n (k + 1) i d c D A D' A' Z := fun D2 d2 c2 a1 a2 a3 a4 a5 a6 a7 => by
      obtain ⟨D', A', Z, r1, r2⟩ := listed_z (nn := nn) (C := C) (me := me) (f := f) (s2 := s2) (s3 := s3) (K := K) (gg := gg) hn hu k (i + 1) d2 (c + c2) D2 A (by omega) (hf2 D2 a1)
      exact ⟨D', A', Z, fun Y => by rw [a7 Y, r1 Y], LZ.stp0 r2 a1 a2 a3 a4 (fun a m hm z => by rw [a5]; exact j5 a m hm z) (fun a ha z => by rw [a5]; exact j6 a ha z) hn a6⟩
    have goF : ∀ (D2 : Nat → Nat → Int32) (d2 c2 : Nat), (∀ q, q ≠ 9 → q ≠ 17 → D2 q = D q) → d2 ≤ d + 1 → c2 ≤ 1 → (c2 = 1 → KPd gg D n (b i)) → D2 17 = D1 17 → (∀ Y, G_70 nn gg C me f u b s2 s3 (k + 1) i d (nI c) D K A Y = bnS (F_79 nn gg C me f u b D2 K A Y (b i) (u 1)) (fun D3 K3 A3 Y3 => G_70 nn gg C me f u b s2 s3 k (i + 1) d2 (nI (c + c2)) D3 K3 A3 Y3)) → ∃ (D' : Nat → Nat → Int32) (A' : Int64) (Z : List Mg), (∀ Y, G_70 nn gg C me f u b s2 s3 (k + 1) i d (nI c) D K A Y = (D', K, A', psl Y Z)) ∧ LZ gg me u b s2 K n (k + 1) i d c D A D' A' Z := fun D2 d2 c2 a1 a2 a3 a4 a5 a7 => by
      obtain ⟨A1, Z1, w1, w2, w3⟩ := news_z (nn := nn) (gg := gg) (C := C) (me := me) (f := f) (u := u) (b := b) (K := K) (A := A) (k := u 1) (hfi D2 a1)
      obtain ⟨D', A', Z, r1, r2⟩ := listed_z (nn := nn) (C := C) (me := me) (f := f) (s2 := s2) (s3 := s3) (K := K) (gg := gg) hn hu k (i + 1) d2 (c + c2) D2 A1 (by omega) (hf2 D2 a1)
      exact ⟨D', A', Z1 ++ Z, fun Y => by rw [a7 Y, w1 Y, bnS_e, r1 _, psl_app], LZ.stpF r2 a1 a2 a3 a4 (fun a m hm z => by rw [a5]; exact j5 a m hm z) (fun a ha z => by rw [a5]; exact j6 a ha z) hn w2 w3⟩
    have e1 : ∀ q, q ≠ 9 → q ≠ 17 → D1 q = D q := fun q _ h => j2 q h
    have e9 : ∀ q, q ≠ 9 → q ≠ 17 → va_up D1 9 (upd (D1 9) d (b i)) q = D q := fun q h1 h2 => by rw [va_up_n _ _ h1, j2 q h2]
    have hjy : ∀ Y, F_76 nn gg C me f u b D K A Y (b i) (u 1) = (y, D1, K, A, Y) := fun Y => by rw [hu]; exact j1 Y
    rcases j3 with hy | hy | hy
    · subst hy
      by_cases q2 : s2 = 0
      · refine goF D1 d 1 e1 (Nat.le_succ _) (Nat.le_refl _) (fun _ => j4 rfl) rfl (fun Y => ?_)
        rw [G_70.eq_2, hjy Y, bnR_e, if_neg (fun z => z rfl), if_neg (by decide), if_neg (fun z => z q2), nI_1]
      · refine go0 D1 d 1 e1 (Nat.le_succ _) (Nat.le_refl _) (fun _ => j4 rfl) rfl (fun z => ?_) (fun Y => ?_)
        · rcases z with z | ⟨z, _⟩
          · exact j8 rfl z
          · exact q2 z
        · rw [G_70.eq_2, hjy Y, bnR_e, if_neg (fun z => z rfl), if_neg (by decide), if_pos q2, nI_1]
    · subst hy
      have hno : ¬ nwO (D 16 960) (b i) := fun z => absurd (j7 z) (by decide)
      by_cases q3 : s3 = 0
      · by_cases q2 : s2 = 0
        · refine goF D1 d 0 e1 (Nat.le_succ _) (Nat.zero_le _) (fun z => absurd z (by decide)) rfl (fun Y => ?_)
          rw [G_70.eq_2, hjy Y, bnR_e, if_pos (by decide), if_neg (fun z => z rfl), if_pos q3, if_neg (by decide), if_neg (fun z => z q2)]
          rfl
        · refine go0 D1 d 0 e1 (Nat.le_succ _) (Nat.zero_le _) (fun z => absurd z (by decide)) rfl (fun z => ?_) (fun Y => ?_)
          · rcases z with z | ⟨z, _⟩
            · exact hno z
            · exact q2 z
          · rw [G_70.eq_2, hjy Y, bnR_e, if_pos (by decide), if_neg (fun z => z rfl), if_pos q3, if_neg (by decide), if_pos q2]
            rfl
      · by_cases q2 : s2 = 0
        · refine goF (va_up D1 9 (upd (D1 9) d (b i))) (d + 1) 0 e9 (Nat.le_refl _) (Nat.zero_le _) (fun z => absurd z (by decide)) (va_up_n _ _ (by decide)) (fun Y => ?_)
          rw [G_70.eq_2, hjy Y, bnR_e, if_pos (by decide), if_neg (fun z => z rfl), if_neg q3, if_neg (by decide), if_neg (fun z => z q2)]
          rfl
        · refine go0 (va_up D1 9 (upd (D1 9) d (b i))) (d + 1) 0 e9 (Nat.le_refl _) (Nat.zero_le _) (fun z => absurd z (by decide)) (va_up_n _ _ (by decide)) (fun z => ?_) (fun Y => ?_)
          · rcases z with z | ⟨z, _⟩
            · exact hno z
            · exact q2 z
          · rw [G_70.eq_2, hjy Y, bnR_e, if_pos (by decide), if_neg (fun z => z rfl), if_neg q3, if_neg (by decide), if_pos q2]
            rfl
    · subst hy
      refine goF D1 d 0 e1 (Nat.le_succ _) (Nat.zero_le _) (fun z => absurd z (by decide)) rfl (fun Y => ?_)
      rw [G_70.eq_2, hjy Y, bnR_e, if_pos (by decide), if_pos (by decide), if_pos rfl]
      rfl

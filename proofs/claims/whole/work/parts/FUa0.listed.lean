/-! listed: what is dropped, what is fetched -/
theorem bt_ext {x y : Int32} (h : ∀ i, i < 32 → bt x i = bt y i) : x = y := by
  apply Int32.toBitVec_inj.mp
  apply BitVec.eq_of_getLsbD_eq
  intro i hi
  exact h i hi
/-- a COPY that may go -/
def jS (gg : Nat) (D : Nat → Nat → Int32) (K : Int64) (n : Nat) (t : Int32) : Prop :=
  (fndI (D 15) (D 16) t = -1 ∧ ¬ knA K (D 10 9) = 0 ∧ ¬ D 16 960 < (t - t / 512 * 512)) ∨ ∃ a, a < 961 ∧ fndI (D 15) (D 16) t = nI a ∧ bt (D 8 (grp (D 11) gg a)) n = false ∧ ¬ D 8 (grp (D 11) gg a) = 0 ∧ ∀ m, m < 32 → bt (D 8 (grp (D 11) gg a)) m = true → bt (D 17 a) m = true
def sMk (gg n : Nat) (D D2 : Nat → Nat → Int32) : Prop := ∀ a m, m < 32 → bt (D 8 (grp (D 11) gg a)) n = false → bt (D 8 (grp (D 11) gg a)) m = true → bt (D2 17 a) m = bt (D 17 a) m
theorem jS.iff {gg n : Nat} {D D2 : Nat → Nat → Int32} {K : Int64} {t : Int32} (hq : ∀ q, q ≠ 9 → q ≠ 17 → D2 q = D q) (hs : sMk gg n D D2) : jS gg D2 K n t ↔ jS gg D K n t := by
  unfold jS
  rw [hq 15 (by decide) (by decide), hq 16 (by decide) (by decide), hq 10 (by decide) (by decide), hq 8 (by decide) (by decide), hq 11 (by decide) (by decide)]
  constructor
  · rintro (h | ⟨a, a1, a2, a3, a4, a5⟩)
    · exact Or.inl h
    · exact Or.inr ⟨a, a1, a2, a3, a4, fun m hm hb => by rw [← hs a m hm a3 hb]; exact a5 m hm hb⟩
  · rintro (h | ⟨a, a1, a2, a3, a4, a5⟩)
    · exact Or.inl h
    · exact Or.inr ⟨a, a1, a2, a3, a4, fun m hm hb => by rw [hs a m hm a3 hb]; exact a5 m hm hb⟩
theorem judge_y {nn gg : Nat} {C me : Int32} {f u b : Nat → Int32} {D : Nat → Nat → Int32} {K A : Int64} {t : Int32} {n : Nat} (hn : n < 32) (hf : fndI (D 15) (D 16) t = -1 ∨ ∃ a, a < 961 ∧ fndI (D 15) (D 16) t = nI a) :
    ∃ (y : Int32) (D1 : Nat → Nat → Int32), (∀ Y, F_76 nn gg C me f u b D K A Y t (nI n) = (y, D1, K, A, Y)) ∧ (∀ q, q ≠ 17 → D1 q = D q) ∧ sMk gg n D D1 ∧ ((y = 0 ∧ KPd gg D n t ∧ ¬ jS gg D K n t) ∨ (y = 1 ∧ ¬ KPd gg D n t ∧ jS gg D K n t) ∨ (y = 2 ∧ ¬ KPd gg D n t ∧ ¬ jS gg D K n t)) := by
  have rf : sMk gg n D D := fun _ _ _ _ _ => rfl
  rcases hf with e | ⟨a, ha, e⟩
  · have nk : ¬ KPd gg D n t := fun ⟨a, a1, a2, _⟩ => by rw [e] at a2; exact absurd a2.symm (nIneg (by omega))
    have nj : ∀ P : Prop, (∃ a, a < 961 ∧ fndI (D 15) (D 16) t = nI a ∧ bt (D 8 (grp (D 11) gg a)) n = false ∧ ¬ D 8 (grp (D 11) gg a) = 0 ∧ ∀ m, m < 32 → bt (D 8 (grp (D 11) gg a)) m = true → bt (D 17 a) m = true) → P := fun P ⟨a, a1, a2, _⟩ => by rw [e] at a2; exact absurd a2.symm (nIneg (by omega))
    by_cases c : knA K (D 10 9) = 0
    · refine ⟨2, D, fun Y => by unfold F_76; rw [if_pos e, if_pos c], fun _ _ => rfl, rf, Or.inr (Or.inr ⟨rfl, nk, fun z => ?_⟩)⟩
      rcases z with ⟨_, z, _⟩ | z
      · exact z c
      · exact nj _ z
    · by_cases d : D 16 960 < (t - t / 512 * 512)
      · refine ⟨2, D, fun Y => by unfold F_76; rw [if_pos e, if_neg c, if_pos d], fun _ _ => rfl, rf, Or.inr (Or.inr ⟨rfl, nk, fun z => ?_⟩)⟩
        rcases z with ⟨_, _, z⟩ | z
        · exact z d
        · exact nj _ z
      · exact ⟨1, D, fun Y => by unfold F_76; rw [if_pos e, if_neg c, if_neg d], fun _ _ => rfl, rf, Or.inr (Or.inl ⟨rfl, nk, Or.inl ⟨e, c, d⟩⟩)⟩
  · have hcl : (fndI (D 15) (D 16) t).toNatClampNeg = a := by rw [e, nI_clamp (by omega)]
    have hne : ¬ fndI (D 15) (D 16) t = -1 := by rw [e]; exact nIneg (by omega)
    have ea : ∀ a', a' < 961 → fndI (D 15) (D 16) t = nI a' → a' = a := fun a' h1 h2 => nI_inj (by omega) (by omega) (h2.symm.trans e)
    have hsm : sMk gg n D (va_up D 17 (upd (D 17) a ((D 17 a) ||| (1 <<< (nI n &&& 31))))) := fun a' m hm h1 h2 => by
      rw [va_up_s]
      by_cases q : a' = a
      · subst q
        rw [pk_us, bt_set _ hn hm]
        have : ¬ m = n := fun z => by rw [z, h1] at h2; cases h2
        rw [decide_eq_false this, Bool.or_false]
      · rw [pk_un q]
    by_cases c : (((D 8) (grp (D 11) gg a)) >>> (nI n &&& 31)) &&& 1 = 0
    · have cb := (bitz _ hn).mp c
      have nk : ¬ KPd gg D n t := fun ⟨a', a1, a2, a3⟩ => by
        have := ea a' a1 a2
        subst this
        rw [cb] at a3; cases a3
      by_cases d : D 8 (grp (D 11) gg a) = 0
      · refine ⟨2, _, fun Y => by unfold F_76; rw [if_neg hne, bnN_e, hcl, if_pos c, if_pos d], fun q hq => va_up_n _ _ hq, hsm, Or.inr (Or.inr ⟨rfl, nk, fun z => ?_⟩)⟩
        rcases z with ⟨z, _⟩ | ⟨a', a1, a2, _, a4, _⟩
        · exact hne z
        · have := ea a' a1 a2
          subst this
          exact a4 d
      · have hbits : ((upd (D 17) a ((D 17 a) ||| (1 <<< (nI n &&& 31)))) a) &&& (D 8 (grp (D 11) gg a)) = D 8 (grp (D 11) gg a) ↔ ∀ m, m < 32 → bt (D 8 (grp (D 11) gg a)) m = true → bt (D 17 a) m = true := by
          constructor
          · intro q m hm hb
            have h1 := hsm a m hm cb hb
            rw [va_up_s] at h1
            rw [← h1]
            have h2 : bt ((upd (D 17) a ((D 17 a) ||| (1 <<< (nI n &&& 31)))) a &&& (D 8 (grp (D 11) gg a))) m = true := by rw [q]; exact hb
            rw [b_and, hb, Bool.and_true] at h2
            exact h2
          · intro q
            apply bt_ext
            intro m hm
            rw [b_and]
            cases hb : bt (D 8 (grp (D 11) gg a)) m with
            | false => simp
            | true =>
              have h1 := hsm a m hm cb hb
              rw [va_up_s] at h1
              rw [h1, q m hm hb]; rfl
        by_cases q : ((upd (D 17) a ((D 17 a) ||| (1 <<< (nI n &&& 31)))) a) &&& (D 8 (grp (D 11) gg a)) = D 8 (grp (D 11) gg a)
        · exact ⟨1, _, fun Y => by unfold F_76; rw [if_neg hne, bnN_e, hcl, if_pos c, if_neg d, if_neg (fun z => z q)], fun q hq => va_up_n _ _ hq, hsm, Or.inr (Or.inl ⟨rfl, nk, Or.inr ⟨a, ha, e, cb, d, hbits.mp q⟩⟩)⟩
        · refine ⟨2, _, fun Y => by unfold F_76; rw [if_neg hne, bnN_e, hcl, if_pos c, if_neg d, if_pos q], fun q hq => va_up_n _ _ hq, hsm, Or.inr (Or.inr ⟨rfl, nk, fun z => ?_⟩)⟩
          rcases z with ⟨z, _⟩ | ⟨a', a1, a2, _, _, a5⟩
          · exact hne z
          · have := ea a' a1 a2
            subst this
            exact q (hbits.mpr a5)
    · have cb : bt (D 8 (grp (D 11) gg a)) n = true := by
        cases z : bt (D 8 (grp (D 11) gg a)) n with
        | true => rfl
        | false => exact absurd ((bitz _ hn).mpr z) c
      refine ⟨0, _, fun Y => by unfold F_76; rw [if_neg hne, bnN_e, hcl, if_neg c], fun q hq => va_up_n _ _ hq, hsm, Or.inl ⟨rfl, ⟨a, ha, e, cb⟩, fun z => ?_⟩⟩
      rcases z with ⟨z, _⟩ | ⟨a', a1, a2, a3, _⟩
      · exact hne z
      · have := ea a' a1 a2
        subst this
        rw [cb] at a3; cases a3
def mDR (me : Int32) (u : Nat → Int32) (D : Nat → Nat → Int32) (d : Nat) (bf : Nat → Int32) : Mg := (va_up (mg 12 me (u 1) (D 7 7) (D 7 8)) 7 (nI d), bf)
def LY (gg : Nat) (me : Int32) (u b : Nat → Int32) (s2 s3 : Int32) (K : Int64) (n k i d c : Nat) (D : Nat → Nat → Int32) (A : Int64) (D' : Nat → Nat → Int32) (A' : Int64) (Z : List Mg) : Prop :=
  (A' = A ∨ ∃ j Z', Z = mGT me D (b j) (u 1) :: Z' ∧ i ≤ j ∧ j < i + k ∧ nwT D K (b j)) ∧
  (∃ (Zg Zd : List Mg) (d' : Nat) (bf : Nat → Int32), Z = Zg ++ Zd ∧ (∀ z ∈ Zg, ∃ j, i ≤ j ∧ j < i + k ∧ z = mGT me D (b j) (u 1) ∧ nwT D K (b j)) ∧ d ≤ d' ∧ d' ≤ d + k ∧ ((d' = 0 ∧ Zd = []) ∨ (0 < d' ∧ Zd = [mDR me u D d' bf])) ∧ (∀ m, m < d → bf m = D 9 m) ∧ (∀ m, d ≤ m → m < d' → ¬ s3 = 0 ∧ ∃ j, i ≤ j ∧ j < i + k ∧ bf m = b j ∧ jS gg D K n (b j)) ∧ (¬ s3 = 0 → ∀ j, i ≤ j → j < i + k → jS gg D K n (b j) → ∃ m, d ≤ m ∧ m < d' ∧ bf m = b j)) ∧
  ((∀ j, i ≤ j → j < i + k → KPd gg D n (b j)) → u 6 = 0 → ¬ s2 = 0 → u 7 = nI (c + k) → D' 7 10 = scB (D 7 10) (u 1) 1)
theorem LY.stp {gg : Nat} {me : Int32} {u b : Nat → Int32} {s2 s3 : Int32} {K : Int64} {n k i d d2 c y : Nat} {D D2 D' : Nat → Nat → Int32} {A A1 A' : Int64} {Z1 Z : List Mg} (h : LY gg me u b s2 s3 K n k (i + 1) d2 (c + y) D2 A1 D' A' Z) (hq : ∀ q, q ≠ 9 → q ≠ 17 → D2 q = D q) (hs : sMk gg n D D2)
    (hd : (d2 = d ∧ D2 9 = D 9 ∧ (¬ s3 = 0 → ¬ jS gg D K n (b i))) ∨ (d2 = d + 1 ∧ ¬ s3 = 0 ∧ jS gg D K n (b i) ∧ D2 9 = upd (D 9) d (b i))) (hk : KPd gg D n (b i) → y = 1) (hz : (Z1 = [] ∧ A1 = A) ∨ (Z1 = [mGT me D (b i) (u 1)] ∧ nwT D K (b i))) : LY gg me u b s2 s3 K n (k + 1) i d c D A D' A' (Z1 ++ Z) := by
  have e7 : D2 7 = D 7 := hq 7 (by decide) (by decide)
  have e15 : D2 15 = D 15 := hq 15 (by decide) (by decide)
  have e16 : D2 16 = D 16 := hq 16 (by decide) (by decide)
  have e8 : D2 8 = D 8 := hq 8 (by decide) (by decide)
  have e11 : D2 11 = D 11 := hq 11 (by decide) (by decide)
  have egt : ∀ t, mGT me D2 t (u 1) = mGT me D t (u 1) := fun t => by unfold mGT; rw [e7]
  have ent : ∀ t, nwT D2 K t ↔ nwT D K t := fun t => by unfold nwT; rw [e15, e16]
  have ejs : ∀ t, jS gg D2 K n t ↔ jS gg D K n t := fun t => jS.iff hq hs
  obtain ⟨h1, ⟨Zg, Zd, d', bf, g1, g2, g3, g4, g5, g6, g7, g8⟩, h3⟩ := h
  refine ⟨?_, ⟨Z1 ++ Zg, Zd, d', bf, by rw [g1, List.append_assoc], fun z hz' => ?_, by rcases hd with ⟨q, _⟩ | ⟨q, _⟩ <;> omega, by rcases hd with ⟨q, _⟩ | ⟨q, _⟩ <;> omega, ?_, fun m hm => ?_, fun m h1 h2 => ?_, fun h0 j j1 j2 hj => ?_⟩, fun ha h6 h2 h7 => ?_⟩
  · rcases hz with ⟨z1, z2⟩ | ⟨z1, z2⟩
    · rw [z1, ← z2]
      rcases h1 with q | ⟨j, Z', q1, q2, q3, q4⟩
      · exact Or.inl q
      · exact Or.inr ⟨j, Z', by rw [← egt]; exact q1, by omega, by omega, (ent _).mp q4⟩
    · rw [z1]; exact Or.inr ⟨i, Z, rfl, Nat.le_refl _, by omega, z2⟩
  · rcases List.mem_append.mp hz' with q | q
    · rcases hz with ⟨z1, _⟩ | ⟨z1, z2⟩
      · rw [z1] at q; cases q
      · rw [z1] at q; exact ⟨i, Nat.le_refl _, by omega, List.mem_singleton.mp q, z2⟩
    · obtain ⟨j, j1, j2, j3, j4⟩ := g2 z q
      exact ⟨j, by omega, by omega, by rw [j3, egt], (ent _).mp j4⟩
  · rcases g5 with q | ⟨q1, q2⟩
    · exact Or.inl q
    · exact Or.inr ⟨q1, by rw [q2]; unfold mDR; rw [e7]⟩
  · rcases hd with ⟨q, q9, _⟩ | ⟨q, _, _, q9⟩
    · rw [g6 m (by omega), q9]
    · rw [g6 m (by omega), q9, pk_un (by omega)]
  · rcases hd with ⟨q, _⟩ | ⟨q, q3, qj, q9⟩
    · obtain ⟨a1, j, j1, j2, j3, j4⟩ := g7 m (by omega) h2
      exact ⟨a1, j, by omega, by omega, j3, (ejs _).mp j4⟩
    · rcases Nat.lt_or_ge d m with r | r
      · obtain ⟨a1, j, j1, j2, j3, j4⟩ := g7 m (by omega) h2
        exact ⟨a1, j, by omega, by omega, j3, (ejs _).mp j4⟩
      · have : m = d := by omega
        subst this
        exact ⟨q3, i, Nat.le_refl _, by omega, by rw [g6 m (by omega), q9, pk_us], qj⟩
  · rcases Nat.lt_or_ge i j with r | r
    · obtain ⟨m, m1, m2, m3⟩ := g8 h0 j (by omega) (by omega) ((ejs _).mpr hj)
      exact ⟨m, by rcases hd with ⟨q, _⟩ | ⟨q, _⟩ <;> omega, m2, m3⟩
    · have : j = i := by omega
      subst this
      rcases hd with ⟨_, _, q⟩ | ⟨q, _, _, q9⟩
      · exact absurd hj (q h0)
      · exact ⟨d, Nat.le_refl _, by omega, by rw [g6 d (by omega), q9, pk_us]⟩
  · have hy := hk (ha i (Nat.le_refl _) (by omega))
    rw [← e7]
    exact h3 (fun j j1 j2 => (ha j (by omega) (by omega)).cg e8 e11 e15 e16) h6 h2 (by rw [h7]; congr 1; omega)
theorem listed_y {nn gg : Nat} {C me : Int32} {f u b : Nat → Int32} {s2 s3 : Int32} {K : Int64} {n : Nat} (hn : n < 32) (hu : u 1 = nI n) : ∀ (k i d c : Nat) (D : Nat → Nat → Int32) (A : Int64), d + k < 2 ^ 31 → (∀ j, i ≤ j → j < i + k → fndI (D 15) (D 16) (b j) = -1 ∨ ∃ a, a < 961 ∧ fndI (D 15) (D 16) (b j) = nI a) →
    ∃ (D' : Nat → Nat → Int32) (A' : Int64) (Z : List Mg), (∀ Y, G_70 nn gg C me f u b s2 s3 k i d (nI c) D K A Y = (D', K, A', psl Y Z)) ∧ LY gg me u b s2 s3 K n k i d c D A D' A' Z
  | 0, i, d, c, D, A, hd, hf => by
    have fin : ∀ w, (u 6 = 0 → ¬ s2 = 0 → u 7 = nI c → w = 1) → ∃ (Z : List Mg), (∀ Y, (if (nI d) ≤ 0 then (va_up D 7 (upd (D 7) 10 (scB (D 7 10) (u 1) w)), K, A, Y) else (va_up D 7 (upd (D 7) 10 (scB (D 7 10) (u 1) w)), K, A, pst Y (va_up (mg 12 me (u 1) (D 7 7) (D 7 8)) 7 (nI d), fun j => D 9 j))) = ((va_up D 7 (upd (D 7) 10 (scB (D 7 10) (u 1) w)), K, A, psl Y Z) : St)) ∧ LY gg me u b s2 s3 K n 0 i d c D A (va_up D 7 (upd (D 7) 10 (scB (D 7 10) (u 1) w))) A Z := fun w hw => by
      have base : ∀ Z, ((d = 0 ∧ Z = []) ∨ (0 < d ∧ Z = [mDR me u D d (fun j => D 9 j)])) → LY gg me u b s2 s3 K n 0 i d c D A (va_up D 7 (upd (D 7) 10 (scB (D 7 10) (u 1) w))) A Z := fun Z h1 =>
        ⟨Or.inl rfl, ⟨[], Z, d, fun j => D 9 j, rfl, fun z hz => (by cases hz), Nat.le_refl _, Nat.le_refl _, h1, fun _ _ => rfl, fun m a b => by omega, fun _ j a b => by omega⟩, fun _ h6 h2 h7 => by rw [va_up_s, pk_us, hw h6 h2 h7]⟩
      by_cases e : nI d ≤ 0
      · refine ⟨[], fun Y => by rw [if_pos e]; rfl, base [] (Or.inl ⟨?_, rfl⟩)⟩
        rw [← nI_0] at e
        have := (nI_leI (by omega) (by decide)).mp e
        omega
      · refine ⟨[(va_up (mg 12 me (u 1) (D 7 7) (D 7 8)) 7 (nI d), fun j => D 9 j)], fun Y => by rw [if_neg e]; rfl, base _ (Or.inr ⟨?_, rfl⟩)⟩
        rcases Nat.eq_zero_or_pos d with q | q
        · subst q; exact absurd (by decide) e
        · exact q
    by_cases w1 : u 6 = 0 ∧ ¬ s2 = 0 ∧ nI c = u 7
    · obtain ⟨Z, z1, z2⟩ := fin 1 (fun _ _ _ => rfl)
      refine ⟨_, A, Z, fun Y => ?_, z2⟩
      rw [← z1 Y, G_70.eq_1]
      by_cases e : nI d ≤ 0
      · rw [if_pos e, if_pos e, if_neg (fun z => z w1.1), if_neg w1.2.1, if_neg (fun z => z w1.2.2)]
      · rw [if_neg e, if_neg e, if_neg (fun z => z w1.1), if_neg w1.2.1, if_neg (fun z => z w1.2.2)]
    · obtain ⟨Z, z1, z2⟩ := fin 0 (fun a1 a2 a3 => absurd ⟨a1, a2, a3.symm⟩ w1)
      refine ⟨_, A, Z, fun Y => ?_, z2⟩
      rw [← z1 Y, G_70.eq_1]
      by_cases e : nI d ≤ 0
      · rw [if_pos e, if_pos e]
        by_cases e6 : u 6 = 0
        · rw [if_neg (fun z => z e6)]
          by_cases e2 : s2 = 0
          · rw [if_pos e2]
          · rw [if_neg e2, if_pos (fun z => w1 ⟨e6, e2, z⟩)]
        · rw [if_pos e6]
          by_cases e2 : s2 = 0
          · rw [if_pos e2]
          · rw [if_neg e2]
      · rw [if_neg e, if_neg e]
        by_cases e6 : u 6 = 0
        · rw [if_neg (fun z => z e6)]
          by_cases e2 : s2 = 0
          · rw [if_pos e2]
          · rw [if_neg e2, if_pos (fun z => w1 ⟨e6, e2, z⟩)]
        · rw [if_pos e6]
          by_cases e2 : s2 = 0
          · rw [if_pos e2]
          · rw [if_neg e2]
  | k + 1, i, d, c, D, A, hd, hf => by
    obtain ⟨y, D1, j1, j2, j3, j4⟩ := judge_y (nn := nn) (gg := gg) (C := C) (me := me) (f := f) (u := u) (b := b) (K := K) (A := A) hn (hf i (Nat.le_refl _) (by omega))
    have hf2 : ∀ D2 : Nat → Nat → Int32, (∀ q, q ≠ 9 → q ≠ 17 → D2 q = D q) → ∀ j, i + 1 ≤ j → j < i + 1 + k → fndI (D2 15) (D2 16) (b j) = -1 ∨ ∃ a, a < 961 ∧ fndI (D2 15) (D2 16) (b j) = nI a := fun D2 h2 j a1 a2 => by
      rw [h2 15 (by decide) (by decide), h2 16 (by decide) (by decide)]
      exact hf j (by omega) (by omega)
    have hfi : ∀ D2 : Nat → Nat → Int32, (∀ q, q ≠ 9 → q ≠ 17 → D2 q = D q) → fndI (D2 15) (D2 16) (b i) = -1 ∨ ∃ a, a < 961 ∧ fndI (D2 15) (D2 16) (b i) = nI a := fun D2 h2 => by
      rw [h2 15 (by decide) (by decide), h2 16 (by decide) (by decide)]
      exact hf i (Nat.le_refl _) (by omega)
    have go0 : ∀ (D2 : Nat → Nat → Int32) (d2 c2 : Nat), (∀ q, q ≠ 9 → q ≠ 17 → D2 q = D q) → d2 ≤ d + 1 → (KPd gg D n (b i) → c2 = 1) → D2 17 = D1 17 → ((d2 = d ∧ D2 9 = D 9 ∧ (¬ s3 = 0 → ¬ jS gg D K n (b i))) ∨ (d2 = d + 1 ∧ ¬ s3 = 0 ∧ jS gg D K n (b i) ∧ D2 9 = upd (D 9) d (b i))) → (∀ Y, G_70 nn gg C me f u b s2 s3 (k + 1) i d (nI c) D K A Y = G_70 nn gg C me f u b s2 s3 k (i + 1) d2 (nI (c + c2)) D2 K A Y) → ∃ (D' : Nat → Nat → Int32) (A' : Int64) (Z : List Mg), (∀ Y, G_70 nn gg C me f u b s2 s3 (k + 1) i d (nI c) D K A Y = (D', K, A', psl Y Z)) ∧ LY gg me u b s2 s3 K n (k + 1) i d c D A D' A' Z := fun D2 d2 c2 a1 a2 a3 a5 a6 a7 => by
      obtain ⟨D', A', Z, r1, r2⟩ := listed_y (nn := nn) (C := C) (me := me) (f := f) (s2 := s2) (s3 := s3) (K := K) (gg := gg) hn hu k (i + 1) d2 (c + c2) D2 A (by omega) (hf2 D2 a1)
      exact ⟨D', A', Z, fun Y => by rw [a7 Y, r1 Y], LY.stp (Z1 := []) r2 a1 (fun a m hm x1 x2 => by rw [a5]; exact j3 a m hm x1 x2) a6 a3 (Or.inl ⟨rfl, rfl⟩)⟩
    have goF : ∀ (D2 : Nat → Nat → Int32) (d2 c2 : Nat), (∀ q, q ≠ 9 → q ≠ 17 → D2 q = D q) → d2 ≤ d + 1 → (KPd gg D n (b i) → c2 = 1) → D2 17 = D1 17 → ((d2 = d ∧ D2 9 = D 9 ∧ (¬ s3 = 0 → ¬ jS gg D K n (b i))) ∨ (d2 = d + 1 ∧ ¬ s3 = 0 ∧ jS gg D K n (b i) ∧ D2 9 = upd (D 9) d (b i))) → (∀ Y, G_70 nn gg C me f u b s2 s3 (k + 1) i d (nI c) D K A Y = bnS (F_79 nn gg C me f u b D2 K A Y (b i) (u 1)) (fun D3 K3 A3 Y3 => G_70 nn gg C me f u b s2 s3 k (i + 1) d2 (nI (c + c2)) D3 K3 A3 Y3)) → ∃ (D' : Nat → Nat → Int32) (A' : Int64) (Z : List Mg), (∀ Y, G_70 nn gg C me f u b s2 s3 (k + 1) i d (nI c) D K A Y = (D', K, A', psl Y Z)) ∧ LY gg me u b s2 s3 K n (k + 1) i d c D A D' A' Z := fun D2 d2 c2 a1 a2 a3 a5 a6 a7 => by
      obtain ⟨A1, Z1, w1, w2, w3⟩ := news_z (nn := nn) (gg := gg) (C := C) (me := me) (f := f) (u := u) (b := b) (K := K) (A := A) (k := u 1) (hfi D2 a1)
      obtain ⟨D', A', Z, r1, r2⟩ := listed_y (nn := nn) (C := C) (me := me) (f := f) (s2 := s2) (s3 := s3) (K := K) (gg := gg) hn hu k (i + 1) d2 (c + c2) D2 A1 (by omega) (hf2 D2 a1)
      refine ⟨D', A', Z1 ++ Z, fun Y => by rw [a7 Y, w1 Y, bnS_e, r1 _, psl_app], LY.stp r2 a1 (fun a m hm x1 x2 => by rw [a5]; exact j3 a m hm x1 x2) a6 a3 ?_⟩
      rcases w2 with ⟨z1, z2, _⟩ | ⟨z1, z2, _⟩
      · exact Or.inl ⟨z1, z2⟩
      · right
        refine ⟨by rw [z1]; unfold mGT; rw [a1 7 (by decide) (by decide)], ?_⟩
        unfold nwT at z2 ⊢
        rw [a1 15 (by decide) (by decide), a1 16 (by decide) (by decide)] at z2
        exact z2
    have e1 : ∀ q, q ≠ 9 → q ≠ 17 → D1 q = D q := fun q _ h => j2 q h
    have e9 : ∀ q, q ≠ 9 → q ≠ 17 → va_up D1 9 (upd (D1 9) d (b i)) q = D q := fun q h1 h2 => by rw [va_up_n _ _ h1, j2 q h2]
    have hjy : ∀ Y, F_76 nn gg C me f u b D K A Y (b i) (u 1) = (y, D1, K, A, Y) := fun Y => by rw [hu]; exact j1 Y
    have d9 : D1 9 = D 9 := j2 9 (by decide)
    rcases j4 with ⟨hy, hk, hj⟩ | ⟨hy, hk, hj⟩ | ⟨hy, hk, hj⟩
    · subst hy
      by_cases q2 : s2 = 0
      · refine goF D1 d 1 e1 (Nat.le_succ _) (fun _ => rfl) rfl (Or.inl ⟨rfl, d9, fun _ => hj⟩) (fun Y => ?_)
        rw [G_70.eq_2, hjy Y, bnR_e, if_neg (fun z => z rfl), if_neg (by decide), if_neg (fun z => z q2), nI_1]
      · refine go0 D1 d 1 e1 (Nat.le_succ _) (fun _ => rfl) rfl (Or.inl ⟨rfl, d9, fun _ => hj⟩) (fun Y => ?_)
        rw [G_70.eq_2, hjy Y, bnR_e, if_neg (fun z => z rfl), if_neg (by decide), if_pos q2, nI_1]
    · subst hy
      by_cases q3 : s3 = 0
      · by_cases q2 : s2 = 0
        · refine goF D1 d 0 e1 (Nat.le_succ _) (fun z => absurd z hk) rfl (Or.inl ⟨rfl, d9, fun z => absurd q3 z⟩) (fun Y => ?_)
          rw [G_70.eq_2, hjy Y, bnR_e, if_pos (by decide), if_neg (fun z => z rfl), if_pos q3, if_neg (by decide), if_neg (fun z => z q2)]
          rfl
        · refine go0 D1 d 0 e1 (Nat.le_succ _) (fun z => absurd z hk) rfl (Or.inl ⟨rfl, d9, fun z => absurd q3 z⟩) (fun Y => ?_)
          rw [G_70.eq_2, hjy Y, bnR_e, if_pos (by decide), if_neg (fun z => z rfl), if_pos q3, if_neg (by decide), if_pos q2]
          rfl
      · by_cases q2 : s2 = 0
        · refine goF (va_up D1 9 (upd (D1 9) d (b i))) (d + 1) 0 e9 (Nat.le_refl _) (fun z => absurd z hk) (va_up_n _ _ (by decide)) (Or.inr ⟨rfl, q3, hj, by rw [va_up_s, d9]⟩) (fun Y => ?_)
          rw [G_70.eq_2, hjy Y, bnR_e, if_pos (by decide), if_neg (fun z => z rfl), if_neg q3, if_neg (by decide), if_neg (fun z => z q2)]
          rfl
        · refine go0 (va_up D1 9 (upd (D1 9) d (b i))) (d + 1) 0 e9 (Nat.le_refl _) (fun z => absurd z hk) (va_up_n _ _ (by decide)) (Or.inr ⟨rfl, q3, hj, by rw [va_up_s, d9]⟩) (fun Y => ?_)
          rw [G_70.eq_2, hjy Y, bnR_e, if_pos (by decide), if_neg (fun z => z rfl), if_neg q3, if_neg (by decide), if_pos q2]
          rfl
    · subst hy
      refine goF D1 d 0 e1 (Nat.le_succ _) (fun z => absurd z hk) rfl (Or.inl ⟨rfl, d9, fun _ => hj⟩) (fun Y => ?_)
      rw [G_70.eq_2, hjy Y, bnR_e, if_pos (by decide), if_pos (by decide), if_pos rfl]
      rfl

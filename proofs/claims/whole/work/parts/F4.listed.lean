/-! weights, and what the leader does with a LISTED -/
def wk (N : Nat) (k : Int32) : Nat := if k = 4 then 12 + 2 * N else if k = 5 then 11 + 2 * N else if k = 6 then 2 else if k = 9 then 3 else if k = 10 then 2 else if k = 12 then 10 else if k = 0 then 2 else if k = 2 then 123 else 1
def Wt (N : Nat) : List Mg → Nat
  | [] => 0
  | z :: Z => wk N (z.1 0) + Wt N Z
theorem Wt_app (N : Nat) : ∀ (Z W : List Mg), Wt N (Z ++ W) = Wt N Z + Wt N W
  | [], W => (Nat.zero_add _).symm
  | z :: Z, W => by
    show wk N (z.1 0) + Wt N (Z ++ W) = wk N (z.1 0) + Wt N Z + Wt N W
    rw [Wt_app N Z W, Nat.add_assoc]
theorem Wt_le {N w : Nat} : ∀ {Z : List Mg}, (∀ z ∈ Z, wk N (z.1 0) ≤ w) → Wt N Z ≤ w * Z.length
  | [], _ => Nat.zero_le _
  | z :: Z, h => by
    have h1 := h z List.mem_cons_self
    have h2 := Wt_le (Z := Z) (fun y hy => h y (List.mem_cons_of_mem _ hy))
    show wk N (z.1 0) + Wt N Z ≤ w * (Z.length + 1)
    rw [Nat.mul_add]
    omega
/-- RECORDS that may still be asked for -/
def zA (A : Int64) : Nat := Sm (fun f => if bq A f = true then 0 else 1) 48
theorem zA_set {A : Int64} {f : Nat} (hf : f < 48) (h : bq A f = false) : zA (A ||| (1 <<< ((nI f).toInt64 &&& 63))) + 1 = zA A := by
  have := Sm_upd (g := fun i => if bq A i = true then 0 else 1) (h := fun i => if bq (A ||| (1 <<< ((nI f).toInt64 &&& 63))) i = true then 0 else 1) (a := f) (n := 48) hf (fun j hj hne => by
    show (if bq (A ||| (1 <<< ((nI f).toInt64 &&& 63))) j = true then 0 else 1) = (if bq A j = true then 0 else 1)
    rw [q_set A (by omega) (by omega), decide_eq_false hne, Bool.or_false])
  have e1 : (if bq A f = true then 0 else 1) = 1 := by rw [h]; rfl
  have e2 : (if bq (A ||| (1 <<< ((nI f).toInt64 &&& 63))) f = true then 0 else 1) = 0 := by rw [q_set A (by omega) (by omega), decide_eq_true rfl, Bool.or_true]; rfl
  simp only [e1, e2] at this
  unfold zA
  omega
theorem zA_le (A : Int64) : zA A ≤ 48 := by
  unfold zA
  have : ∀ n, Sm (fun f => if bq A f = true then 0 else 1) n ≤ n := by
    intro n
    induction n with
    | zero => exact Nat.le_refl _
    | succ n ih =>
      show Sm (fun f => if bq A f = true then 0 else 1) n + (if bq A n = true then 0 else 1) ≤ n + 1
      split <;> omega
  exact this 48
theorem lgz {x : Int64} : lg_cmp x 0 = 0 ↔ x = 0 := by
  unfold lg_cmp
  constructor
  · intro h
    split at h
    · cases h
    · split at h
      · assumption
      · cases h
  · intro h
    rw [h]; decide
/-- tag t is of a ROOT newer than ro -/
def nwO (ro t : Int32) : Prop := ¬ rtB t = 0 ∧ ¬ (t - t / 512 * 512) ≤ ro
/-- news for the leader -/
def nwT (D : Nat → Nat → Int32) (K : Int64) (t : Int32) : Prop := nwO (D 16 960) t ∨ ∃ a, a < 960 ∧ a % 20 = 19 ∧ fndI (D 15) (D 16) t = nI a ∧ bq K (a / 20) = false
def mGT (me : Int32) (D : Nat → Nat → Int32) (t k : Int32) : Mg := (va_up (mg 6 me k (D 7 7) (D 7 8)) 5 t, fun _ => 0)
theorem mGT_0 (me : Int32) (D : Nat → Nat → Int32) (t k : Int32) : (mGT me D t k).1 0 = 6 := by
  show va_up (mg 6 me k (D 7 7) (D 7 8)) 5 t 0 = 6
  rw [va_up_n _ _ (by decide)]; rfl
theorem kwB_z {K : Int64} {f : Nat} (hf : f < 64) : kwB K f = 0 ↔ bq K f = false := by
  unfold kwB
  by_cases c : knB K f = 0
  · rw [if_pos c]
    exact ⟨fun _ => (knB_z K hf).mp c, fun _ => rfl⟩
  · rw [if_neg c]
    exact ⟨fun z => absurd z (by decide), fun z => absurd ((knB_z K hf).mpr z) c⟩
/-- fetchIfNews -/
theorem news_z {nn gg : Nat} {C me : Int32} {f u b : Nat → Int32} {D : Nat → Nat → Int32} {K A : Int64} {t k : Int32} (hf : fndI (D 15) (D 16) t = -1 ∨ ∃ a, a < 961 ∧ fndI (D 15) (D 16) t = nI a) :
    ∃ (A' : Int64) (Z : List Mg), (∀ Y, F_79 nn gg C me f u b D K A Y t k = (D, K, A', psl Y Z)) ∧ ((Z = [] ∧ A' = A ∧ ¬ nwO (D 16 960) t) ∨ (Z = [mGT me D t k] ∧ nwT D K t ∧ ((nwO (D 16 960) t ∧ zA A' ≤ zA A) ∨ zA A' + 1 = zA A))) ∧ (∀ a, a < 960 → a % 20 = 19 → fndI (D 15) (D 16) t = nI a → bq K (a / 20) = false → bq A (a / 20) = false → Z = [mGT me D t k]) := by
  have bit : ∀ a, a < 960 → ((lg_cmp ((A >>> ((nI (a / 20)).toInt64 &&& 63)) &&& 1) 0) = 0 ↔ bq A (a / 20) = false) := fun a ha => by
    rw [lgz]; exact bqz A (by omega)
  by_cases c1 : rtB t = 0
  · have hno : ¬ nwO (D 16 960) t := fun z => z.1 c1
    rcases hf with e | ⟨a, ha, e⟩
    · refine ⟨A, [], fun Y => ?_, Or.inl ⟨rfl, rfl, hno⟩, fun a' h1 h2 h3 => ?_⟩
      · unfold F_79; rw [if_pos c1, if_pos e]; rfl
      · rw [e] at h3; exact absurd h3.symm (nIneg (by omega))
    · have hcl : (fndI (D 15) (D 16) t).toNatClampNeg = a := by rw [e, nI_clamp (by omega)]
      have hne : ¬ fndI (D 15) (D 16) t = -1 := by rw [e]; exact nIneg (by omega)
      have ha2 : ∀ a', a' < 960 → fndI (D 15) (D 16) t = nI a' → a' = a := fun a' h1 h2 => nI_inj (by omega) (by omega) (h2.symm.trans e)
      by_cases d1 : nI a = 960
      · refine ⟨A, [], fun Y => ?_, Or.inl ⟨rfl, rfl, hno⟩, fun a' h1 h2 h3 => ?_⟩
        · unfold F_79; rw [if_pos c1, if_neg hne, bnN_e, hcl, if_pos d1]; rfl
        · have := ha2 a' h1 h3
          subst this
          have : a' = 960 := nI_inj (by omega) (by decide) d1
          omega
      · have ha9 : a < 960 := by
          have : a ≠ 960 := fun z => d1 (by rw [z]; rfl)
          omega
        by_cases d2 : nI (a % 20) = 19
        · have h19 : a % 20 = 19 := nI_inj (by omega) (by decide) d2
          by_cases d3 : kwB K (a / 20) = 0
          · have hk := (kwB_z (by omega)).mp d3
            by_cases d4 : (lg_cmp ((A >>> ((nI (a / 20)).toInt64 &&& 63)) &&& 1) 0) = 0
            · refine ⟨_, [mGT me D t k], fun Y => ?_, Or.inr ⟨rfl, Or.inr ⟨a, ha9, h19, e, hk⟩, Or.inr (zA_set (by omega) ((bit a ha9).mp d4))⟩, fun _ _ _ _ _ _ => rfl⟩
              unfold F_79; rw [if_pos c1, if_neg hne, bnN_e, hcl, if_neg d1, if_neg (fun z => z d2), if_neg (fun z => z d3), if_neg (fun z => z d4)]; rfl
            · refine ⟨A, [], fun Y => ?_, Or.inl ⟨rfl, rfl, hno⟩, fun a' h1 h2 h3 h4 h5 => ?_⟩
              · unfold F_79; rw [if_pos c1, if_neg hne, bnN_e, hcl, if_neg d1, if_neg (fun z => z d2), if_neg (fun z => z d3), if_pos d4]; rfl
              · have := ha2 a' h1 h3
                subst this
                exact absurd ((bit a' h1).mpr h5) d4
          · refine ⟨A, [], fun Y => ?_, Or.inl ⟨rfl, rfl, hno⟩, fun a' h1 h2 h3 h4 => ?_⟩
            · unfold F_79; rw [if_pos c1, if_neg hne, bnN_e, hcl, if_neg d1, if_neg (fun z => z d2), if_pos d3]; rfl
            · have := ha2 a' h1 h3
              subst this
              exact absurd ((kwB_z (by omega)).mpr h4) d3
        · refine ⟨A, [], fun Y => ?_, Or.inl ⟨rfl, rfl, hno⟩, fun a' h1 h2 h3 => ?_⟩
          · unfold F_79; rw [if_pos c1, if_neg hne, bnN_e, hcl, if_neg d1, if_pos d2]; rfl
          · have := ha2 a' h1 h3
            subst this
            exact absurd (by rw [h2]; rfl) d2
  · by_cases c2 : (t - t / 512 * 512) ≤ D 16 960
    · have hno : ¬ nwO (D 16 960) t := fun z => z.2 c2
      rcases hf with e | ⟨a, ha, e⟩
      · refine ⟨A, [], fun Y => ?_, Or.inl ⟨rfl, rfl, hno⟩, fun a' h1 h2 h3 => ?_⟩
        · unfold F_79; rw [if_neg c1, if_pos c2, if_pos e]; rfl
        · rw [e] at h3; exact absurd h3.symm (nIneg (by omega))
      · have hcl : (fndI (D 15) (D 16) t).toNatClampNeg = a := by rw [e, nI_clamp (by omega)]
        have hne : ¬ fndI (D 15) (D 16) t = -1 := by rw [e]; exact nIneg (by omega)
        have ha2 : ∀ a', a' < 960 → fndI (D 15) (D 16) t = nI a' → a' = a := fun a' h1 h2 => nI_inj (by omega) (by omega) (h2.symm.trans e)
        by_cases d1 : nI a = 960
        · refine ⟨A, [], fun Y => ?_, Or.inl ⟨rfl, rfl, hno⟩, fun a' h1 h2 h3 => ?_⟩
          · unfold F_79; rw [if_neg c1, if_pos c2, if_neg hne, bnN_e, hcl, if_pos d1]; rfl
          · have := ha2 a' h1 h3
            subst this
            have : a' = 960 := nI_inj (by omega) (by decide) d1
            omega
        · have ha9 : a < 960 := by
            have : a ≠ 960 := fun z => d1 (by rw [z]; rfl)
            omega
          by_cases d2 : nI (a % 20) = 19
          · have h19 : a % 20 = 19 := nI_inj (by omega) (by decide) d2
            by_cases d3 : kwB K (a / 20) = 0
            · have hk := (kwB_z (by omega)).mp d3
              by_cases d4 : (lg_cmp ((A >>> ((nI (a / 20)).toInt64 &&& 63)) &&& 1) 0) = 0
              · refine ⟨_, [mGT me D t k], fun Y => ?_, Or.inr ⟨rfl, Or.inr ⟨a, ha9, h19, e, hk⟩, Or.inr (zA_set (by omega) ((bit a ha9).mp d4))⟩, fun _ _ _ _ _ _ => rfl⟩
                unfold F_79; rw [if_neg c1, if_pos c2, if_neg hne, bnN_e, hcl, if_neg d1, if_neg (fun z => z d2), if_neg (fun z => z d3), if_neg (fun z => z d4)]; rfl
              · refine ⟨A, [], fun Y => ?_, Or.inl ⟨rfl, rfl, hno⟩, fun a' h1 h2 h3 h4 h5 => ?_⟩
                · unfold F_79; rw [if_neg c1, if_pos c2, if_neg hne, bnN_e, hcl, if_neg d1, if_neg (fun z => z d2), if_neg (fun z => z d3), if_pos d4]; rfl
                · have := ha2 a' h1 h3
                  subst this
                  exact absurd ((bit a' h1).mpr h5) d4
            · refine ⟨A, [], fun Y => ?_, Or.inl ⟨rfl, rfl, hno⟩, fun a' h1 h2 h3 h4 => ?_⟩
              · unfold F_79; rw [if_neg c1, if_pos c2, if_neg hne, bnN_e, hcl, if_neg d1, if_neg (fun z => z d2), if_pos d3]; rfl
              · have := ha2 a' h1 h3
                subst this
                exact absurd ((kwB_z (by omega)).mpr h4) d3
          · refine ⟨A, [], fun Y => ?_, Or.inl ⟨rfl, rfl, hno⟩, fun a' h1 h2 h3 => ?_⟩
            · unfold F_79; rw [if_neg c1, if_pos c2, if_neg hne, bnN_e, hcl, if_neg d1, if_pos d2]; rfl
            · have := ha2 a' h1 h3
              subst this
              exact absurd (by rw [h2]; rfl) d2
    · -- a newer ROOT
      have hnw : nwO (D 16 960) t := ⟨c1, c2⟩
      have key : ∃ A', (∀ Y, F_79 nn gg C me f u b D K A Y t k = (D, K, A', psl Y [mGT me D t k])) ∧ zA A' ≤ zA A := by
        rcases hf with e | ⟨a, ha, e⟩
        · refine ⟨A, fun Y => ?_, Nat.le_refl _⟩
          unfold F_79; rw [if_neg c1, if_neg c2, if_pos e]; rfl
        · have hcl : (fndI (D 15) (D 16) t).toNatClampNeg = a := by rw [e, nI_clamp (by omega)]
          have hne : ¬ fndI (D 15) (D 16) t = -1 := by rw [e]; exact nIneg (by omega)
          by_cases d1 : nI a = 960
          · refine ⟨A, fun Y => ?_, Nat.le_refl _⟩
            unfold F_79; rw [if_neg c1, if_neg c2, if_neg hne, bnN_e, hcl, if_pos d1]; rfl
          · have ha9 : a < 960 := by
              have : a ≠ 960 := fun z => d1 (by rw [z]; rfl)
              omega
            by_cases d2 : nI (a % 20) = 19
            · by_cases d3 : kwB K (a / 20) = 0
              · by_cases d4 : (lg_cmp ((A >>> ((nI (a / 20)).toInt64 &&& 63)) &&& 1) 0) = 0
                · refine ⟨_, fun Y => ?_, by have := zA_set (A := A) (f := a / 20) (by omega) ((bit a ha9).mp d4); exact Nat.le_of_succ_le (Nat.le_of_eq this)⟩
                  unfold F_79; rw [if_neg c1, if_neg c2, if_neg hne, bnN_e, hcl, if_neg d1, if_neg (fun z => z d2), if_neg (fun z => z d3), if_neg (fun z => z d4)]; rfl
                · refine ⟨A, fun Y => ?_, Nat.le_refl _⟩
                  unfold F_79; rw [if_neg c1, if_neg c2, if_neg hne, bnN_e, hcl, if_neg d1, if_neg (fun z => z d2), if_neg (fun z => z d3), if_pos d4]; rfl
              · refine ⟨A, fun Y => ?_, Nat.le_refl _⟩
                unfold F_79; rw [if_neg c1, if_neg c2, if_neg hne, bnN_e, hcl, if_neg d1, if_neg (fun z => z d2), if_pos d3]; rfl
            · refine ⟨A, fun Y => ?_, Nat.le_refl _⟩
              unfold F_79; rw [if_neg c1, if_neg c2, if_neg hne, bnN_e, hcl, if_neg d1, if_pos d2]; rfl
      obtain ⟨A', k1, k2⟩ := key
      exact ⟨A', _, k1, Or.inr ⟨rfl, Or.inl hnw, Or.inl ⟨hnw, k2⟩⟩, fun _ _ _ _ _ _ => rfl⟩

/-! foretell: what an OPERATION will answer -/
abbrev TKD (T : TS) (D : Nat → Nat → Int32) (K : Int64) : Prop := TK T (D 10 9) (D 11) (D 12) (D 13) (D 14) (D 15) (D 16) K
/-- what was asked for -/
def AKD (m : Mg) (o : Nat) (D : Nat → Nat → Int32) : Prop :=
  (AQ (m.1 0) (m.1 1) (m.1 2) (m.1 3) (m.1 4) (m.1 5)) ∧
  (D 18 4 = nI o) ∧
  (D 19 0 = m.1 0) ∧
  (¬ m.1 0 = 2 → D 19 1 = m.1 1) ∧
  (D 19 2 = m.1 2) ∧
  (D 19 3 = m.1 3) ∧
  (D 19 4 = m.1 4) ∧
  (D 19 5 = m.1 5) ∧
  (∀ x, x < 100 → D 20 x = m.2 x) ∧
  (m.1 0 = 1 ∨ m.1 0 = 2 → ∀ x, x < 100 + ((m.1 5).toNatClampNeg + 3) / 4 → D 20 x = m.2 x)
theorem AKD.aq {m : Mg} {o : Nat} {D : Nat → Nat → Int32} (h_ : AKD m o D) : AQ (m.1 0) (m.1 1) (m.1 2) (m.1 3) (m.1 4) (m.1 5) := h_.1
theorem AKD.op {m : Mg} {o : Nat} {D : Nat → Nat → Int32} (h_ : AKD m o D) : D 18 4 = nI o := h_.2.1
theorem AKD.h0 {m : Mg} {o : Nat} {D : Nat → Nat → Int32} (h_ : AKD m o D) : D 19 0 = m.1 0 := h_.2.2.1
theorem AKD.h1 {m : Mg} {o : Nat} {D : Nat → Nat → Int32} (h_ : AKD m o D) : ¬ m.1 0 = 2 → D 19 1 = m.1 1 := h_.2.2.2.1
theorem AKD.h2 {m : Mg} {o : Nat} {D : Nat → Nat → Int32} (h_ : AKD m o D) : D 19 2 = m.1 2 := h_.2.2.2.2.1
theorem AKD.h3 {m : Mg} {o : Nat} {D : Nat → Nat → Int32} (h_ : AKD m o D) : D 19 3 = m.1 3 := h_.2.2.2.2.2.1
theorem AKD.h4 {m : Mg} {o : Nat} {D : Nat → Nat → Int32} (h_ : AKD m o D) : D 19 4 = m.1 4 := h_.2.2.2.2.2.2.1
theorem AKD.h5 {m : Mg} {o : Nat} {D : Nat → Nat → Int32} (h_ : AKD m o D) : D 19 5 = m.1 5 := h_.2.2.2.2.2.2.2.1
theorem AKD.w1 {m : Mg} {o : Nat} {D : Nat → Nat → Int32} (h_ : AKD m o D) : ∀ x, x < 100 → D 20 x = m.2 x := h_.2.2.2.2.2.2.2.2.1
theorem AKD.w2 {m : Mg} {o : Nat} {D : Nat → Nat → Int32} (h_ : AKD m o D) : m.1 0 = 1 ∨ m.1 0 = 2 → ∀ x, x < 100 + ((m.1 5).toNatClampNeg + 3) / 4 → D 20 x = m.2 x := h_.2.2.2.2.2.2.2.2.2
/-- a place of the table that was found: none, or that of FILE i -/
def fdP (jf : Nat → Int32) (y : Int32) (r : Option Nat) : Prop := (y = -1 ∧ r = none) ∨ ∃ f i : Nat, f < 48 ∧ i < 512 ∧ y = nI f ∧ jf f = nI i ∧ r = some i
/-- the bytes that it changes: from a on, sp of them -/
def SPN (m : Mg) (T : TS) (fi : Option Nat) (D : Nat → Nat → Int32) : Prop :=
  (m.1 0 = 1 → D 18 9 = m.1 5 ∧ D 19 1 = m.1 1) ∧
  (m.1 0 = 2 → D 18 9 = m.1 5 ∧ D 19 1 = nI (match fi with | some i => T.sz i | none => 0)) ∧
  (m.1 0 = 3 → ∃ i, fi = some i ∧ D 19 1 = m.1 1 ∧ D 18 9 = (if (m.1 1).toNatClampNeg < T.sz i ∧ ¬ (m.1 1).toNatClampNeg % 448 = 0 ∧ ¬ T.vr i ((m.1 1).toNatClampNeg / 448) < 0 then 1 else 0)) ∧
  (m.1 0 = 0 ∨ m.1 0 = 5 ∨ m.1 0 = 6 ∨ m.1 0 = 7 → D 18 9 = 0)
theorem SPN.s1 {m : Mg} {T : TS} {fi : Option Nat} {D : Nat → Nat → Int32} (h_ : SPN m T fi D) : m.1 0 = 1 → D 18 9 = m.1 5 ∧ D 19 1 = m.1 1 := h_.1
theorem SPN.s2 {m : Mg} {T : TS} {fi : Option Nat} {D : Nat → Nat → Int32} (h_ : SPN m T fi D) : m.1 0 = 2 → D 18 9 = m.1 5 ∧ D 19 1 = nI (match (generalizing := false) fi with | some i => T.sz i | none => 0) := h_.2.1
theorem SPN.s3 {m : Mg} {T : TS} {fi : Option Nat} {D : Nat → Nat → Int32} (h_ : SPN m T fi D) : m.1 0 = 3 → ∃ i, fi = some i ∧ D 19 1 = m.1 1 ∧ D 18 9 = (if (m.1 1).toNatClampNeg < T.sz i ∧ ¬ (m.1 1).toNatClampNeg % 448 = 0 ∧ ¬ T.vr i ((m.1 1).toNatClampNeg / 448) < 0 then 1 else 0) := h_.2.2.1
theorem SPN.s5 {m : Mg} {T : TS} {fi : Option Nat} {D : Nat → Nat → Int32} (h_ : SPN m T fi D) : m.1 0 = 0 ∨ m.1 0 = 5 ∨ m.1 0 = 6 ∨ m.1 0 = 7 → D 18 9 = 0 := h_.2.2.2
theorem fore_lem {T : TS} {m : Mg} {o : Nat} {nn gg : Nat} {C me : Int32} {f u b : Nat → Int32} {D : Nat → Nat → Int32} {K A : Int64} {Y : List Mg} {ro : Int32} {D6 : Nat → Int32}
    (hT : TOK T o) (ho : o < 512) (hk : TKD T D K) (ha : AKD m o D) (hf : fdP (D 11) (D 18 7) (fdN T m.2 0 (m.1 3).toNatClampNeg)) (hg : m.1 0 = 9 ∨ fdP (D 11) (D 18 8) (fdN T m.2 50 (m.1 4).toNatClampNeg)) (hr : ro = nI (32768 - T.tot)) (h9 : D 18 9 = 0) :
    ∃ (y : Int32) (D' : Nat → Nat → Int32), F_99 nn gg C me f u b D K A Y ro = (y, D', K, A, Y) ∧ (∀ q, q ≠ 18 → q ≠ 19 → D' q = D q) ∧ (∀ x, x ≠ 9 → D' 18 x = D 18 x) ∧ (∀ x, x ≠ 1 → D' 19 x = D 19 x) ∧ (¬ m.1 0 = 2 → D' 19 1 = D 19 1) ∧
      ((y < 0 ∧ stp T o m = none) ∨ (¬ y < 0 ∧ (m.1 0 = 4 ∨ m.1 0 = 8 ∨ m.1 0 = 9) ∧ stp T o m = none ∧ (∃ sp a : Nat, sp ≤ 2048 ∧ D' 18 9 = nI sp ∧ (0 < sp → D' 19 1 = nI a ∧ a + sp ≤ 8192)) ∧ (m.1 0 = 4 → ¬ D 18 7 = -1) ∧ (¬ m.1 0 = 4 → D' 18 9 = 0)) ∨ (∃ (a : Nat) (T' : TS), a < 2 ^ 31 ∧ y = nI a ∧ stp T o m = some (a, T') ∧ SPN m T (fdN T m.2 0 (m.1 3).toNatClampNeg) D' ∧ ¬ (m.1 0 = 4 ∨ m.1 0 = 8 ∨ m.1 0 = 9) ∧ (D 18 7 = -1 → T.cnt < 48 ∧ (m.1 0 = 0 ∨ m.1 0 = 1 ∨ m.1 0 = 2)))) := by
  obtain ⟨aq, op, h0, h1, h2, h3, h4, h5, w1, w2⟩ := ha
  have hcnt := hT.c1
  have htot := hT.t1
  have c48 : (D 10 9 = 48) ↔ T.cnt = 48 := by
    rw [hk.1.c1]
    exact nI_eq (by omega) (by decide : 48 < 2 ^ 31)
  have l8192 : ∀ n : Nat, n < 2 ^ 31 → ((8192 : Int32) < nI n ↔ 8192 < n) := fun n hn => nI_ltI (a := 8192) (by decide) hn
  have lro : ∀ n : Nat, n < 2 ^ 31 → (ro < nI n ↔ 32768 - T.tot < n) := fun n hn => by rw [hr]; exact nI_ltI (by omega) hn
  have hl5 := inR_c2 aq.2.2.2.2.2 (by decide)
  have vup : ∀ (q : Nat) (v : Nat → Int32), q ≠ 18 → va_up D 18 v q = D q := fun q v hq => va_up_n _ _ hq
  have n7 : ∀ {x : Int32}, x = -1 → x < 0 := fun e => by rw [e]; decide
  obtain ⟨k, hk10, ek⟩ := aq.1
  unfold F_99
  rcases hf with ⟨e7, ef⟩ | ⟨fx, i, hfx, hi, e7, eji, ef⟩
  · -- no FILE
    rw [if_pos e7]
    simp only [bnN, h0]
    by_cases k0 : m.1 0 = 0
    · rw [if_pos k0]
      by_cases c : D 10 9 = 48
      · refine ⟨-4, D, by rw [if_neg (fun z => z c)], fun _ _ _ => rfl, fun _ _ => rfl, fun _ _ => rfl, fun _ => rfl, Or.inl ⟨by decide, ?_⟩⟩
        unfold stp; rw [if_pos k0, ef]; simp only [if_pos (c48.mp c)]
      · refine ⟨0, D, by rw [if_pos c], fun _ _ _ => rfl, fun _ _ => rfl, fun _ _ => rfl, fun _ => rfl, Or.inr (Or.inr ⟨0, _, by decide, rfl, by unfold stp; rw [if_pos k0, ef]; simp only [if_neg (fun z => c (c48.mpr z))]; rfl, ?_, ?_, fun _ => ⟨by have : ¬ T.cnt = 48 := fun z => c (c48.mpr z); omega, Or.inl k0⟩⟩)⟩
        · exact ⟨fun z => by rw [k0] at z; exact absurd z (by decide), fun z => by rw [k0] at z; exact absurd z (by decide), fun z => by rw [k0] at z; exact absurd z (by decide), fun _ => h9⟩
        · rw [k0]; decide
    · rw [if_neg k0]
      have wr : ∀ a : Nat, a ≤ 8192 → (m.1 0 = 1 ∨ m.1 0 = 2) → (D 18 7 < 0 ∧ D 10 9 = 48 ∨ 8192 < nI (0 + if (D 19 5).toNatClampNeg = 0 then 0 else a + (D 19 5).toNatClampNeg - 0) ∨ ro < nI (if (D 19 5).toNatClampNeg = 0 then 0 else a + (D 19 5).toNatClampNeg - 0)) = (T.cnt = 48 ∨ 8192 < (if (m.1 5).toNatClampNeg = 0 then 0 else a + (m.1 5).toNatClampNeg) ∨ 32768 - T.tot < (if (m.1 5).toNatClampNeg = 0 then 0 else a + (m.1 5).toNatClampNeg)) := fun a haa _ => by
        rw [h5, Nat.sub_zero, Nat.zero_add]
        have hb : (if (m.1 5).toNatClampNeg = 0 then 0 else a + (m.1 5).toNatClampNeg) < 2 ^ 31 := by split <;> omega
        rw [l8192 _ hb, lro _ hb, c48]
        simp only [n7 e7, true_and]
      by_cases k1 : m.1 0 = 1
      · rw [if_pos k1]
        have ha1 := inR_c2 (aq.2.1 (Or.inl k1)) (by decide)
        have e1 := h1 (by rw [k1]; decide)
        have hs : stp T o m = wrS T o m.2 (m.1 3).toNatClampNeg (m.1 5).toNatClampNeg none (m.1 1).toNatClampNeg := by unfold stp; rw [if_neg k0, if_pos k1, ef]
        rw [e1]
        simp only [wr _ (show (m.1 1).toNatClampNeg ≤ 8192 by omega) (Or.inl k1)]
        by_cases c : T.cnt = 48 ∨ 8192 < (if (m.1 5).toNatClampNeg = 0 then 0 else (m.1 1).toNatClampNeg + (m.1 5).toNatClampNeg) ∨ 32768 - T.tot < (if (m.1 5).toNatClampNeg = 0 then 0 else (m.1 1).toNatClampNeg + (m.1 5).toNatClampNeg)
        · refine ⟨-4, D, by rw [if_pos c], fun _ _ _ => rfl, fun _ _ => rfl, fun _ _ => rfl, fun _ => e1, Or.inl ⟨by decide, ?_⟩⟩
          rw [hs]; unfold wrS; simp only [if_pos c]
        · refine ⟨_, _, by rw [if_neg c], fun q q1 _ => vup q _ q1, fun x hx => by rw [va_up_s, pk_un hx], fun x _ => by rw [vup 19 _ (by decide)], fun _ => by rw [vup 19 _ (by decide), e1], Or.inr (Or.inr ⟨(m.1 5).toNatClampNeg, _, by omega, by rw [h5], by rw [hs]; unfold wrS; simp only [if_neg c]; rfl, ?_, ?_, fun _ => ⟨by have : ¬ T.cnt = 48 := fun z => c (Or.inl z); omega, Or.inr (Or.inl k1)⟩⟩)⟩
          · refine ⟨fun _ => ⟨?_, by dsimp only; rw [vup 19 _ (by decide), e1]⟩, fun z => by rw [k1] at z; exact absurd z (by decide), fun z => by rw [k1] at z; exact absurd z (by decide), fun z => by rw [k1] at z; exact absurd z (by decide)⟩
            dsimp only
            rw [va_up_s, pk_us, h5, ← hl5.2]
          · rw [k1]; decide
      · rw [if_neg k1]
        by_cases k2 : m.1 0 = 2
        · rw [if_pos k2]
          have hs : stp T o m = wrS T o m.2 (m.1 3).toNatClampNeg (m.1 5).toNatClampNeg none 0 := by unfold stp; rw [if_neg k0, if_neg k1, if_pos k2, ef]
          have wr0 := wr 0 (by omega) (Or.inr k2)
          simp only [wr0]
          by_cases c : T.cnt = 48 ∨ 8192 < (if (m.1 5).toNatClampNeg = 0 then 0 else 0 + (m.1 5).toNatClampNeg) ∨ 32768 - T.tot < (if (m.1 5).toNatClampNeg = 0 then 0 else 0 + (m.1 5).toNatClampNeg)
          · refine ⟨-4, _, by rw [if_pos c], fun q _ q2 => va_up_n _ _ q2, fun x hx => by rw [va_up_n _ _ (by decide)], fun x hx => by rw [va_up_s, pk_un hx], fun z => absurd k2 z, Or.inl ⟨by decide, ?_⟩⟩
            rw [hs]; unfold wrS; simp only [if_pos c]
          · refine ⟨_, _, by rw [if_neg c], fun q q1 q2 => by rw [va_up_n _ _ q2, va_up_n _ _ q1], fun x hx => by rw [va_up_n _ _ (by decide), va_up_s, pk_un hx], fun x hx => by rw [va_up_s, pk_un hx], fun z => absurd k2 z, Or.inr (Or.inr ⟨(m.1 5).toNatClampNeg, _, by omega, by rw [h5], by rw [hs]; unfold wrS; simp only [if_neg c]; rfl, ?_, ?_, fun _ => ⟨by have : ¬ T.cnt = 48 := fun z => c (Or.inl z); omega, Or.inr (Or.inr k2)⟩⟩)⟩
            · refine ⟨fun z => by rw [k2] at z; exact absurd z (by decide), fun _ => ⟨?_, ?_⟩, fun z => by rw [k2] at z; exact absurd z (by decide), fun z => by rw [k2] at z; exact absurd z (by decide)⟩
              · rw [va_up_n _ _ (by decide), va_up_s, pk_us, h5, ← hl5.2]
              · rw [va_up_s, pk_us, ef]
            · rw [k2]; decide
        · rw [if_neg k2]
          have hs : ¬ m.1 0 = 4 → ¬ m.1 0 = 8 → ¬ m.1 0 = 9 → stp T o m = none := fun k4 k8 k9 => by
            unfold stp
            rw [if_neg k0, if_neg k1, if_neg k2, ef]
            repeat' (first | rfl | split)
          have hs2 : m.1 0 = 4 ∨ m.1 0 = 8 ∨ m.1 0 = 9 → stp T o m = none := fun z => by
            unfold stp
            rw [if_neg k0, if_neg k1, if_neg k2, if_neg (by rcases z with z | z | z <;> rw [z] <;> decide), if_neg (by rcases z with z | z | z <;> rw [z] <;> decide), if_neg (by rcases z with z | z | z <;> rw [z] <;> decide), if_neg (by rcases z with z | z | z <;> rw [z] <;> decide)]
          have hn : stp T o m = none := by
            by_cases z : m.1 0 = 4 ∨ m.1 0 = 8 ∨ m.1 0 = 9
            · exact hs2 z
            · exact hs (fun y => z (Or.inl y)) (fun y => z (Or.inr (Or.inl y))) (fun y => z (Or.inr (Or.inr y)))
          have same : ∃ (y : Int32) (D' : Nat → Nat → Int32), ((-2 : Int32), D, K, A, Y) = (y, D', K, A, Y) ∧ (∀ q, q ≠ 18 → q ≠ 19 → D' q = D q) ∧ (∀ x, x ≠ 9 → D' 18 x = D 18 x) ∧ (∀ x, x ≠ 1 → D' 19 x = D 19 x) ∧ (¬ m.1 0 = 2 → D' 19 1 = D 19 1) ∧ ((y < 0 ∧ stp T o m = none) ∨ (¬ y < 0 ∧ (m.1 0 = 4 ∨ m.1 0 = 8 ∨ m.1 0 = 9) ∧ stp T o m = none ∧ (∃ sp a : Nat, sp ≤ 2048 ∧ D' 18 9 = nI sp ∧ (0 < sp → D' 19 1 = nI a ∧ a + sp ≤ 8192)) ∧ (m.1 0 = 4 → ¬ D 18 7 = -1) ∧ (¬ m.1 0 = 4 → D' 18 9 = 0)) ∨ (∃ (a : Nat) (T' : TS), a < 2 ^ 31 ∧ y = nI a ∧ stp T o m = some (a, T') ∧ SPN m T (fdN T m.2 0 (m.1 3).toNatClampNeg) D' ∧ ¬ (m.1 0 = 4 ∨ m.1 0 = 8 ∨ m.1 0 = 9) ∧ (D 18 7 = -1 → T.cnt < 48 ∧ (m.1 0 = 0 ∨ m.1 0 = 1 ∨ m.1 0 = 2)))) := ⟨_, _, rfl, fun _ _ _ => rfl, fun _ _ => rfl, fun _ _ => rfl, fun _ => rfl, Or.inl ⟨by decide, hn⟩⟩
          by_cases k3 : m.1 0 = 3
          · rw [if_pos k3]; exact same
          rw [if_neg k3]
          by_cases k4 : m.1 0 = 4
          · rw [if_pos k4]
            exact ⟨_, _, rfl, fun q q1 _ => vup q _ q1, fun x hx => by rw [va_up_s, pk_un hx], fun x _ => by rw [vup 19 _ (by decide)], fun _ => by rw [vup 19 _ (by decide)], Or.inl ⟨by decide, hn⟩⟩
          rw [if_neg k4]
          by_cases k5 : m.1 0 = 5
          · rw [if_pos k5]; exact same
          rw [if_neg k5]
          by_cases k6 : m.1 0 = 6
          · rw [if_pos k6]; split <;> exact same
          rw [if_neg k6]
          by_cases k7 : m.1 0 = 7
          · rw [if_pos k7]; split <;> exact same
          rw [if_neg k7]
          by_cases k8 : m.1 0 = 8
          · rw [if_pos k8]; exact same
          rw [if_neg k8]
          have k9 : m.1 0 = 9 := by
            have : k = 0 ∨ k = 1 ∨ k = 2 ∨ k = 3 ∨ k = 4 ∨ k = 5 ∨ k = 6 ∨ k = 7 ∨ k = 8 ∨ k = 9 := by omega
            rcases this with z | z | z | z | z | z | z | z | z | z <;> subst z
            · exact absurd ek k0
            · exact absurd ek k1
            · exact absurd ek k2
            · exact absurd ek k3
            · exact absurd ek k4
            · exact absurd ek k5
            · exact absurd ek k6
            · exact absurd ek k7
            · exact absurd ek k8
            · exact ek
          split
          · exact same
          · exact ⟨_, _, rfl, fun _ _ _ => rfl, fun _ _ => rfl, fun _ _ => rfl, fun _ => rfl, by
              by_cases z : nI (D 13 (D 18 8).toNatClampNeg).toNatClampNeg < 0
              · exact Or.inl ⟨z, hn⟩
              · exact Or.inr (Or.inl ⟨z, Or.inr (Or.inr k9), hn, ⟨0, 0, by omega, h9, fun y => absurd y (by omega)⟩, fun y => by rw [k9] at y; exact absurd y (by decide), fun _ => h9⟩)⟩
  · -- FILE i
    have hz8 := hT.z1 i
    obtain ⟨t1, t2, t3, t4⟩ := hk.at hfx hi eji
    have hzc : (D 12 fx).toNatClampNeg = T.sz i := by rw [t1, nI_clamp (by omega)]
    have e7n : ¬ D 18 7 = -1 := by rw [e7]; exact nIneg (by omega)
    have e7p : ¬ D 18 7 < 0 := by rw [e7]; exact nI_pos (by omega)
    rw [if_neg e7n]
    simp only [bnN, h0, e7, nI_clamp (show fx < 2 ^ 31 by omega), hzc]
    by_cases k0 : m.1 0 = 0
    · rw [if_pos k0]
      refine ⟨-3, D, rfl, fun _ _ _ => rfl, fun _ _ => rfl, fun _ _ => rfl, fun _ => rfl, Or.inl ⟨by decide, ?_⟩⟩
      unfold stp; rw [if_pos k0, ef]
    rw [if_neg k0]
    have wr : ∀ a : Nat, a ≤ 8192 → (nI fx < 0 ∧ D 10 9 = 48 ∨ 8192 < nI (T.sz i + if (D 19 5).toNatClampNeg = 0 then 0 else a + (D 19 5).toNatClampNeg - T.sz i) ∨ ro < nI (if (D 19 5).toNatClampNeg = 0 then 0 else a + (D 19 5).toNatClampNeg - T.sz i)) = (8192 < T.sz i + (if (m.1 5).toNatClampNeg = 0 then 0 else a + (m.1 5).toNatClampNeg - T.sz i) ∨ 32768 - T.tot < (if (m.1 5).toNatClampNeg = 0 then 0 else a + (m.1 5).toNatClampNeg - T.sz i)) := fun a haa => by
      rw [h5]
      have hb : (if (m.1 5).toNatClampNeg = 0 then 0 else a + (m.1 5).toNatClampNeg - T.sz i) < 2 ^ 30 := by split <;> omega
      rw [l8192 _ (by omega), lro _ (by omega)]
      have : ¬ nI fx < 0 := nI_pos (by omega)
      simp only [this, false_and, false_or]
    by_cases k1 : m.1 0 = 1
    · rw [if_pos k1]
      have ha1 := inR_c2 (aq.2.1 (Or.inl k1)) (by decide)
      have e1 := h1 (by rw [k1]; decide)
      have hs : stp T o m = wrS T o m.2 (m.1 3).toNatClampNeg (m.1 5).toNatClampNeg (some i) (m.1 1).toNatClampNeg := by unfold stp; rw [if_neg k0, if_pos k1, ef]
      rw [e1]
      simp only [wr _ (show (m.1 1).toNatClampNeg ≤ 8192 by omega)]
      by_cases c : 8192 < T.sz i + (if (m.1 5).toNatClampNeg = 0 then 0 else (m.1 1).toNatClampNeg + (m.1 5).toNatClampNeg - T.sz i) ∨ 32768 - T.tot < (if (m.1 5).toNatClampNeg = 0 then 0 else (m.1 1).toNatClampNeg + (m.1 5).toNatClampNeg - T.sz i)
      · refine ⟨-4, D, by rw [if_pos c], fun _ _ _ => rfl, fun _ _ => rfl, fun _ _ => rfl, fun _ => e1, Or.inl ⟨by decide, ?_⟩⟩
        rw [hs]; unfold wrS; simp only [if_pos c]
      · refine ⟨_, _, by rw [if_neg c], fun q q1 _ => vup q _ q1, fun x hx => by rw [va_up_s, pk_un hx], fun x _ => by rw [vup 19 _ (by decide)], fun _ => by rw [vup 19 _ (by decide), e1], Or.inr (Or.inr ⟨(m.1 5).toNatClampNeg, _, by omega, by rw [h5], by rw [hs]; unfold wrS; simp only [if_neg c]; rfl, ?_, ?_, fun z => absurd z (nIneg (by omega))⟩)⟩
        · refine ⟨fun _ => ⟨?_, by dsimp only; rw [vup 19 _ (by decide), e1]⟩, fun z => by rw [k1] at z; exact absurd z (by decide), fun z => by rw [k1] at z; exact absurd z (by decide), fun z => by rw [k1] at z; exact absurd z (by decide)⟩
          dsimp only
          rw [va_up_s, pk_us, h5, ← hl5.2]
        · rw [k1]; decide
    rw [if_neg k1]
    by_cases k2 : m.1 0 = 2
    · rw [if_pos k2]
      have hs : stp T o m = wrS T o m.2 (m.1 3).toNatClampNeg (m.1 5).toNatClampNeg (some i) (T.sz i) := by unfold stp; rw [if_neg k0, if_neg k1, if_pos k2, ef]
      simp only [wr _ hz8]
      by_cases c : 8192 < T.sz i + (if (m.1 5).toNatClampNeg = 0 then 0 else T.sz i + (m.1 5).toNatClampNeg - T.sz i) ∨ 32768 - T.tot < (if (m.1 5).toNatClampNeg = 0 then 0 else T.sz i + (m.1 5).toNatClampNeg - T.sz i)
      · refine ⟨-4, _, by rw [if_pos c], fun q _ q2 => va_up_n _ _ q2, fun x hx => by rw [va_up_n _ _ (by decide)], fun x hx => by rw [va_up_s, pk_un hx], fun z => absurd k2 z, Or.inl ⟨by decide, ?_⟩⟩
        rw [hs]; unfold wrS; simp only [if_pos c]
      · refine ⟨_, _, by rw [if_neg c], fun q q1 q2 => by rw [va_up_n _ _ q2, va_up_n _ _ q1], fun x hx => by rw [va_up_n _ _ (by decide), va_up_s, pk_un hx], fun x hx => by rw [va_up_s, pk_un hx], fun z => absurd k2 z, Or.inr (Or.inr ⟨(m.1 5).toNatClampNeg, _, by omega, by rw [h5], by rw [hs]; unfold wrS; simp only [if_neg c]; rfl, ?_, ?_, fun z => absurd z (nIneg (by omega))⟩)⟩
        · refine ⟨fun z => by rw [k2] at z; exact absurd z (by decide), fun _ => ⟨?_, ?_⟩, fun z => by rw [k2] at z; exact absurd z (by decide), fun z => by rw [k2] at z; exact absurd z (by decide)⟩
          · rw [va_up_n _ _ (by decide), va_up_s, pk_us, h5, ← hl5.2]
          · rw [va_up_s, pk_us, ef]
        · rw [k2]; decide
    rw [if_neg k2]
    by_cases k3 : m.1 0 = 3
    · rw [if_pos k3]
      have ha1 := inR_c2 (aq.2.1 (Or.inr (Or.inl k3))) (by decide)
      have e1 := h1 (by rw [k3]; decide)
      have hs : stp T o m = (if T.sz i + (32768 - T.tot) < (m.1 1).toNatClampNeg then none else some (T.sz i, T.cut i (m.1 1).toNatClampNeg o)) := by unfold stp; rw [if_neg k0, if_neg k1, if_neg k2, if_pos k3, ef]
      have hc : (nI (m.1 1).toNatClampNeg - nI (T.sz i) ≤ ro) ↔ ¬ T.sz i + (32768 - T.tot) < (m.1 1).toNatClampNeg := by
        rw [hr]
        rcases Nat.lt_or_ge (m.1 1).toNatClampNeg (T.sz i) with z | z
        · have := nI_subn (y := (m.1 1).toNatClampNeg) (a := T.sz i) (by omega) (by omega) z
          refine ⟨fun _ => by omega, fun _ => ?_⟩
          have hp := nI_pos' (n := 32768 - T.tot) (by omega)
          rw [Int32.lt_iff_toInt_lt] at this
          rw [Int32.le_iff_toInt_le] at hp ⊢
          omega
        · rw [nI_sub z, nI_leI (by omega) (by omega)]
          omega
      have hv : D 16 (fx * 20 + (m.1 1).toNatClampNeg / 448) = T.vr i ((m.1 1).toNatClampNeg / 448) := t4 _ (by omega)
      rw [e1]
      by_cases c : T.sz i + (32768 - T.tot) < (m.1 1).toNatClampNeg
      · refine ⟨-4, D, by rw [if_neg (fun z => hc.mp z c)], fun _ _ _ => rfl, fun _ _ => rfl, fun _ _ => rfl, fun _ => e1, Or.inl ⟨by decide, by rw [hs, if_pos c]⟩⟩
      · refine ⟨_, _, by rw [if_pos (hc.mpr c)], fun q q1 _ => vup q _ q1, fun x hx => by rw [va_up_s, pk_un hx], fun x _ => by rw [vup 19 _ (by decide)], fun _ => by rw [vup 19 _ (by decide), e1], Or.inr (Or.inr ⟨T.sz i, _, by omega, rfl, by rw [hs, if_neg c], ?_, ?_, fun z => absurd z (nIneg (by omega))⟩)⟩
        · refine ⟨fun z => by rw [k3] at z; exact absurd z (by decide), fun z => by rw [k3] at z; exact absurd z (by decide), fun _ => ⟨i, ef, by dsimp only; rw [vup 19 _ (by decide), e1], ?_⟩, fun z => by rw [k3] at z; exact absurd z (by decide)⟩
          dsimp only
          rw [va_up_s, pk_us, hv]
          split <;> rfl
        · rw [k3]; decide
    rw [if_neg k3]
    by_cases k4 : m.1 0 = 4
    · rw [if_pos k4]
      have hn : stp T o m = none := by unfold stp; rw [k4]; rfl
      have h2c := inR_c2 (aq.2.2.1 k4) (by decide)
      have h1c := inR_c2 (aq.2.1 (Or.inr (Or.inr k4))) (by decide)
      have e1 := h1 (by rw [k4]; decide)
      have hmr := Nat.min_le_right (D 19 2).toNatClampNeg (T.sz i - (D 19 1).toNatClampNeg)
      have hml := Nat.min_le_left (D 19 2).toNatClampNeg (T.sz i - (D 19 1).toNatClampNeg)
      rw [h2] at hml
      refine ⟨_, _, rfl, fun q q1 _ => vup q _ q1, fun x hx => by rw [va_up_s, pk_un hx], fun x _ => by rw [vup 19 _ (by decide)], fun _ => by rw [vup 19 _ (by decide)], Or.inr (Or.inl ⟨nI_pos (by omega), Or.inl k4, hn, ⟨min (D 19 2).toNatClampNeg (T.sz i - (D 19 1).toNatClampNeg), (D 19 1).toNatClampNeg, by rw [h2]; omega, by rw [va_up_s, pk_us], fun y => ⟨by rw [vup 19 _ (by decide), e1]; exact h1c.2, by omega⟩⟩, fun _ => nIneg (by omega), fun y => absurd k4 y⟩)⟩
    rw [if_neg k4]
    by_cases k5 : m.1 0 = 5
    · rw [if_pos k5]
      refine ⟨_, D, rfl, fun _ _ _ => rfl, fun _ _ => rfl, fun _ _ => rfl, fun _ => rfl, Or.inr (Or.inr ⟨T.sz i, _, by omega, rfl, by unfold stp; rw [if_neg k0, if_neg k1, if_neg k2, if_neg k3, if_pos k5, ef], ?_, ?_, fun z => absurd z (nIneg (by omega))⟩)⟩
      · exact ⟨fun z => absurd z k1, fun z => absurd z k2, fun z => absurd z k3, fun _ => h9⟩
      · rw [k5]; decide
    rw [if_neg k5]
    by_cases k6 : m.1 0 = 6
    · rw [if_pos k6]
      rcases hg with z | ⟨e8, eg⟩ | ⟨g, j, hgx, hj, e8, ejj, eg⟩
      · rw [k6] at z; exact absurd z (by decide)
      · rw [if_pos e8]
        refine ⟨_, D, rfl, fun _ _ _ => rfl, fun _ _ => rfl, fun _ _ => rfl, fun _ => rfl, Or.inr (Or.inr ⟨0, _, by decide, rfl, by unfold stp; rw [if_neg k0, if_neg k1, if_neg k2, if_neg k3, if_neg k5, if_pos k6, ef, eg], ?_, ?_, fun z => absurd z (nIneg (by omega))⟩)⟩
        · exact ⟨fun z => absurd z k1, fun z => absurd z k2, fun z => absurd z k3, fun _ => h9⟩
        · rw [k6]; decide
      · have e8n : ¬ D 18 8 = -1 := by rw [e8]; exact nIneg (by omega)
        rw [if_neg e8n]
        simp only [e8, nI_clamp (show g < 2 ^ 31 by omega)]
        have hij : (nI g = nI fx) ↔ j = i := by
          constructor
          · intro z
            have := nI_inj (by omega) (by omega) z
            subst this
            rw [eji] at ejj
            exact (nI_inj (by omega) (by omega) ejj).symm
          · intro z
            rw [z] at ejj
            rw [hk.1.inj hgx hfx hi ejj eji]
        by_cases c : nI g = nI fx
        · rw [if_pos c]
          refine ⟨_, D, rfl, fun _ _ _ => rfl, fun _ _ => rfl, fun _ _ => rfl, fun _ => rfl, Or.inr (Or.inr ⟨0, _, by decide, rfl, by unfold stp; rw [if_neg k0, if_neg k1, if_neg k2, if_neg k3, if_neg k5, if_pos k6, ef, eg]; simp only [if_pos (hij.mp c)]; rfl, ?_, ?_, fun z => absurd z (nIneg (by omega))⟩)⟩
          · exact ⟨fun z => absurd z k1, fun z => absurd z k2, fun z => absurd z k3, fun _ => h9⟩
          · rw [k6]; decide
        · rw [if_neg c]
          refine ⟨_, D, rfl, fun _ _ _ => rfl, fun _ _ => rfl, fun _ _ => rfl, fun _ => rfl, Or.inr (Or.inr ⟨1, _, by decide, rfl, by unfold stp; rw [if_neg k0, if_neg k1, if_neg k2, if_neg k3, if_neg k5, if_pos k6, ef, eg]; simp only [if_neg (fun z => c (hij.mpr z))]; rfl, ?_, ?_, fun z => absurd z (nIneg (by omega))⟩)⟩
          · exact ⟨fun z => absurd z k1, fun z => absurd z k2, fun z => absurd z k3, fun _ => h9⟩
          · rw [k6]; decide
    rw [if_neg k6]
    by_cases k7 : m.1 0 = 7
    · rw [if_pos k7]
      rcases hg with z | ⟨e8, eg⟩ | ⟨g, j, hgx, hj, e8, ejj, eg⟩
      · rw [k7] at z; exact absurd z (by decide)
      · rw [if_pos e8]
        exact ⟨_, D, rfl, fun _ _ _ => rfl, fun _ _ => rfl, fun _ _ => rfl, fun _ => rfl, Or.inl ⟨by decide, by unfold stp; rw [if_neg k0, if_neg k1, if_neg k2, if_neg k3, if_neg k5, if_neg k6, if_pos k7, ef, eg]⟩⟩
      · have e8n : ¬ D 18 8 = -1 := by rw [e8]; exact nIneg (by omega)
        rw [if_neg e8n]
        have hex : ∃ T', stp T o m = some (0, T') := by
          unfold stp
          rw [if_neg k0, if_neg k1, if_neg k2, if_neg k3, if_neg k5, if_neg k6, if_pos k7, ef, eg]
          simp only
          split
          · exact ⟨_, rfl⟩
          · exact ⟨_, rfl⟩
        obtain ⟨T', hT'⟩ := hex
        refine ⟨_, D, rfl, fun _ _ _ => rfl, fun _ _ => rfl, fun _ _ => rfl, fun _ => rfl, Or.inr (Or.inr ⟨0, T', by decide, rfl, hT', ?_, ?_, fun z => absurd z (nIneg (by omega))⟩)⟩
        · exact ⟨fun z => absurd z k1, fun z => absurd z k2, fun z => absurd z k3, fun _ => h9⟩
        · rw [k7]; decide
    rw [if_neg k7]
    have hn : stp T o m = none := by unfold stp; rw [if_neg k0, if_neg k1, if_neg k2, if_neg k3, if_neg k5, if_neg k6, if_neg k7]
    by_cases k8 : m.1 0 = 8
    · rw [if_pos k8]
      exact ⟨_, D, rfl, fun _ _ _ => rfl, fun _ _ => rfl, fun _ _ => rfl, fun _ => rfl, Or.inr (Or.inl ⟨nI_pos (by omega), Or.inr (Or.inl k8), hn, ⟨0, 0, by omega, h9, fun y => absurd y (by omega)⟩, fun y => absurd y k4, fun _ => h9⟩)⟩
    rw [if_neg k8]
    have k9 : m.1 0 = 9 := by
      have : k = 0 ∨ k = 1 ∨ k = 2 ∨ k = 3 ∨ k = 4 ∨ k = 5 ∨ k = 6 ∨ k = 7 ∨ k = 8 ∨ k = 9 := by omega
      rcases this with z | z | z | z | z | z | z | z | z | z <;> subst z
      · exact absurd ek k0
      · exact absurd ek k1
      · exact absurd ek k2
      · exact absurd ek k3
      · exact absurd ek k4
      · exact absurd ek k5
      · exact absurd ek k6
      · exact absurd ek k7
      · exact absurd ek k8
      · exact ek
    split
    · exact ⟨_, D, rfl, fun _ _ _ => rfl, fun _ _ => rfl, fun _ _ => rfl, fun _ => rfl, Or.inl ⟨by decide, hn⟩⟩
    · exact ⟨_, D, rfl, fun _ _ _ => rfl, fun _ _ => rfl, fun _ _ => rfl, fun _ => rfl, by
        by_cases z : nI (D 13 (D 18 8).toNatClampNeg).toNatClampNeg < 0
        · exact Or.inl ⟨z, hn⟩
        · exact Or.inr (Or.inl ⟨z, Or.inr (Or.inr k9), hn, ⟨0, 0, by omega, h9, fun y => absurd y (by omega)⟩, fun y => by rw [k9] at y; exact absurd y (by decide), fun _ => h9⟩)⟩

/-! goOn: posts, potential, clean NODES -/
theorem Nn_own {g : Gh} {x : Int32} {o : Nat} (hx : x = -1 ∨ ∃ w, w ≤ o ∧ x = nI w) (ho : g.sn ≤ o) (ho5 : o < 512) : Nn g (nI o) ≤ Nn g x := by
  have hE : ¬ nI o < efv g.ops g.sn := by
    rcases efv_or g.ops g.sn with z | ⟨z, a, b, _⟩
    · rw [z]; exact fun y => nI_pos (show o < 2 ^ 31 by omega) (Int32.lt_trans y (by decide))
    · rw [b]; exact fun y => by have := (nI_ltI (by omega) (by omega)).mp y; omega
  have e : Nn g (nI o) = g.sn + 11 - o := by
    unfold Nn
    rw [if_neg (nI_pos (by omega)), if_neg hE, nI_clamp (by omega), if_neg (by omega)]
  rw [e]
  unfold Nn
  rcases hx with hx | ⟨w, hw, hx⟩
  · rw [hx, if_pos (by decide)]; omega
  · rw [hx, if_neg (nI_pos (by omega))]
    split
    · omega
    · rw [nI_clamp (by omega)]
      split <;> omega
theorem root_x {nn gg : Nat} {C me : Int32} {f u b : Nat → Int32} {D D' : Nat → Nat → Int32} {K K' A A' : Int64} {Y Y' : List Mg} (h : F_121 nn gg C me f u b D K A Y = (D', K', A', Y')) : D' 18 3 = 4 ∧ D' 10 9 = D 10 9 ∧ D' 16 960 = nI (D 18 4).toNatClampNeg := by
  unfold F_121 at h
  rw [bnN_e] at h
  by_cases c : D 16 960 = nI (D 18 4).toNatClampNeg
  · rw [if_pos c] at h
    have e := (Prod.mk.inj h).1
    rw [← e]
    exact ⟨by rw [va_up_n _ _ (by decide), va_up_s, pk_us], by rw [va_up_n _ _ (by decide), va_up_n _ _ (by decide)], by rw [va_up_n _ _ (by decide), va_up_n _ _ (by decide)]; exact c⟩
  · rw [if_neg c] at h
    have e := (Prod.mk.inj h).1
    rw [← e]
    exact ⟨by rw [va_up_n _ _ (by decide), va_up_s, pk_us], by rw [va_up_n _ _ (by decide), va_up_n _ _ (by decide), va_up_n _ _ (by decide), va_up_n _ _ (by decide), va_up_s, pk_un (by decide)], by rw [va_up_n _ _ (by decide), va_up_n _ _ (by decide), va_up_n _ _ (by decide), va_up_s, pk_us]⟩
theorem change_x {P : Pm} {g : Gh} {e : Nat} {me : Int32} {u b : Nat → Int32} {D D' : Nat → Nat → Int32} {K K' A A' : Int64} {Y Y' : List Mg} (hG : GO g) (h : LO P g e D K) (hs : D 18 3 = 2) (h12 : D 18 12 = 0) (hq : bnS (F_104 P.nn P.gg P.C me P.f u b D K A Y) (fun D3 K3 A3 Y3 => bnS (F_114 P.nn P.gg P.C me P.f u b D3 K3 A3 Y3) (fun D4 K4 A4 Y4 => (D4, K4, A4, Y4))) = (D', K', A', Y')) : D' 16 960 = D 16 960 ∧ (D' 18 3 = 3 ∨ (D' 18 3 = 5 ∧ K' = K ∧ ∀ q, q < 18 → D' q = D q)) := by
  have h512 := hG.1
  rcases h.st with ⟨z, _⟩ | ⟨z, _⟩ | ⟨_, o, ⟨ho, ho2⟩, z1, z2, z3, z4⟩ | ⟨z, _⟩ | ⟨z, _⟩
  · rw [hs] at z; exact absurd z (by decide)
  · rw [hs] at z; exact absurd z (by decide)
  · have hT := hG.tok (Nat.le_of_lt ho)
    have hS := hG.stb (Nat.le_of_lt ho)
    have hFE : FE g.ops (Bk g.ops g.bg) o D K := z1.mono (fun w hw => hw.1)
    rcases change_lem (nn := P.nn) (gg := P.gg) (C := P.C) (me := me) (f := P.f) (u := u) (b := b) (A := A) (Y := Y) (by omega) hT hS hFE h12 with ⟨k4, hn, D2, r1, r2, r3, r4⟩ | ⟨a, T', D1, K1, r1, r2, r3, r4⟩
    · have hF : F_114 P.nn P.gg P.C me P.f u b D2 K A Y = (D2, K, A, Y) := by
        unfold F_114
        rw [if_neg (by rw [r2]; decide)]
      rw [r1, bnS_e, hF, bnS_e] at hq
      rw [Prod.mk.injEq, Prod.mk.injEq] at hq
      obtain ⟨e1, e2, _⟩ := hq
      subst e1 e2
      exact ⟨by rw [r4 16 (by omega) (by omega)], Or.inr ⟨r2, rfl, fun q hq => r4 q (by omega) (by omega)⟩⟩
    · obtain ⟨D4, y1, y2⟩ := seal_lem (bg := g.bg) (nn := P.nn) (gg := P.gg) (C := P.C) (me := me) (f := P.f) (u := u) (b := b) (A := A) (Y := Y) (by omega) ho hT z1.tk ⟨_, r1⟩ r4
      rw [r3, bnS_e, y1, bnS_e] at hq
      rw [Prod.mk.injEq, Prod.mk.injEq] at hq
      obtain ⟨e1, e2, _⟩ := hq
      subst e1 e2
      exact ⟨y2.rt.1, Or.inl y2.st⟩
  · rw [hs] at z; exact absurd z (by decide)
  · rw [hs] at z; exact absurd z (by decide)
theorem Wt_ge {N w : Nat} : ∀ {Z : List Mg}, (∀ z ∈ Z, w ≤ wk N (z.1 0)) → w * Z.length ≤ Wt N Z
  | [], _ => Nat.le_refl _
  | z :: Z, h => by
    have h1 := h z List.mem_cons_self
    have h2 := Wt_ge (Z := Z) (fun y hy => h y (List.mem_cons_of_mem _ hy))
    show w * (Z.length + 1) ≤ wk N (z.1 0) + Wt N Z
    rw [Nat.mul_add]
    omega
theorem mGE_0 (nn : Nat) (me : Int32) (D : Nat → Nat → Int32) (a : Nat) : (mGE nn me D a).1 0 = 6 := by
  show va_up (mg 6 me (nI (oneO ((D 17) a) nn nn ((D 7 13)).toNatClampNeg)) (D 7 7) (D 7 8)) 5 (tgA (D 11) (D 16) a) 0 = 6
  rw [va_up_n _ _ (by decide)]; rfl
theorem mPU_0 (me : Int32) (D : Nat → Nat → Int32) (o j : Nat) : (mPU me D o j).1 0 = 10 := by
  show va_up (mg 10 me (nI j) (D 7 7) (D 7 8)) 5 ((D 21) (o * 128 + 1)) 0 = 10
  rw [va_up_n _ _ (by decide)]; rfl
/-- what is left to be posted, in the midst of goOn -/
def rst (s : Int32) : Nat := if s = 1 then 121 else if s = 2 then 121 else if s = 3 then 109 else if s = 4 then 13 else if s = 5 then 1 else 0
def zGo (P : Pm) (g : Gh) (e : Nat) (z : Mg) : Prop := MS P g z ∧ z.1 3 = nI e ∧ (z.1 0 = 3 ∨ z.1 0 = 6 ∨ z.1 0 = 10)
def GZ (P : Pm) (g : Gh) (e : Nat) (w1 : Int32) (D : Nat → Nat → Int32) (K : Int64) (D' : Nat → Nat → Int32) (K' : Int64) (Z : List Mg) : Prop :=
  Nn g (D' 16 960) ≤ Nn g (D 16 960) ∧ Wt (Nn g (D' 16 960)) Z + wSt (D' 18 3) ≤ (if D 18 3 = w1 then wSt w1 else rst (D 18 3)) ∧
  (knA K' (D' 10 9) = 0 → K' = K ∧ D' 10 9 = D 10 9 ∧ D' 16 960 = D 16 960) ∧
  (D' 18 3 ≤ 2 → ∀ n, n < 32 → bt (D' 7 10) n = true → bt (D 7 10) n = true ∧ (D 18 3 ≤ 2 ∨ D 18 3 = 5) ∧ D' 8 = D 8 ∧ D' 11 = D 11 ∧ D' 15 = D 15 ∧ D' 16 = D 16 ∧ D' 17 = D 17) ∧
  (∀ z ∈ Z, zGo P g e z) ∧ ∀ N, 2 * Z.length ≤ Wt N Z + 1
/-- what comes out of goOn from a state on -/
def GOz (P : Pm) (g : Gh) (e : Nat) (w1 : Int32) (D : Nat → Nat → Int32) (K A : Int64) (Y : List Mg) (s : St) : Prop := ∃ (D' : Nat → Nat → Int32) (K' : Int64) (Z : List Mg), s = (D', K', A, psl Y Z) ∧ LO P g e D' K' ∧ (∀ q, q < 7 → D' q = D q) ∧ D' 7 12 = D 7 12 ∧ GZ P g e w1 D K D' K' Z
theorem wst_rst (s : Int32) : wSt s ≤ rst s := by
  unfold wSt rst
  by_cases h1 : s = 1
  · rw [if_pos h1, if_pos h1]; omega
  · rw [if_neg h1, if_neg h1]
    by_cases h2 : s = 2
    · rw [if_pos h2, if_pos h2]; omega
    · rw [if_neg h2, if_neg h2]
      by_cases h3 : s = 3
      · rw [if_pos h3, if_pos h3]; omega
      · rw [if_neg h3, if_neg h3]
        by_cases h4 : s = 4
        · rw [if_pos h4, if_pos h4]; omega
        · rw [if_neg h4]; exact Nat.zero_le _
theorem put_ms {P : Pm} {g : Gh} {e : Nat} {me : Int32} {D : Nat → Nat → Int32} {K : Int64} {o j k : Nat} (hgg : 0 < P.gg) (h : LO P g e D K) (hk : k < 5243392) (ht : D 21 (o * 128 + 1) = nI k) (hj : j < P.nn) (hb : bt (msO P.gg D o) j = true) : zGo P g e (mPU me D o j) := by
  have w : ∀ x, x ≠ 5 → (mPU me D o j).1 x = mg 10 me (nI j) (D 7 7) (D 7 8) x := fun x hx => va_up_n _ _ hx
  have h0 : (mPU me D o j).1 0 = 10 := w 0 (by decide)
  refine ⟨⟨fun z => absurd (h0.symm.trans z) (by decide), fun _ => ⟨e, j, k, (w 3 (by decide)).trans h.l1.1, h.l1.2.2.1, w 2 (by decide), hj, ?_, hk, ?_⟩, fun z => absurd (h0.symm.trans z) (by decide), fun z => absurd (h0.symm.trans z) (by decide)⟩, (w 3 (by decide)).trans h.l1.1, Or.inr (Or.inr h0)⟩
  · show va_up (mg 10 me (nI j) (D 7 7) (D 7 8)) 5 ((D 21) (o * 128 + 1)) 5 = _
    rw [va_up_s]; exact ht
  · unfold msO at hb
    split at hb
    · rw [b_0] at hb; cases hb
    · split at hb
      · rw [b_0] at hb; cases hb
      · rename_i _ hne
        rw [ht] at hb hne
        rcases h.find hgg hk with ⟨z, _⟩ | ⟨a, a1, a2, a3, a4, a5, a6⟩
        · exact absurd z hne
        · rw [a2, nI_clamp (by omega), a6, b_and] at hb
          simp only [Bool.and_eq_true] at hb
          exact hb.1
theorem go6_z {P : Pm} {g : Gh} {e : Nat} {me : Int32} {u b : Nat → Int32} {D : Nat → Nat → Int32} {K A : Int64} {Y : List Mg} {w1 : Int32} (hG : GO g) (hgg : 0 < P.gg) (hnn : P.nn ≤ 6) (h : LO P g e D K) : GOz P g e w1 D K A Y (F_91_k6 P.nn P.gg P.C me P.f u b D K A Y w1) := by
  unfold F_91_k6
  by_cases c : D 18 3 = w1
  · rw [if_pos c]
    exact ⟨D, K, [], rfl, h, fun _ _ => rfl, rfl, Nat.le_refl _, by rw [if_pos c, c]; show 0 + _ ≤ _; omega, fun _ => ⟨rfl, rfl, rfl⟩, fun s n _ z => ⟨z, Or.inl s, rfl, rfl, rfl, rfl, rfl⟩, fun z hz => (by cases hz), fun N => Nat.zero_le _⟩
  · rw [if_neg c]
    obtain ⟨Z, z1, z2⟩ := push_z (nn := P.nn) (gg := P.gg) (C := P.C) (me := me) (f := P.f) (u := u) (b := b) (D := D) (K := K) (A := A) hnn
    rw [z1 Y, bnS_e]
    refine ⟨D, K, Z, rfl, h, fun _ _ => rfl, rfl, Nat.le_refl _, ?_, fun _ => ⟨rfl, rfl, rfl⟩, fun s n _ z => ⟨z, Or.inl s, rfl, rfl, rfl, rfl, rfl⟩, fun z hz => ?_, fun N => ?_⟩
    · rw [if_neg c]
      rcases z2 with ⟨s, l, m, _⟩ | ⟨s, l, m, _⟩ | ⟨s, l, m, _⟩ | ⟨_, _, _, s⟩
      · have := Wt_le (N := Nn g (D 16 960)) (w := 2) (Z := Z) (fun z hz => by
          obtain ⟨j, _, _, e⟩ := m z hz
          rw [e, mGE_0]; exact Nat.le_refl 2)
        rw [s]
        show _ + 109 ≤ 121
        omega
      · have := Wt_le (N := Nn g (D 16 960)) (w := 2) (Z := Z) (fun z hz => by
          obtain ⟨o, j, _, _, _, e⟩ := m z hz
          rw [e, mPU_0]; exact Nat.le_refl 2)
        rw [s]
        show _ + 13 ≤ 109
        omega
      · have := Wt_le (N := Nn g (D 16 960)) (w := 2) (Z := Z) (fun z hz => by
          obtain ⟨j, _, _, e⟩ := m z hz
          rw [e, mPU_0]; exact Nat.le_refl 2)
        rw [s]
        show _ + 1 ≤ 13
        omega
      · rw [s]
        show 0 + _ ≤ _
        have := wst_rst (D 18 3)
        omega
    · rcases z2 with ⟨s, l, m, _⟩ | ⟨s, l, m, _⟩ | ⟨s, l, m, _⟩ | ⟨_, _, _, s⟩
      · obtain ⟨j, _, _, e⟩ := m z hz
        have w : ∀ x, x ≠ 5 → z.1 x = mg 6 me (nI (oneO ((D 17) (ndB (D 18) j).toNatClampNeg) P.nn P.nn ((D 7 13)).toNatClampNeg)) (D 7 7) (D 7 8) x := fun x hx => by rw [e]; exact va_up_n _ _ hx
        have h0 : z.1 0 = 6 := w 0 (by decide)
        exact ⟨MS.no (by rw [h0]; decide) (by rw [h0]; decide) (by rw [h0]; decide) (by rw [h0]; decide), (w 3 (by decide)).trans h.l1.1, Or.inr (Or.inl h0)⟩
      · obtain ⟨o, j, o8, j1, j2, e⟩ := m z hz
        rw [e]
        rcases h.st with ⟨y, _⟩ | ⟨y, _⟩ | ⟨y, _⟩ | ⟨_, o', zo⟩ | ⟨y, _⟩
        · rw [s] at y; exact absurd y (by decide)
        · rw [s] at y; exact absurd y (by decide)
        · rw [s] at y; exact absurd y (by decide)
        · rcases zo.nb.b1 o (by omega) with y | ⟨_, _, _, k, y1, y2, _⟩
          · exfalso
            unfold msO at j2
            have := y 0 (by omega)
            rw [Nat.add_zero] at this
            rw [if_pos (by unfold seB; rw [if_pos this]), b_0] at j2
            cases j2
          · exact put_ms hgg h (by omega) y1 j1 j2
        · rw [s] at y; exact absurd y (by decide)
      · obtain ⟨j, j1, j2, e⟩ := m z hz
        rw [e]
        rcases h.st with ⟨y, _⟩ | ⟨y, _⟩ | ⟨y, _⟩ | ⟨y, _⟩ | ⟨_, o', zo⟩
        · rw [s] at y; exact absurd y (by decide)
        · rw [s] at y; exact absurd y (by decide)
        · rw [s] at y; exact absurd y (by decide)
        · rw [s] at y; exact absurd y (by decide)
        · have h5 := hG.1
          have := zo.wa.o1
          exact put_ms hgg h (by unfold rtg tgN; omega) zo.b8.2.1 j1 j2
      · rw [s] at hz; cases hz
    · have two : (∀ z ∈ Z, wk N (z.1 0) = 2) → 2 * Z.length ≤ Wt N Z + 1 := fun hz => by
        have := Wt_ge (N := N) (w := 2) (Z := Z) (fun z h => Nat.le_of_eq (hz z h).symm)
        omega
      rcases z2 with ⟨s, l, m, _⟩ | ⟨s, l, m, _⟩ | ⟨s, l, m, _⟩ | ⟨_, _, _, s⟩
      · exact two (fun z hz => by obtain ⟨j, _, _, e⟩ := m z hz; rw [e, mGE_0]; rfl)
      · exact two (fun z hz => by obtain ⟨o, j, _, _, _, e⟩ := m z hz; rw [e, mPU_0]; rfl)
      · exact two (fun z hz => by obtain ⟨j, _, _, e⟩ := m z hz; rw [e, mPU_0]; rfl)
      · rw [s]; exact Nat.zero_le _

/-- tell -/
def mTL (nn : Nat) (me : Int32) (D : Nat → Nat → Int32) (tl : Nat) : Mg := (va_up (va_up (va_up (mg 3 me (nI nn) (D 7 7) (D 7 8)) 5 (D 18 4)) 6 (D 18 5)) 7 (nI tl), fun j => D 20 (100 + j))
theorem go5_z {P : Pm} {g : Gh} {e : Nat} {me : Int32} {u b : Nat → Int32} {D : Nat → Nat → Int32} {K A : Int64} {Y : List Mg} {w1 : Int32} (hG : GO g) (hgg : 0 < P.gg) (hnn : P.nn ≤ 6) (hw : ¬ w1 = 5) (h : LO P g e D K ∨ TE P g e D K) : GOz P g e w1 D K A Y (F_91_k5 P.nn P.gg P.C me P.f u b D K A Y w1) := by
  unfold F_91_k5
  rcases h with h | h
  · rw [if_pos h.no5]
    exact go6_z hG hgg hnn h
  · rw [if_neg (fun z => z h.s5)]
    obtain ⟨D1, Y1, r1, r2, _, r4⟩ := tell_all (nn := P.nn) (gg := P.gg) (C := P.C) (me := me) (f := P.f) (u := u) (b := b) (A := A) (Y := []) h (fun y hy => by cases hy)
    have hF : ∃ tl, ∀ Y, F_123 P.nn P.gg P.C me P.f u b D K A Y = (va_up D 18 (upd (D 18) 3 0), K, A, pst Y (mTL P.nn me D tl)) := ⟨_, fun Y => by unfold F_123; rw [bnN_e]; rfl⟩
    obtain ⟨tl, hF⟩ := hF
    have e1 := (Prod.mk.inj ((hF []).symm.trans r1)).1
    subst e1
    rw [hF Y, bnS_e]
    obtain ⟨D', K', Z, s1, s2, c7, c12, n1, n2, n3, n4, n5, n6⟩ := go6_z (me := me) (u := u) (b := b) (A := A) (Y := pst Y (mTL P.nn me D tl)) (w1 := w1) hG hgg hnn r2
    have w : ∀ x, x ≠ 5 → x ≠ 6 → x ≠ 7 → (mTL P.nn me D tl).1 x = mg 3 me (nI P.nn) (D 7 7) (D 7 8) x := fun x a1 a2 a3 => by
      show va_up (va_up (va_up (mg 3 me (nI P.nn) (D 7 7) (D 7 8)) 5 (D 18 4)) 6 (D 18 5)) 7 (nI tl) x = _
      rw [va_up_n _ _ a3, va_up_n _ _ a2, va_up_n _ _ a1]
    have h0 : (mTL P.nn me D tl).1 0 = 3 := w 0 (by decide) (by decide) (by decide)
    refine ⟨D', K', mTL P.nn me D tl :: Z, s1, s2, fun q hq => by rw [c7 q hq, r4 q (by omega)], by rw [c12, r4 7 (by decide)], by rw [r4 16 (by decide)] at n1; exact n1, ?_, fun z => ?_, fun z n hn hb => ?_, fun z hz => ?_, fun N => ?_⟩
    · show wk (Nn g (D' 16 960)) ((mTL P.nn me D tl).1 0) + Wt (Nn g (D' 16 960)) Z + wSt (D' 18 3) ≤ _
      rw [h0, if_neg (by rw [h.s5]; exact fun z => hw z.symm), h.s5]
      rw [va_up_s, pk_us] at n2
      have : (if (0 : Int32) = w1 then wSt w1 else rst 0) = 0 := by
        split
        · rename_i z; rw [← z]; rfl
        · rfl
      rw [this] at n2
      show 1 + _ + _ ≤ 1
      omega
    · obtain ⟨a1, a2, a3⟩ := n3 z
      exact ⟨a1, by rw [a2, r4 10 (by decide)], by rw [a3, r4 16 (by decide)]⟩
    · obtain ⟨a1, _, a3, a4, a5, a6, a7⟩ := n4 z n hn hb
      exact ⟨by rw [r4 7 (by decide)] at a1; exact a1, Or.inr h.s5, by rw [a3, r4 8 (by decide)], by rw [a4, r4 11 (by decide)], by rw [a5, r4 15 (by decide)], by rw [a6, r4 16 (by decide)], by rw [a7, r4 17 (by decide)]⟩
    · rcases List.mem_cons.mp hz with y | y
      · rw [y]
        exact ⟨MS.no (by rw [h0]; decide) (by rw [h0]; decide) (by rw [h0]; decide) (by rw [h0]; decide), (w 3 (by decide) (by decide) (by decide)).trans h.l1.1, Or.inl h0⟩
      · exact n5 z y
    · rw [va_up_s, pk_us] at n2
      have hz0 : (if (0 : Int32) = w1 then wSt w1 else rst 0) = 0 := by
        split
        · rename_i z; rw [← z]; rfl
        · rfl
      rw [hz0] at n2
      have := Wt_ge (N := Nn g (D' 16 960)) (w := 1) (Z := Z) (fun z _ => wk1)
      show 2 * (Z.length + 1) ≤ wk N ((mTL P.nn me D tl).1 0) + Wt N Z + 1
      rw [h0]
      show _ ≤ 1 + _ + 1
      omega
theorem go4_z {P : Pm} {g : Gh} {e : Nat} {me : Int32} {u b : Nat → Int32} {D : Nat → Nat → Int32} {K A : Int64} {Y : List Mg} {w1 : Int32} (hG : GO g) (hgg : 0 < P.gg) (hnn : P.nn ≤ 6) (hw : ¬ w1 = 5) (h : LO P g e D K ∨ TE P g e D K) : GOz P g e w1 D K A Y (F_91_k4 P.nn P.gg P.C me P.f u b D K A Y w1) := by
  unfold F_91_k4
  by_cases c : D 18 3 = 4
  · rw [if_neg (fun z => z c), bnI_e]
    rcases h with h | h
    · by_cases d : arS P.gg D (9 - 8) 8 = 0
      · rw [if_pos d]
        exact go5_z hG hgg hnn hw (Or.inl h)
      · rw [if_neg d]
        obtain ⟨D', K', Z, s1, s2, c7, c12, n1, n2, n3, n4, n5, n6⟩ := go5_z (me := me) (u := u) (b := b) (A := A) (Y := Y) hG hgg hnn hw (Or.inr (commit_all hG hgg hnn h c d))
        have q : ∀ q, q ≠ 7 → q ≠ 18 → va_up (va_up D 7 (upd (upd (D 7) 10 0) 14 0)) 18 (upd (D 18) 3 5) q = D q := fun q a1 a2 => by rw [va_up_n _ _ a2, va_up_n _ _ a1]
        refine ⟨D', K', Z, s1, s2, fun q' hq => by rw [c7 q' hq, q q' (by omega) (by omega)], by rw [c12, va_up_n _ _ (by decide), va_up_s, pk_un (by decide), pk_un (by decide)], by rw [q 16 (by decide) (by decide)] at n1; exact n1, ?_, fun z => ?_, fun z n hn hb => ?_, n5, n6⟩
        · rw [va_up_s, pk_us, if_neg (fun z => hw z.symm)] at n2
          have : rst 5 ≤ (if D 18 3 = w1 then wSt w1 else rst (D 18 3)) := by
            rw [c]
            split
            · rename_i z; rw [← z]; decide
            · decide
          omega
        · obtain ⟨a1, a2, a3⟩ := n3 z
          exact ⟨a1, by rw [a2, q 10 (by decide) (by decide)], by rw [a3, q 16 (by decide) (by decide)]⟩
        · obtain ⟨a1, _⟩ := n4 z n hn hb
          rw [va_up_n _ _ (by decide), va_up_s, pk_un (by decide), pk_us, b_0] at a1
          cases a1
    · rw [h.s5] at c; exact absurd c (by decide)
  · rw [if_pos c]
    exact go5_z hG hgg hnn hw h
theorem go3_z {P : Pm} {g : Gh} {e : Nat} {me : Int32} {u b : Nat → Int32} {D : Nat → Nat → Int32} {K A : Int64} {Y : List Mg} {w1 : Int32} (hG : GO g) (hgg : 0 < P.gg) (hnn : P.nn ≤ 6) (hw : ¬ w1 = 5) (h : LO P g e D K ∨ TE P g e D K) : GOz P g e w1 D K A Y (F_91_k3 P.nn P.gg P.C me P.f u b D K A Y w1) := by
  unfold F_91_k3
  by_cases c : D 18 3 = 3
  · rw [if_neg (fun z => z c), bnI_e]
    rcases h with h | h
    · by_cases d : arS P.gg D (8 - 0) 0 = 0
      · rw [if_pos d]
        exact go4_z hG hgg hnn hw (Or.inl h)
      · rw [if_neg d]
        obtain ⟨D1, r1, r2, r3⟩ := root_all (me := me) (u := u) (b := b) (A := A) (Y := Y) hG hgg hnn h c d
        obtain ⟨x1, x2, x3⟩ := root_x r1
        rw [r1, bnS_e]
        obtain ⟨D', K', Z, s1, s2, c7, c12, n1, n2, n3, n4, n5, n6⟩ := go4_z (me := me) (u := u) (b := b) (A := A) (Y := Y) hG hgg hnn hw (Or.inl r3)
        have hkn : ¬ knA K (D1 10 9) = 0 := by
          rcases r3.st with ⟨z, _⟩ | ⟨z, _⟩ | ⟨z, _⟩ | ⟨z, _⟩ | ⟨_, o, zo⟩
          · rw [x1] at z; exact absurd z (by decide)
          · rw [x1] at z; exact absurd z (by decide)
          · rw [x1] at z; exact absurd z (by decide)
          · rw [x1] at z; exact absurd z (by decide)
          · exact zo.tk.1.known.mpr zo.tk.2
        have hNn : Nn g (D1 16 960) ≤ Nn g (D 16 960) := by
          have h5 := hG.1
          rcases h.st with ⟨z, _⟩ | ⟨z, _⟩ | ⟨z, _⟩ | ⟨_, o, zo⟩ | ⟨z, _⟩
          · rw [c] at z; exact absurd z (by decide)
          · rw [c] at z; exact absurd z (by decide)
          · rw [c] at z; exact absurd z (by decide)
          · have := zo.wa.o1
            rw [x3, zo.wa.ak.op, nI_clamp (by omega)]
            refine Nn_own ?_ zo.wa.o2.1 (by omega)
            rcases zo.rt with ⟨w1, _⟩ | ⟨w1, _⟩
            · rcases efv_or g.ops o with y | ⟨v, v1, v2, _⟩
              · exact Or.inl (w1.trans y)
              · exact Or.inr ⟨v, by omega, w1.trans v2⟩
            · exact Or.inr ⟨o, Nat.le_refl _, w1⟩
          · rw [c] at z; exact absurd z (by decide)
        refine ⟨D', K', Z, s1, s2, fun q hq => by rw [c7 q hq, r2 q (by omega)], by rw [c12, r2 7 (by omega)], Nat.le_trans n1 hNn, ?_, fun z => ?_, fun z n hn hb => ?_, n5, n6⟩
        · rw [x1] at n2
          have : (if (4 : Int32) = w1 then wSt w1 else rst 4) ≤ (if D 18 3 = w1 then wSt w1 else rst (D 18 3)) := by
            rw [c]
            split
            · rename_i z; rw [← z, if_neg (by decide)]; decide
            · split
              · rename_i _ z; rw [← z]; decide
              · decide
          omega
        · exfalso
          obtain ⟨a1, a2, _⟩ := n3 z
          rw [a1, a2] at z
          exact hkn z
        · exfalso
          obtain ⟨_, a2, _⟩ := n4 z n hn hb
          rw [x1] at a2
          rcases a2 with a2 | a2
          · exact absurd a2 (by decide)
          · exact absurd a2 (by decide)
    · rw [h.s5] at c; exact absurd c (by decide)
  · rw [if_pos c]
    exact go4_z hG hgg hnn hw h
theorem go2_z {P : Pm} {g : Gh} {e : Nat} {me : Int32} {u b : Nat → Int32} {D : Nat → Nat → Int32} {K A : Int64} {Y : List Mg} {w1 : Int32} (hG : GO g) (hgg : 0 < P.gg) (hnn : P.nn ≤ 6) (hw : ¬ w1 = 5) (h : LO P g e D K ∨ TE P g e D K) : GOz P g e w1 D K A Y (F_91_k2 P.nn P.gg P.C me P.f u b D K A Y w1) := by
  unfold F_91_k2
  by_cases c : D 18 3 = 2
  · rw [if_neg (fun z => z c)]
    rcases h with h | h
    · by_cases d : D 18 12 = 0
      · rw [if_neg (fun z => z d)]
        obtain ⟨D1, K1, r1, r2, r3⟩ := change_all (me := me) (u := u) (b := b) (A := A) (Y := Y) hG h c d
        obtain ⟨x1, x2⟩ := change_x hG h c d r1
        have key : bnS (F_104 P.nn P.gg P.C me P.f u b D K A Y) (fun D3 K3 A3 Y3 => bnS (F_114 P.nn P.gg P.C me P.f u b D3 K3 A3 Y3) (fun D4 K4 A4 Y4 => F_91_k3 P.nn P.gg P.C me P.f u b D4 K4 A4 Y4 w1)) = F_91_k3 P.nn P.gg P.C me P.f u b D1 K1 A Y w1 := by
          rw [bnS_2 (F_104 P.nn P.gg P.C me P.f u b D K A Y) (F_114 P.nn P.gg P.C me P.f u b) (fun D4 K4 A4 Y4 => F_91_k3 P.nn P.gg P.C me P.f u b D4 K4 A4 Y4 w1), r1, bnS_e]
        rw [key]
        obtain ⟨D', K', Z, s1, s2, c7, c12, n1, n2, n3, n4, n5, n6⟩ := go3_z (me := me) (u := u) (b := b) (A := A) (Y := Y) hG hgg hnn hw r3
        refine ⟨D', K', Z, s1, s2, fun q hq => by rw [c7 q hq, r2 q (by omega)], by rw [c12, r2 7 (by omega)], by rw [x1] at n1; exact n1, ?_, fun z => ?_, fun z n hn hb => ?_, n5, n6⟩
        · have : (if D1 18 3 = w1 then wSt w1 else rst (D1 18 3)) ≤ (if D 18 3 = w1 then wSt w1 else rst (D 18 3)) := by
            rw [c]
            rcases x2 with x | ⟨x, _⟩
            · rw [x]
              split
              · rename_i z; rw [← z, if_neg (by decide)]; decide
              · split
                · rename_i _ z; rw [← z]; decide
                · decide
            · rw [x, if_neg (fun z => hw z.symm)]
              split
              · rename_i z; rw [← z]; decide
              · decide
          omega
        · obtain ⟨a1, a2, a3⟩ := n3 z
          rcases x2 with x | ⟨_, x4, x5⟩
          · exfalso
            rw [a1, a2] at z
            rcases r3 with r3 | r3
            · rcases r3.st with ⟨y, _⟩ | ⟨y, _⟩ | ⟨y, _⟩ | ⟨_, o, zo⟩ | ⟨y, _⟩
              · rw [x] at y; exact absurd y (by decide)
              · rw [x] at y; exact absurd y (by decide)
              · rw [x] at y; exact absurd y (by decide)
              · exact zo.tk.1.known.mpr zo.tk.2 z
              · rw [x] at y; exact absurd y (by decide)
            · rw [r3.s5] at x; exact absurd x (by decide)
          · exact ⟨by rw [a1, x4], by rw [a2, x5 10 (by decide)], by rw [a3, x1]⟩
        · obtain ⟨a1, a2, a3, a4, a5, a6, a7⟩ := n4 z n hn hb
          rcases x2 with x | ⟨_, _, x5⟩
          · exfalso
            rw [x] at a2
            rcases a2 with a2 | a2
            · exact absurd a2 (by decide)
            · exact absurd a2 (by decide)
          · exact ⟨by rw [x5 7 (by decide)] at a1; exact a1, Or.inl (by rw [c]; decide), by rw [a3, x5 8 (by decide)], by rw [a4, x5 11 (by decide)], by rw [a5, x5 15 (by decide)], by rw [a6, x5 16 (by decide)], by rw [a7, x5 17 (by decide)]⟩
      · rw [if_pos d]
        exact go3_z hG hgg hnn hw (Or.inl h)
    · rw [h.s5] at c; exact absurd c (by decide)
  · rw [if_pos c]
    exact go3_z hG hgg hnn hw h
/-- goOn -/
theorem goon_z {P : Pm} {g : Gh} {e : Nat} {me : Int32} {u b : Nat → Int32} {D : Nat → Nat → Int32} {K A : Int64} {Y : List Mg} (hG : GO g) (hgg : 0 < P.gg) (hnn : P.nn ≤ 6) (h : LO P g e D K) : GOz P g e (D 18 3) D K A Y (F_91 P.nn P.gg P.C me P.f u b D K A Y) := by
  unfold F_91
  rw [bnI_e]
  by_cases c : D 18 3 = 1
  · rw [if_neg (fun z => z c)]
    by_cases d : knA K (D 10 9) = 0
    · rw [if_pos d]
      exact go2_z hG hgg hnn h.no5 (Or.inl h)
    · rw [if_neg d]
      by_cases rd : rdB (D 8) (D 7 9) 0 = 0
      · rw [if_pos rd]
        exact go2_z hG hgg hnn h.no5 (Or.inl h)
      · rw [if_neg rd]
        obtain ⟨D1, r1, r2, r3⟩ := plan_all (me := me) (u := u) (b := b) (A := A) (Y := Y) hG h c d
        rw [r1, bnS_e]
        obtain ⟨D', K', Z, s1, s2, c7, c12, n1, n2, n3, n4, n5, n6⟩ := go2_z (me := me) (u := u) (b := b) (A := A) (Y := Y) (w1 := D 18 3) hG hgg hnn h.no5 r3
        refine ⟨D', K', Z, s1, s2, fun q hq => by rw [c7 q hq, r2 q (by omega)], by rw [c12, r2 7 (by decide)], by rw [r2 16 (by decide)] at n1; exact n1, ?_, fun z => ?_, fun z n hn hb => ?_, n5, n6⟩
        · rw [if_pos rfl]
          have : (if D1 18 3 = D 18 3 then wSt (D 18 3) else rst (D1 18 3)) ≤ wSt (D 18 3) := by
            split
            · exact Nat.le_refl _
            · rw [c]
              show rst (D1 18 3) ≤ 121
              unfold rst
              repeat' split
              all_goals omega
          omega
        · obtain ⟨a1, a2, a3⟩ := n3 z
          exact ⟨a1, by rw [a2, r2 10 (by decide)], by rw [a3, r2 16 (by decide)]⟩
        · obtain ⟨a1, _, a3, a4, a5, a6, a7⟩ := n4 z n hn hb
          exact ⟨by rw [r2 7 (by decide)] at a1; exact a1, Or.inl (by rw [c]; decide), by rw [a3, r2 8 (by decide)], by rw [a4, r2 11 (by decide)], by rw [a5, r2 15 (by decide)], by rw [a6, r2 16 (by decide)], by rw [a7, r2 17 (by decide)]⟩
  · rw [if_pos c]
    exact go2_z hG hgg hnn h.no5 (Or.inl h)

/-! a round of STORE or COMMIT -/
theorem goon_s {P : Pm} {g : Gh} {e : Nat} {me : Int32} {u b : Nat → Int32} {D D' : Nat → Nat → Int32} {K A K' A' : Int64} {Y Y' : List Mg} (hG : GO g) (hgg : 0 < P.gg) (hnn : P.nn ≤ 6) (h : LO P g e D K) (h2 : 2 ≤ D 18 3) (hF : F_91 P.nn P.gg P.C me P.f u b D K A Y = (D', K', A', Y')) (hs : D' 18 3 = D 18 3) : D' = D ∧ K' = K ∧ Y' = Y := by
  have hH : GIh P g e me u b A Y (fun D2 K2 Zt => (D2 = D ∧ K2 = K ∧ Zt = []) ∨ (D 18 3 < D2 18 3 ∨ D2 18 3 = 0)) := by
    refine ⟨fun D1 D2 K1 hL hs hk _ hF _ hL2 hI => ?_, fun D1 D2 K1 K2 hL hs h12 hq _ hL2 hI => ?_, fun D1 D2 K1 hL hs ha hq _ hL2 hI => ?_, fun D1 K1 hL hs _ _ hI => ?_, fun D1 K1 tl hT _ hI => ?_⟩
    · exfalso
      rcases hI with ⟨q, _⟩ | q | q
      · rw [q] at hs; rw [hs] at h2; exact absurd h2 (by decide)
      · rw [hs] at q; exact absurd (Int32.lt_of_le_of_lt h2 q) (by decide)
      · rw [hs] at q; exact absurd q (by decide)
    · right; left
      have hle : D 18 3 ≤ 2 := by
        rcases hI with ⟨q, _⟩ | q | q
        · rw [q] at hs; rw [hs]; decide
        · rw [hs] at q; exact Int32.le_of_lt q
        · rw [hs] at q; exact absurd q (by decide)
      rcases (change_x hG hL hs h12 hq).2 with q | ⟨q, _⟩
      · rw [q]; exact Int32.lt_of_le_of_lt hle (by decide)
      · rw [q]; exact Int32.lt_of_le_of_lt hle (by decide)
    · right; left
      have hle : D 18 3 ≤ 3 := by
        rcases hI with ⟨q, _⟩ | q | q
        · rw [q] at hs; rw [hs]; decide
        · rw [hs] at q; exact Int32.le_of_lt q
        · rw [hs] at q; exact absurd q (by decide)
      rw [(root_x hq).1]; exact Int32.lt_of_le_of_lt hle (by decide)
    · right; left
      have hle : D 18 3 ≤ 4 := by
        rcases hI with ⟨q, _⟩ | q | q
        · rw [q] at hs; rw [hs]; decide
        · rw [hs] at q; exact Int32.le_of_lt q
        · rw [hs] at q; exact absurd q (by decide)
      rw [va_up_s, pk_us]; exact Int32.lt_of_le_of_lt hle (by decide)
    · right; right
      rw [va_up_s, pk_us]
  obtain ⟨D2, K2, Zt, Zp, r1, r2, r3, r4⟩ := goon_I (me := me) (u := u) (b := b) (A := A) (Y := Y) hG hgg hH hnn h (Or.inl ⟨rfl, rfl, rfl⟩)
  rw [r1, Prod.mk.injEq, Prod.mk.injEq, Prod.mk.injEq] at hF
  obtain ⟨e1, e2, _, e4⟩ := hF
  subst e1 e2
  rcases r2 with ⟨q1, q2, q3⟩ | q | q
  · refine ⟨q1, q2, ?_⟩
    rcases r4 with ⟨_, w⟩ | ⟨w, _⟩
    · rw [← e4, q3, w]; rfl
    · exact absurd hs w
  · rw [hs] at q; exact absurd q Int32.lt_irrefl
  · rw [hs] at q; rw [q] at h2; exact absurd h2 (by decide)
/-- a NODE has room -/
def SL (P : Pm) : Prop := ∀ (g : Gh) (n e : Nat) (D : Nat → Nat → Int32) (K : Int64), GO g → g.bg ≤ g.sn + 12 → NU P g n e D K → 14 ≤ Sm (fun s => if D 6 s = -1 then 1 else 0) 280
/-- no erased block but for FLUSHED ones -/
def EF (D : Nat → Nat → Int32) : Prop := ∀ s, s < 280 → D 6 s = -1 → D 5 s = -1
theorem store_e {B : (Nat → Int32) → Prop} {nn gg : Nat} {C me : Int32} {f u b : Nat → Int32} {D D' : Nat → Nat → Int32} {K A K' A' : Int64} {Y Y' : List Mg} (hB : BX B) (h : DUD B D) (h5 : ¬ u 5 = -1) (hE : EF D) (hF : F_59 nn gg C me f u b D K A Y = (D', K', A', Y')) : EF D' := by
  have wr : ∀ (D2 : Nat → Nat → Int32) (Y2 : List Mg), EF D2 → (if freB (D2 6) (D2 5) = -1 then (D2, K, A, Y2) else bnN ((freB (D2 6) (D2 5)).toNatClampNeg) (fun fr_ => bnN ((D2 1 4).toNatClampNeg) (fun c => (va_up (va_up (va_up (va_up (va_up D2 1 (upd (D2 1) 4 (nI (c + 1)))) 3 (wrF b (D2 3) c (ostB (D2 2) fr_))) 4 (upd (D2 4) c (nI fr_))) 5 (upd (D2 5) fr_ (nI c))) 6 (upd (D2 6) fr_ (u 5)), K, A, Y2)))) = ((D', K', A', Y') : St) → EF D' := fun D2 Y2 hE2 hF => by
    rcases freB_or (D2 6) (D2 5) with z | ⟨j, j1, j2, j3, j4⟩
    · rw [if_pos z] at hF
      rw [← (Prod.mk.inj hF).1]; exact hE2
    · have hcl : (freB (D2 6) (D2 5)).toNatClampNeg = j := by rw [j2, nI_clamp (by omega)]
      rw [if_neg (by rw [j2]; exact nIneg (by omega)), bnN_e, hcl, bnN_e] at hF
      have e := (Prod.mk.inj hF).1
      have g5 : D' 5 = upd (D2 5) j (nI (D2 1 4).toNatClampNeg) := by rw [← e, va_up_n _ _ (by decide), va_up_s]
      have g6 : D' 6 = upd (D2 6) j (u 5) := by rw [← e, va_up_s]
      intro s hs h6
      by_cases q : s = j
      · rw [g6, q, pk_us] at h6; exact absurd h6 h5
      · rw [g6, pk_un q] at h6
        rw [g5, pk_un q]; exact hE2 s hs h6
  unfold F_59 at hF
  rcases sloB_cs (D 6) (u 5) with ⟨z1, z2⟩ | ⟨j, j1, j2, j3⟩
  · rw [if_pos z1] at hF
    by_cases c : D 1 4 = 32
    · obtain ⟨D2, z, r1, r2, r3, r4, r5, r6⟩ := DKR.fl (nn := nn) (gg := gg) (C := C) (me := me) (f := f) (u := u) (b := b) (K := K) (A := A) hB h (by rw [c]; decide)
      rw [if_pos c, r1 Y, bnS_e] at hF
      exact wr D2 _ (fun s hs _ => r5 s hs) hF
    · rw [if_neg c] at hF
      exact wr D _ hE hF
  · rw [if_neg (by rw [j2]; exact nIneg (by omega)), bnN_e] at hF
    split at hF
    · rw [← (Prod.mk.inj hF).1]; exact hE
    · rw [← (Prod.mk.inj hF).1]; exact hE
/-- a NODE hears PUT: raw -/
theorem f55_10 {P : Pm} {j : Nat} {u b : Nat → Int32} {D D' : Nat → Nat → Int32} {K A K' A' : Int64} {Y Y' : List Mg} (c10 : u 0 = 10) (hF : F_55_k P.nn P.gg P.C (nI j) P.f u b D K A Y = (D', K', A', Y')) : ∃ K4 A4 Y4, F_59 P.nn P.gg P.C (nI j) P.f u b D K A Y = (D', K4, A4, Y4) := by
  unfold F_55_k at hF
  rw [if_neg (by rw [c10]; decide), if_neg (show ¬ u 0 = 1 by rw [c10]; decide), if_neg (show ¬ u 0 = 2 by rw [c10]; decide), if_neg (show ¬ u 0 = 3 by rw [c10]; decide), if_neg (show ¬ u 0 = 4 by rw [c10]; decide), if_neg (show ¬ u 0 = 5 by rw [c10]; decide), if_neg (show ¬ u 0 = 6 by rw [c10]; decide), if_neg (show ¬ u 0 = 7 by rw [c10]; decide), if_neg (show ¬ u 0 = 8 by rw [c10]; decide), if_neg (show ¬ u 0 = 9 by rw [c10]; decide), if_pos c10] at hF
  obtain ⟨D4, K4, A4, Y4, h4⟩ : ∃ D4 K4 A4 Y4, F_59 P.nn P.gg P.C (nI j) P.f u b D K A Y = (D4, K4, A4, Y4) := ⟨_, _, _, _, rfl⟩
  rw [h4, bnS_e] at hF
  rw [← (Prod.mk.inj hF).1]
  exact ⟨K4, A4, Y4, h4⟩
theorem Sm_pos {f : Nat → Nat} : ∀ {n : Nat}, 0 < Sm f n → ∃ i, i < n ∧ 0 < f i
  | 0, h => absurd h (by show ¬ 0 < 0; omega)
  | n + 1, h => by
    have h : 0 < Sm f n + f n := h
    rcases Nat.eq_zero_or_pos (f n) with z | z
    · obtain ⟨i, i1, i2⟩ := Sm_pos (f := f) (n := n) (by omega)
      exact ⟨i, by omega, i2⟩
    · exact ⟨n, by omega, z⟩
theorem SL.fr {P : Pm} {g : Gh} {n e : Nat} {D : Nat → Nat → Int32} {K : Int64} (hS : SL P) (hG : GO g) (hb : g.bg ≤ g.sn + 12) (h : NU P g n e D K) : ∃ s, s < 280 ∧ D 6 s = -1 := by
  obtain ⟨s, s1, s2⟩ := Sm_pos (f := fun s => if D 6 s = -1 then 1 else 0) (n := 280) (by have := hS g n e D K hG hb h; omega)
  refine ⟨s, s1, ?_⟩
  by_cases c : D 6 s = -1
  · exact c
  · simp only [if_neg c] at s2; omega
/-- blocks of the step -/
def inB (s : Int32) (b : Nat) : Prop := (b < 8 ∧ s = 3) ∨ (b = 8 ∧ s = 4)
def PUm (S : SS) (j : Nat) (t : Int32) : Prop := ∃ y ∈ S.2.2.1, y.1 0 = 10 ∧ y.1 2 = nI j ∧ y.1 5 = t
def NOx (S : SS) : Prop := ∀ y ∈ S.2.2.1, y.1 0 = 0 ∨ y.1 0 = 1 ∨ y.1 0 = 2 ∨ y.1 0 = 3 ∨ y.1 0 = 10 ∨ y.1 0 = 11
def FRm (DT D : Nat → Nat → Int32) : Prop := (∀ q, q = 8 ∨ q = 11 ∨ q = 15 ∨ q = 16 ∨ q = 18 ∨ q = 21 → D q = DT q) ∧ ∀ a m, m < 32 → bt (DT 17 a) m = true → bt (D 17 a) m = true
def bitD (D : Nat → Nat → Int32) (j : Nat) (t : Int32) : Prop := ∃ a, a < 961 ∧ fndI (D 15) (D 16) t = nI a ∧ bt (D 17 a) j = true
/-- of a block and a NODE: it comes there, or (fl) the leader hears of it -/
def OBw (l ep : Nat) (fl : Bool) (S : SS) (j : Nat) (t : Int32) : Prop := (fl = false → mem (dN S j) t ∨ PUm S j t) ∧ (fl = true → bitD (dN S l) j t ∨ (∃ y ∈ S.2.2.1, isHW ep l j t y) ∨ (PUm S j t ∧ stb (dN S j) t))
def WRx (P : Pm) (l h0 c0 : Nat) (fl : Bool) (T : SS) (g : Gh) (S : SS) : Prop :=
  pgT g (dN T l) (kN T l) (dN S l) (kN S l) ∨ dnO P h0 S ∨ (smT (dN T l) (kN T l) (dN S l) (kN S l) ∧ heN S = h0 ∧ (pcd (dN S l) h0 < c0 ∨ (FRm (dN T l) (dN S l) ∧ NOx S ∧ (∀ n, n < P.nn → EF (dN S n)) ∧ ∀ b j, inB (dN T l 18 3) b → j < P.nn → bt (msO P.gg (dN T l) b) j = true → OBw l g.ep fl S j (dN T l 21 (b * 128 + 1)))))
theorem pc_eq {s s' : Int32} (h : s = 3 ∨ s = 4) (h' : s' = 0 ∨ s' = 1 ∨ s' = 2 ∨ s' = 3 ∨ s' = 4) : (pcA s' = pcA s → s' = s) ∧ (pcB s' = pcB s → s' = s) := by
  rcases h with h | h <;> rcases h' with h' | h' | h' | h' | h' <;> subst h <;> subst h' <;> decide
theorem stb_1 {P : Pm} {g : Gh} {n e : Nat} {D : Nat → Nat → Int32} {K : Int64} {t : Int32} (h : NU P g n e D K) (ht : ¬ t = -1) (h1 : stb D t) (h2 : pnd D t) : False := by
  obtain ⟨s, s1, s2, s3⟩ := h1
  obtain ⟨s', q1, q2, q3⟩ := h2
  obtain ⟨_, _, _, _, _, _, _, _, hq⟩ := h.du
  have := hq s s' s1 q1 (by rw [s2, q2]) (by rw [s2]; exact ht)
  subst this
  exact q3 s3
theorem WRx.st {P : Pm} {g g' : Gh} {l h0 c0 : Nat} {fl : Bool} {x : Mg} {Z : List Mg} {T S S' : SS} (hP : PmO P) (hSL : SL P) (hl : l < P.nn) (hsT : dN T l 18 3 = 3 ∨ dN T l 18 3 = 4) (hc0 : pcd (dN T l) h0 = c0) (htg : ∀ b, inB (dN T l 18 3) b → ∀ j, bt (msO P.gg (dN T l) b) j = true → ∃ k, k < 5243392 ∧ dN T l 21 (b * 128 + 1) = nI k) (h : RG P g l S) (hst : St1 P g l x Z S S') (hgs : Gs g g') (h' : RG P g' l S') (hq : GQ P l S) (ha : AKs h0 S) (hi : WRx P l h0 c0 fl T g S) : WRx P l h0 c0 fl T g' S' := by
  have hnn := hP.nn
  have lm := hst.lm hP hl h
  rcases hi with hi | hi | ⟨i1, i2, i3⟩
  · left
    apply pgT.gs hgs
    rcases lm with lm | lm
    · exact hi.sm (Or.inl lm)
    · exact hi.tr lm
  · exact Or.inr (Or.inl (hi.st hP hl h hst h' ha.1))
  rcases lm with lm | lm
  case inr => exact Or.inl ((i1.pg lm).gs hgs)
  obtain ⟨a1, a2, a3, a4, _⟩ := hst.he hP hl h h'
  rcases Nat.lt_or_ge h0 (heN S') with hh | hh
  · exact Or.inr (Or.inl (Or.inl hh))
  -- the rest
  have hpc : dnO P h0 S' ∨ pcd (dN S' l) h0 ≤ pcd (dN S l) h0 := by
    rcases hst.cs hnn hl with ⟨_, e, _⟩ | ⟨j, _, _, _, _, _, _, _, _, e3, _⟩ | ⟨_, _, _, _, _, e⟩ | ⟨_, _, _, _, _, e, _⟩
    · right
      unfold pcd
      show (if S'.2.2.2.1 l 18 4 = nI h0 then pcA (S'.2.2.2.1 l 18 3) else pcB (S'.2.2.2.1 l 18 3)) ≤ _
      rw [e]; exact Nat.le_refl _
    · right
      unfold pcd
      rw [e3 l 18 (by omega)]; exact Nat.le_refl _
    · exact e.pc hP hl h hst hq ha i2
    · right
      unfold pcd
      show (if S'.2.2.2.1 l 18 4 = nI h0 then pcA (S'.2.2.2.1 l 18 3) else pcB (S'.2.2.2.1 l 18 3)) ≤ _
      rw [e]; exact Nat.le_refl _
  rcases hpc with hpc | hpc
  · exact Or.inr (Or.inl hpc)
  refine Or.inr (Or.inr ⟨i1.tr lm, by omega, ?_⟩)
  rcases i3 with i3 | ⟨f1, f2, f3, f4⟩
  · exact Or.inl (by omega)
  have hpcS : pcd (dN S l) h0 = c0 := by
    rw [← hc0]
    unfold pcd
    rw [f1.1 18 (by decide)]
  rcases Nat.lt_or_ge (pcd (dN S' l) h0) c0 with hlt | hge
  · exact Or.inl hlt
  right
  have hpe : pcd (dN S' l) h0 = pcd (dN S l) h0 := by omega
  have hdk := fun n (hn : n < P.nn) => hst.dk hP hl h hn
  have hx := f2 x hst.head
  have hno12 : ¬ x.1 0 = 12 := fun z => by
    rcases hx with q | q | q | q | q | q <;> rw [z] at q <;> exact absurd q (by decide)
  have keepm : ∀ j t, j < P.nn → ¬ t < 0 → mem (dN S j) t → mem (dN S' j) t := fun j t hj ht hm => by
    rcases (hdk j hj).2 t ht hm with q | ⟨q, _⟩
    · exact q
    · exact absurd q hno12
  have keeps : ∀ j t, j < P.nn → ¬ t < 0 → stb (dN S j) t → stb (dN S' j) t := fun j t hj ht hm => by
    rcases (hdk j hj).1 t ht hm with q | ⟨q, _⟩
    · exact q
    · exact absurd q hno12
  have hep : g'.ep = g.ep := hgs.ep
  have hlt128 := hst.lt h.2.1
  rw [hep]
  -- the leader
  have hlead : FRm (dN T l) (dN S' l) ∧ (∀ t j, bitD (dN S l) j t → j < 32 → bitD (dN S' l) j t) ∧ (¬ isN (x.1 0) → x.1 2 = nI l → (∀ z, z ∈ psl (tkl S.2.2.1 0) Z → z ∈ S.2.2.1) ∧ ∀ j t, isHW g.ep l j t x → j < P.nn → (∃ a, a < 961 ∧ fndI (dN T l 15) (dN T l 16) t = nI a) → bitD (dN S' l) j t) := by
    have same : (∀ q, 6 < q → dN S' l q = dN S l q) → FRm (dN T l) (dN S' l) ∧ (∀ t j, bitD (dN S l) j t → j < 32 → bitD (dN S' l) j t) := fun e => ⟨⟨fun q hq => by rw [e q (by omega)]; exact f1.1 q hq, fun a m hm hb => by rw [e 17 (by decide)]; exact f1.2 a m hm hb⟩, fun t j ⟨a, q1, q2, q3⟩ _ => ⟨a, q1, by rw [e 15 (by decide), e 16 (by decide)]; exact q2, by rw [e 17 (by decide)]; exact q3⟩⟩
    rcases hst.cs hnn hl with ⟨c, e, _⟩ | ⟨j, _, _, j3, _, _, _, _, _, e3, _⟩ | ⟨c, cN, _, _, _, e⟩ | ⟨_, c1, _, _, _, e, _⟩
    · obtain ⟨w1, w2⟩ := same (fun q _ => by show S'.2.2.2.1 l q = _; rw [e])
      refine ⟨w1, w2, fun _ z => ?_⟩
      have := nI_inj (by omega) (by omega) (c.symm.trans z)
      omega
    · obtain ⟨w1, w2⟩ := same (fun q hq => e3 l q (by omega))
      exact ⟨w1, w2, fun z => absurd j3 z⟩
    · have hS := h.1
      have hG := hS.1.go
      have hL := h.lo hl
      obtain ⟨D1, Z6, Zt, Zp, ⟨Z0, hX⟩, q16, hstp, hZ6, q18, hL1, hF, _, _, _, _, _, hL'⟩ := e.g hG (SU.b12 hS.1) hP.gg hnn hL hst.2.2.1 hst.2.2.2.1 hq.1 (fun z k hk e => hq.2.2.1 x k hst.head (Or.inr z) hk e) (fun z k hk e => hq.2.2.2.1 x k hst.head z hk e)
      obtain ⟨t1, _⟩ := goon_t hG hP.gg hnn hL1 hF
      have hsS : dN S l 18 3 = 3 ∨ dN S l 18 3 = 4 := by rw [f1.1 18 (by decide)]; exact hsT
      have h2S : 2 ≤ dN S l 18 3 := by rcases hsS with q | q <;> rw [q] <;> decide
      have hnle : ¬ dN S l 18 3 ≤ 1 := fun z => absurd (Int32.le_trans h2S z) (by decide)
      rcases hstp with ⟨s1, s2⟩ | ⟨_, s0, _⟩
      case inr => exact absurd s0 hnle
      have hs' : dN S' l 18 3 = dN S l 18 3 := by
        have hq := pc_eq hsS hL'.s5
        unfold pcd at hpe
        rw [t1, s2] at hpe
        by_cases c : dN S l 18 4 = nI h0
        · rw [if_pos c, if_pos c] at hpe; exact hq.1 hpe
        · rw [if_neg c, if_neg c] at hpe; exact hq.2 hpe
      obtain ⟨g1, g2, g3⟩ := goon_s hG hP.gg hnn hL1 (by rw [s1]; exact h2S) hF (by rw [hs', s1])
      have hZ : Z6 = [] := by
        rcases hZ6 with q | ⟨_, q, _⟩
        · exact q
        · exact absurd q hnle
      have e18 : ∀ q, 17 < q → D1 q = dN S l q := fun q hq => by
        by_cases c2 : x.1 0 = 2
        · rcases hX with ⟨_, _, _, _, _, a5⟩ | ⟨c, _⟩ | ⟨c, _⟩ | ⟨c, _⟩ | ⟨c, _⟩ | ⟨c, _⟩
          · rcases a5 with ⟨w, _⟩ | ⟨w, _⟩
            · rw [w]
            · exact absurd w hnle
          · rw [c2] at c; exact absurd c (by decide)
          · rw [c2] at c; exact absurd c (by decide)
          · rw [c2] at c; exact absurd c (by decide)
          · rw [c2] at c; exact absurd c (by decide)
          · exact absurd c2 c
        · exact q18 c2 (fun z => by rcases hx with q | q | q | q | q | q <;> rw [z] at q <;> exact absurd q (by decide)) q hq
      have h17 : ∀ a m, m < 32 → bt (dN S l 17 a) m = true → bt (D1 17 a) m = true := fun a m hm hb => by
        rcases hX with ⟨_, _, _, _, a4, _⟩ | ⟨c, _⟩ | ⟨c, _⟩ | ⟨c, _⟩ | ⟨_, _, _, _, n, _, _, _, _, _, _, a10, _⟩ | ⟨_, _, _, _, _, _, _, _, a4⟩
        · rw [a4 17 (by decide)]; exact hb
        · exfalso; rcases hx with q | q | q | q | q | q <;> rw [c] at q <;> exact absurd q (by decide)
        · exfalso; rcases hx with q | q | q | q | q | q <;> rw [c] at q <;> exact absurd q (by decide)
        · exfalso; rcases hx with q | q | q | q | q | q <;> rw [c] at q <;> exact absurd q (by decide)
        · exact a10 a m hm hb
        · rw [a4, hrd_n (by decide)]; exact hb
      refine ⟨⟨fun q hq => ?_, fun a m hm hb => by rw [g1]; exact h17 a m hm (f1.2 a m hm hb)⟩, fun t j ⟨a, w1, w2, w3⟩ hj => ⟨a, w1, by rw [g1, q16 15 (by decide) (by decide) (by decide), q16 16 (by decide) (by decide) (by decide)]; exact w2, by rw [g1]; exact h17 a j hj w3⟩, fun _ _ => ⟨fun z hz => ?_, fun j t hw hj hfd => ?_⟩⟩
      · rw [g1]
        rcases hq with hq | hq | hq | hq | hq | hq
        · rw [hq, q16 8 (by decide) (by decide) (by decide)]; exact f1.1 8 (by decide)
        · rw [hq, q16 11 (by decide) (by decide) (by decide)]; exact f1.1 11 (by decide)
        · rw [hq, q16 15 (by decide) (by decide) (by decide)]; exact f1.1 15 (by decide)
        · rw [hq, q16 16 (by decide) (by decide) (by decide)]; exact f1.1 16 (by decide)
        · rw [hq, e18 18 (by decide)]; exact f1.1 18 (by decide)
        · rw [hq, e18 21 (by decide)]; exact f1.1 21 (by decide)
      · rw [g3, hZ] at hz
        exact (tkl_perm hst.1).mem_iff.mp (List.mem_cons_of_mem _ hz)
      · obtain ⟨a, b1, b2⟩ := hfd
        rcases hX with ⟨c, _⟩ | ⟨c, _⟩ | ⟨c, _⟩ | ⟨c, _⟩ | ⟨_, _, _, _, n, n1, n2, _, _, _, _, _, a11⟩ | ⟨_, _, _, _, c, _⟩
        · rw [hw.1] at c; exact absurd c (by decide)
        · rw [hw.1] at c; exact absurd c (by decide)
        · rw [hw.1] at c; exact absurd c (by decide)
        · rw [hw.1] at c; exact absurd c (by decide)
        · have : n = j := nI_inj (by omega) (by omega) (n2.symm.trans hw.2.1)
          subst this
          obtain ⟨i, w1, w2⟩ := hw.2.2.2.2
          have b2' : fndI (dN S l 15) (dN S l 16) t = nI a := by rw [f1.1 15 (by decide), f1.1 16 (by decide)]; exact b2
          refine ⟨a, b1, by rw [g1, q16 15 (by decide) (by decide) (by decide), q16 16 (by decide) (by decide) (by decide)]; exact b2', ?_⟩
          rw [g1]
          exact a11 i a w1 b1 (by rw [w2]; exact b2')
        · exact absurd hw.1 c
    · obtain ⟨w1, w2⟩ := same (fun q _ => by show S'.2.2.2.1 l q = _; rw [e])
      exact ⟨w1, w2, fun _ z => absurd z c1⟩
  obtain ⟨l1, l2, l3⟩ := hlead
  refine ⟨l1, fun y hy => ?_, fun n hn => ?_, fun b j hb hj hmb => ?_⟩
  · rcases hst.src hP hl hy with ⟨y0, q1, q2⟩ | ⟨_, q⟩ | ⟨j, z, j1, j2, j3, hr, z1, z2⟩ | ⟨c, cN, e, z, z0, z1, z2⟩
    · rw [q2.1]; exact f2 y0 q1
    · exact Or.inr (Or.inr (Or.inl q))
    · rw [z2.1]
      rcases hr.k z1 with ⟨_, c⟩ | ⟨c, _⟩ | ⟨c, _⟩ | ⟨c, _⟩ | ⟨_, c⟩
      · exact Or.inr (Or.inl c)
      · exfalso; rcases hx with q | q | q | q | q | q <;> rw [c] at q <;> exact absurd q (by decide)
      · exfalso; rcases hx with q | q | q | q | q | q <;> rw [c] at q <;> exact absurd q (by decide)
      · exfalso; rcases hx with q | q | q | q | q | q <;> rw [c] at q <;> exact absurd q (by decide)
      · exact Or.inr (Or.inr (Or.inr (Or.inr (Or.inr c))))
    · rw [z2.1]
      exact f2 z ((l3 cN c).1 z z0)
  · rcases hst.cs hnn hl with ⟨_, e, _⟩ | ⟨j, j1, j2, j3, _, _, e1, _, _, _, hr, hF⟩ | ⟨_, _, _, _, e1, e⟩ | ⟨_, _, _, _, _, e, _⟩
    · show EF (S'.2.2.2.1 n)
      rw [e]; exact f3 n hn
    · by_cases c : n = j
      · subst c
        rcases hr with ⟨_, e, _⟩ | ⟨_, e, _⟩ | ⟨_, e, _⟩ | ⟨_, e, _⟩ | ⟨c10, _⟩ | ⟨c12, _⟩
        · rw [e]; exact f3 n hn
        · rw [e]; exact f3 n hn
        · rw [e]; exact f3 n hn
        · rw [e]; exact f3 n hn
        · obtain ⟨K4, A4, Y4, w⟩ := f55_10 c10 hF
          obtain ⟨k, k1, k2, _⟩ := hst.2.2.1.pu c10
          exact store_e (Bg_X P g) (h.nu hn).du (by rw [k2]; exact nIneg (by omega)) (f3 n hn) w
        · exact absurd c12 hno12
      · rw [e1 n c]; exact f3 n hn
    · by_cases c : n = l
      · subst c
        obtain ⟨_, _, _, _, _, _, _, _, _, _, _, _, _, q, _⟩ := e
        intro s hs h6
        rw [q 6 (by decide)] at h6
        rw [q 5 (by decide)]; exact f3 n hn s hs h6
      · rw [(e1 n c).1]; exact f3 n hn
    · show EF (S'.2.2.2.1 n)
      rw [e]; exact f3 n hn
  · obtain ⟨k, hk, htk⟩ := htg b hb j hmb
    obtain ⟨o1, o2⟩ := f4 b j hb hj hmb
    have ht0 : ¬ dN T l 21 (b * 128 + 1) < 0 := by rw [htk]; exact nI_pos (by omega)
    have htn : ¬ dN T l 21 (b * 128 + 1) = -1 := by rw [htk]; exact nIneg (by omega)
    -- a PUT that is handed over
    have hput : ∀ y, y ∈ S.2.2.1 → y.1 0 = 10 → y.1 2 = nI j → y.1 5 = dN T l 21 (b * 128 + 1) → PUm S' j (dN T l 21 (b * 128 + 1)) ∨ (mem (dN S' j) (dN T l 21 (b * 128 + 1)) ∧ (stb (dN S j) (dN T l 21 (b * 128 + 1)) → ∃ y ∈ S'.2.2.1, isHW g.ep l j (dN T l 21 (b * 128 + 1)) y)) := fun y y1 y2 y3 y4 => by
      rcases hst.old y1 with e | ⟨y', b1, b2⟩
      · subst e
        right
        rcases hst.cs hnn hl with ⟨c, _⟩ | ⟨i, i1', i2', i3', _, _, e1, _, _, _, hr, hF⟩ | ⟨_, c, _⟩ | ⟨_, _, c, _⟩
        · have := nI_inj (by omega) (by omega) (c.symm.trans y3)
          omega
        · have : i = j := nI_inj (by omega) (by omega) (i2'.symm.trans y3)
          subst this
          have hN := h.nu hj
          rcases hr with ⟨c, _⟩ | ⟨c, _⟩ | ⟨c, _⟩ | ⟨c, _⟩ | ⟨_, _, q, r⟩ | ⟨c, _⟩
          · rw [y2] at c; exact absurd c (by decide)
          · rw [y2] at c; exact absurd c (by decide)
          · rw [y2] at c; exact absurd c (by decide)
          · rw [y2] at c; exact absurd c (by decide)
          · rw [y4] at r
            have hhv : ∀ z, Z = [z] → hvT z (dN T l 21 (b * 128 + 1)) → ∃ y ∈ S'.2.2.1, isHW g.ep l i (dN T l 21 (b * 128 + 1)) y := fun z e1 e2 => by
              obtain ⟨w, w1, w2⟩ := hst.new (z := z) (by rw [e1]; exact psl_new hlt128)
              obtain ⟨v0, v1, v2, v3, _⟩ := (q.2.1 z (by rw [e1]; exact List.mem_cons_self)).v
              refine ⟨w, w1, isHW.sm w2 ⟨v0, v1, ?_, by rw [v3]; exact hN.ep.1, e2⟩⟩
              rw [v2]
              have : dN S i 0 8 = g.mp g.ep := hN.ep.2.2.1
              rw [this]
              exact lds_nof h.2.2.1
            rcases r with ⟨z, r1, r2, r3, r4⟩ | r | ⟨r1, r2⟩
            · refine ⟨?_, fun _ => hhv z r3 r4⟩
              rw [r2]
              obtain ⟨s, s1, s2, _⟩ := r1
              exact ⟨s, s1, s2⟩
            · refine ⟨?_, fun hsb => ?_⟩
              · obtain ⟨s, s1, s2, _⟩ := r
                exact ⟨s, s1, s2⟩
              · exact absurd r (fun w => stb_1 (h'.nu hj) htn (keeps i _ hj ht0 hsb) w)
            · exfalso
              obtain ⟨K4, A4, Y4, w⟩ := f55_10 y2 hF
              have hE := store_e (Bg_X P g) hN.du (by rw [y4]; exact htn) (f3 i hj) w
              obtain ⟨s, s1, s2⟩ := hSL.fr h'.1.1.go (SU.b12 h'.1.1) (h'.nu hj)
              rcases r2 s s1 with w | w
              · exact w s2
              · exact w (hE s s1 s2)
          · rw [y2] at c; exact absurd c (by decide)
        · exact absurd (Or.inr (Or.inr (Or.inr (Or.inr (Or.inl y2))))) c
        · exact absurd (Or.inr (Or.inr (Or.inr (Or.inr (Or.inl y2))))) (c j hj y3)
      · exact Or.inl ⟨y', b1, by rw [b2.1]; exact y2, by rw [b2.1]; exact y3, by rw [b2.1]; exact y4⟩
    refine ⟨fun hf => ?_, fun hf => ?_⟩
    · rcases o1 hf with q | ⟨y, y1, y2, y3, y4⟩
      · exact Or.inl (keepm j _ hj ht0 q)
      · rcases hput y y1 y2 y3 y4 with w | ⟨w, _⟩
        · exact Or.inr w
        · exact Or.inl w
    · rcases o2 hf with q | ⟨y, y1, y2⟩ | ⟨⟨y, y1, y2, y3, y4⟩, q2⟩
      · exact Or.inl (l2 _ j q (by omega))
      · rcases hst.old y1 with e | ⟨y', b1, b2⟩
        · subst e
          have hn11 : ¬ isN (y.1 0) := fun z => by
            rw [y2.1] at z
            rcases z with z | z | z | z | z | z <;> exact absurd z (by decide)
          obtain ⟨_, hw⟩ := l3 hn11 y2.2.2.1
          refine Or.inl (hw j _ y2 hj ?_)
          have := (msO_f hmb).2
          rw [htk] at this ⊢
          rw [← f1.1 15 (by decide), ← f1.1 16 (by decide)] at this ⊢
          rcases ((h.lo hl).fdO hP.gg hk).1 with w | w
          · exact absurd w this
          · exact w
        · exact Or.inr (Or.inl ⟨y', b1, y2.sm b2⟩)
      · rcases hput y y1 y2 y3 y4 with w | ⟨_, w⟩
        · exact Or.inr (Or.inr ⟨w, keeps j _ hj ht0 q2⟩)
        · exact Or.inr (Or.inl (w q2))

/-! change -/
def rcO (T : TS) (r : Option Nat) (o : Nat) : TS := match r with
  | none => T
  | some i => T.rcd i o
def TS.wdt (T : TS) (g : Nat → Nat → Int32) : TS := ⟨T.ex, T.sz, T.nl, T.nm, T.vr, g⟩
/-- the table behind change: what is still to be sealed -/
def CH (ops : Nat → Mg) (o : Nat) (D D1 : Nat → Nat → Int32) (K1 : Int64) : Prop :=
  (D1 18 3 = 3) ∧
  (D1 18 4 = nI o) ∧
  (∀ x, x = 5 ∨ x = 6 → D1 18 x = D 18 x) ∧
  (HC D D1) ∧
  (D1 10 10 = D 10 10) ∧
  (∀ q, q < 10 ∨ q = 19 ∨ q = 20 → D1 q = D q) ∧
  (∃ (T1 : TS) (fi i0 q0 c : Nat) (r1 r2 : Option Nat) (g : Nat → Nat → Int32), TKD T1 D1 K1 ∧ D1 18 11 = nI c ∧ c ≤ 6 ∧ (c = 0 ∨ (fi < 48 ∧ i0 < 512 ∧ D1 11 fi = nI i0 ∧ D1 18 7 = nI fi ∧ D1 18 10 = nI q0 ∧ q0 + c ≤ 19)) ∧ fdP (D1 11) (D1 18 13) r1 ∧ fdP (D1 11) (D1 18 14) r2 ∧ tsp ops (o + 1) = (rcO (rcO (T1.ver i0 (fun p => q0 ≤ p ∧ p < q0 + c) (nI o)) r1 o) r2 o).wdt g ∧ (∀ j, j < c → stW (tsp ops (o + 1)) i0 (q0 + j) (fun x => D1 21 (j * 128 + x))) ∧ (∀ y, c * 128 ≤ y → y < 1152 → D1 21 y = 0) ∧ (∀ i, r1 = some i → r2 = some i → False))
theorem CH.st {ops : Nat → Mg} {o : Nat} {D D1 : Nat → Nat → Int32} {K1 : Int64} (h_ : CH ops o D D1 K1) : D1 18 3 = 3 := h_.1
theorem CH.f4 {ops : Nat → Mg} {o : Nat} {D D1 : Nat → Nat → Int32} {K1 : Int64} (h_ : CH ops o D D1 K1) : D1 18 4 = nI o := h_.2.1
theorem CH.f5 {ops : Nat → Mg} {o : Nat} {D D1 : Nat → Nat → Int32} {K1 : Int64} (h_ : CH ops o D D1 K1) : ∀ x, x = 5 ∨ x = 6 → D1 18 x = D 18 x := h_.2.2.1
theorem CH.hc {ops : Nat → Mg} {o : Nat} {D D1 : Nat → Nat → Int32} {K1 : Int64} (h_ : CH ops o D D1 K1) : HC D D1 := h_.2.2.2.1
theorem CH.an {ops : Nat → Mg} {o : Nat} {D D1 : Nat → Nat → Int32} {K1 : Int64} (h_ : CH ops o D D1 K1) : D1 10 10 = D 10 10 := h_.2.2.2.2.1
theorem CH.kq {ops : Nat → Mg} {o : Nat} {D D1 : Nat → Nat → Int32} {K1 : Int64} (h_ : CH ops o D D1 K1) : ∀ q, q < 10 ∨ q = 19 ∨ q = 20 → D1 q = D q := h_.2.2.2.2.2.1
theorem CH.ex {ops : Nat → Mg} {o : Nat} {D D1 : Nat → Nat → Int32} {K1 : Int64} (h_ : CH ops o D D1 K1) : ∃ (T1 : TS) (fi i0 q0 c : Nat) (r1 r2 : Option Nat) (g : Nat → Nat → Int32), TKD T1 D1 K1 ∧ D1 18 11 = nI c ∧ c ≤ 6 ∧ (c = 0 ∨ (fi < 48 ∧ i0 < 512 ∧ D1 11 fi = nI i0 ∧ D1 18 7 = nI fi ∧ D1 18 10 = nI q0 ∧ q0 + c ≤ 19)) ∧ fdP (D1 11) (D1 18 13) r1 ∧ fdP (D1 11) (D1 18 14) r2 ∧ tsp ops (o + 1) = (rcO (rcO (T1.ver i0 (fun p => q0 ≤ p ∧ p < q0 + c) (nI o)) r1 o) r2 o).wdt g ∧ (∀ j, j < c → stW (tsp ops (o + 1)) i0 (q0 + j) (fun x => D1 21 (j * 128 + x))) ∧ (∀ y, c * 128 ≤ y → y < 1152 → D1 21 y = 0) ∧ (∀ i, r1 = some i → r2 = some i → False) := h_.2.2.2.2.2.2
theorem ver_cg (T : TS) (i : Nat) (P Q : Nat → Prop) [DecidablePred P] [DecidablePred Q] (v : Int32) (h : ∀ p, P p ↔ Q p) : T.ver i P v = T.ver i Q v := by
  refine TS.eq (fun _ => rfl) (fun _ => rfl) (fun _ => rfl) (fun _ _ => rfl) (fun j p => ?_) (fun _ _ => rfl)
  show fup T.vr i (fun p => if P p then v else T.vr i p) j p = fup T.vr i (fun p => if Q p then v else T.vr i p) j p
  by_cases z : j = i
  · rw [z, fup_s, fup_s]
    by_cases q : P p
    · rw [if_pos q, if_pos ((h p).mp q)]
    · rw [if_neg q, if_neg (fun y => q ((h p).mpr y))]
  · rw [fup_n z, fup_n z]
theorem wdt_self (T : TS) : T = T.wdt T.dt := rfl
theorem tsp_some {ops : Nat → Mg} {o a : Nat} {T' : TS} (h : stp (tsp ops o) o (ops o) = some (a, T')) : tsp ops (o + 1) = T' := by
  show (match stp (tsp ops o) o (ops o) with | some x => x.2 | none => tsp ops o) = T'
  rw [h]
theorem stW_ext {T T' : TS} {i s : Nat} {w : Nat → Int32} (h : stW T i s w) (e : ∀ y, y < 448 → T.dt i (448 * s + y) = T'.dt i (448 * s + y)) : stW T' i s w := ⟨h.1, fun y hy => by rw [h.2 y hy, e y hy]⟩
theorem byt_sh (B : Nat → Int32) (j z : Nat) : bytA (fun x => B (j * 128 + x)) z = bytA B (j * 512 + z) := byt_ext (fun i _ => by
  show bt (B (j * 128 + z / 4)) _ = _
  rw [show (j * 512 + z) / 4 = j * 128 + z / 4 by omega, show (j * 512 + z) % 4 = z % 4 by omega])
/-- WRITE, APPEND: the blocks and the length (i0 at place fi) -/
theorem wr_lem {ops : Nat → Mg} {T : TS} {nn gg : Nat} {C me : Int32} {f u b : Nat → Int32} {Dz : Nat → Nat → Int32} {K A : Int64} {Y : List Mg} {fi i0 o sp c a : Nat} {tp : Nat → Int32}
    (hfi : fi < 48) (hi0 : i0 < 512) (ej : Dz 11 fi = nI i0) (e7 : Dz 18 7 = nI fi) (h : TKD T Dz K) (hz : T.sz i0 ≤ 8192)
    (s1 : sp ≤ 2048) (s2 : Dz 18 9 = nI sp) (s3 : Dz 18 11 = nI c) (s4 : sp = 0 → c = 0) (s5 : 0 < sp → Dz 19 1 = nI a ∧ a + sp ≤ 8192 ∧ Dz 18 10 = nI (a / 448) ∧ c = (a + sp - 1) / 448 - a / 448 + 1)
    (s6 : ∀ y, c * 128 ≤ y → y < 1152 → Dz 21 y = 0) (s7 : ∀ j, j < c → stW T i0 (a / 448 + j) (fun x => Dz 21 (j * 128 + x)))
    (htp : ∀ y, y < sp → bytA (Dz 20) (400 + y) = tp y) :
    ∃ D1 : Nat → Nat → Int32, bnS (F_107 nn gg C me f u b Dz K A Y 1) (fun D7 K7 A7 Y7 => bnS (F_108 nn gg C me f u b D7 K7 A7 Y7) (fun D8 K8 A8 Y8 => (D8, K8, A8, Y8))) = (D1, K, A, Y) ∧ (∀ x, x ≠ 13 → D1 18 x = Dz 18 x) ∧ D1 18 13 = nI fi ∧ (∀ q, q ≠ 12 → q ≠ 18 → q ≠ 21 → D1 q = Dz q) ∧
      ∃ (T1 : TS), TKD T1 D1 K ∧ (T.wrt i0 a sp o tp = ((T1.ver i0 (fun p => a / 448 ≤ p ∧ p < a / 448 + c) (nI o)).rcd i0 o).wdt (T.wrt i0 a sp o tp).dt) ∧ (∀ j, j < c → stW (T.wrt i0 a sp o tp) i0 (a / 448 + j) (fun x => D1 21 (j * 128 + x))) ∧ (∀ y, c * 128 ≤ y → y < 1152 → D1 21 y = 0) := by
  have c11 : (Dz 18 11).toNatClampNeg = c := by
    rw [s3]
    rcases Nat.eq_zero_or_pos sp with z | z
    · rw [s4 z]; rfl
    · obtain ⟨_, _, _, a4⟩ := s5 z
      exact nI_clamp (by omega)
  have hfile := h.at hfi hi0 ej
  rcases Nat.eq_zero_or_pos sp with z | hpos
  · -- nothing is written
    subst z
    have hc := s4 rfl
    subst hc
    have hF7 : F_107 nn gg C me f u b Dz K A Y 1 = (Dz, K, A, Y) := by
      unfold F_107
      rw [bnN_e, c11]
      rfl
    have hF8 : F_108 nn gg C me f u b Dz K A Y = (va_up Dz 18 (upd (Dz 18) 13 (nI fi)), K, A, Y) := by
      unfold F_108
      have c7 : (Dz 18 7).toNatClampNeg = fi := by rw [e7, nI_clamp (by omega)]
      have c9 : (Dz 18 9).toNatClampNeg = 0 := by rw [s2]; rfl
      rw [bnN_e, c7, bnN_e, bnN_e, c9, if_pos (show nI 0 ≤ 0 by decide)]
    rw [hF7, bnS_e, hF8, bnS_e]
    refine ⟨_, rfl, fun x hx => by rw [va_up_s, pk_un hx], by rw [va_up_s, pk_us], fun q _ h18 _ => va_up_n _ _ h18, T, ?_, ?_, fun j hj => absurd hj (by omega), fun y h1 h2 => by rw [va_up_n _ _ (by decide)]; exact s6 y h1 h2⟩
    · show TK _ (va_up Dz 18 _ 10 9) (va_up Dz 18 _ 11) (va_up Dz 18 _ 12) (va_up Dz 18 _ 13) (va_up Dz 18 _ 14) (va_up Dz 18 _ 15) (va_up Dz 18 _ 16) K
      rw [va_up_n _ _ (by decide), va_up_n _ _ (by decide), va_up_n _ _ (by decide), va_up_n _ _ (by decide), va_up_n _ _ (by decide), va_up_n _ _ (by decide), va_up_n _ _ (by decide)]
      exact h
    · rw [ver_no T i0 _ _ (fun p => by omega)]
      unfold TS.wrt
      rw [if_pos rfl]
      rfl
  · obtain ⟨t1, t2, t3, t4⟩ := s5 hpos
    obtain ⟨D7, r1, r2, r3, r4, r5⟩ := cs_lp (nn := nn) (gg := gg) (C := C) (me := me) (f := f) (u := u) (b := b) (K := K) (A := A) (Y := Y) s1 t2 hpos c 0 Dz (by omega) t1 s2
    have hF7 : F_107 nn gg C me f u b Dz K A Y 1 = (D7, K, A, Y) := by
      unfold F_107
      rw [bnN_e, c11]
      exact r1
    have e18 := r2 18 (by decide)
    have e19 := r2 19 (by decide)
    have e12 := r2 12 (by decide)
    have hF8 : F_108 nn gg C me f u b D7 K A Y = (va_up (va_up D7 12 (upd (D7 12) fi (nI (max (T.sz i0) (a + sp))))) 18 (upd (D7 18) 13 (nI fi)), K, A, Y) := by
      unfold F_108
      have c7 : (D7 18 7).toNatClampNeg = fi := by rw [e18, e7, nI_clamp (by omega)]
      have c9 : (D7 18 9).toNatClampNeg = sp := by rw [e18, s2, nI_clamp (by omega)]
      have c1 : (D7 19 1).toNatClampNeg = a := by rw [e19, t1, nI_clamp (by omega)]
      have cz : (D7 12 fi).toNatClampNeg = T.sz i0 := by rw [e12, hfile.1, nI_clamp (by omega)]
      rw [bnN_e, c7, bnN_e, cz, bnN_e, c9, if_neg (nI_nle hpos (by omega)), bnN_e, c1]
    rw [hF7, bnS_e, hF8, bnS_e]
    generalize hD1 : va_up (va_up D7 12 (upd (D7 12) fi (nI (max (T.sz i0) (a + sp))))) 18 (upd (D7 18) 13 (nI fi)) = D1
    have g18 : D1 18 = upd (Dz 18) 13 (nI fi) := by rw [← hD1, va_up_s, e18]
    have g12 : D1 12 = upd (Dz 12) fi (nI (max (T.sz i0) (a + sp))) := by rw [← hD1, va_up_n _ _ (by decide), va_up_s, e12]
    have gq : ∀ q, q ≠ 12 → q ≠ 18 → D1 q = D7 q := fun q h12 h18 => by rw [← hD1, va_up_n _ _ h18, va_up_n _ _ h12]
    have gz : ∀ q, q ≠ 12 → q ≠ 18 → q ≠ 21 → D1 q = Dz q := fun q h12 h18 h21 => by rw [gq q h12 h18, r2 q h21]
    have g21 : D1 21 = D7 21 := gq 21 (by decide) (by decide)
    refine ⟨D1, rfl, fun x hx => by rw [g18, pk_un hx], by rw [g18, pk_us], gz, T.siz i0 (max (T.sz i0) (a + sp)), ?_, ?_, fun j hj => ?_, fun y h1 h2 => ?_⟩
    · show TK _ (D1 10 9) (D1 11) (D1 12) (D1 13) (D1 14) (D1 15) (D1 16) K
      rw [gz 10 (by decide) (by decide) (by decide), gz 11 (by decide) (by decide) (by decide), g12, gz 13 (by decide) (by decide) (by decide), gz 14 (by decide) (by decide) (by decide), gz 15 (by decide) (by decide) (by decide), gz 16 (by decide) (by decide) (by decide)]
      exact h.siz hfi hi0 ej
    · rw [ver_cg _ i0 (fun p => a / 448 ≤ p ∧ p < a / 448 + c) (fun p => a / 448 ≤ p ∧ p ≤ (a + sp - 1) / 448) (nI o) (fun p => by omega)]
      unfold TS.wrt
      rw [if_neg (by omega)]
      rfl
    · obtain ⟨u1, u2⟩ := s7 j hj
      have hdt : ∀ y, (T.wrt i0 a sp o tp).dt i0 y = if a ≤ y ∧ y < a + sp then tp (y - a) else T.dt i0 y := fun y => by
        unfold TS.wrt
        rw [if_neg (by omega)]
        show fup T.dt i0 _ i0 y = _
        rw [fup_s]
      refine ⟨fun x h1 h2 => ?_, fun y hy => ?_⟩
      · show D1 21 (j * 128 + x) = 0
        rw [g21, r4 j x (by omega)]
        exact u1 x h1 h2
      · rw [byt_sh, g21, ← Nat.add_assoc, r3 j y hy, hdt]
        by_cases cc : a ≤ (a / 448 + j) * 448 + y ∧ (a / 448 + j) * 448 + y < a + sp
        · rw [if_pos (by omega), if_pos (by omega), htp _ (by omega)]
          congr 1
          omega
        · rw [if_neg (by omega), if_neg (by omega)]
          have := u2 y hy
          rw [byt_sh, ← Nat.add_assoc] at this
          exact this
    · rw [g21, r5 y (by omega)]
      exact s6 y h1 h2
/-- CUT -/
theorem cut_lp {T : TS} {nn gg : Nat} {C me : Int32} {f u b : Nat → Int32} {Dz : Nat → Nat → Int32} {K A : Int64} {Y : List Mg} {fi i0 a : Nat} (hfi : fi < 48) (hi0 : i0 < 512) (ha : a ≤ 8192) (ej : Dz 11 fi = nI i0) (e7 : Dz 18 7 = nI fi) (e1 : Dz 19 1 = nI a) :
    ∀ (k i : Nat) (D : Nat → Nat → Int32), i + k = 19 → (∀ q, q ≠ 16 → D q = Dz q) → TKD (T.ver i0 (fun p => p < i ∧ a ≤ p * 448) (-1)) D K → (∀ x, 960 ≤ x → D 16 x = Dz 16 x) → (∀ x, x < 960 → ¬ D 16 x < 0 → D 16 x = Dz 16 x) →
    ∃ D1 : Nat → Nat → Int32, G_109 nn gg C me f u b k i D K A Y = (D1, K, A, Y) ∧ (∀ q, q ≠ 12 → q ≠ 16 → q ≠ 18 → D1 q = Dz q) ∧ D1 18 = upd (Dz 18) 13 (nI fi) ∧ TKD ((T.ver i0 (fun p => p < 19 ∧ a ≤ p * 448) (-1)).siz i0 a) D1 K ∧ D1 16 960 = Dz 16 960 ∧ (∀ x, x < 960 → ¬ D1 16 x < 0 → D1 16 x = Dz 16 x)
  | 0, i, D, hi, hq, ht, h9, hh => by
    have : i = 19 := by omega
    subst this
    have c7 : (D 18 7).toNatClampNeg = fi := by rw [hq 18 (by decide), e7, nI_clamp (by omega)]
    have c1 : (D 19 1).toNatClampNeg = a := by rw [hq 19 (by decide), e1, nI_clamp (by omega)]
    unfold G_109
    rw [bnN_e, c7, bnN_e, c1]
    refine ⟨_, rfl, fun q h1 h2 h3 => by rw [va_up_n _ _ h3, va_up_n _ _ h1, hq q h2], by rw [va_up_s, hq 18 (by decide)], ?_, ?_, fun x hx hn => ?_⟩
    · show TK _ (va_up (va_up D 12 _) 18 _ 10 9) (va_up (va_up D 12 _) 18 _ 11) (va_up (va_up D 12 _) 18 _ 12) (va_up (va_up D 12 _) 18 _ 13) (va_up (va_up D 12 _) 18 _ 14) (va_up (va_up D 12 _) 18 _ 15) (va_up (va_up D 12 _) 18 _ 16) K
      rw [va_up_n _ _ (by decide), va_up_n _ _ (by decide), va_up_n _ _ (by decide), va_up_n _ _ (by decide), va_up_n _ _ (by decide), va_up_s, va_up_n _ _ (by decide), va_up_n _ _ (by decide), va_up_n _ _ (by decide), va_up_n _ _ (by decide), va_up_n _ _ (by decide), va_up_n _ _ (by decide), va_up_n _ _ (by decide), va_up_n _ _ (by decide)]
      exact ht.siz hfi hi0 (by rw [hq 11 (by decide)]; exact ej)
    · rw [va_up_n _ _ (by decide), va_up_n _ _ (by decide)]
      exact h9 960 (Nat.le_refl _)
    · rw [va_up_n _ _ (by decide), va_up_n _ _ (by decide)] at hn ⊢
      exact hh x hx hn
  | k + 1, i, D, hi, hq, ht, h9, hh => by
    have c7 : (D 18 7).toNatClampNeg = fi := by rw [hq 18 (by decide), e7, nI_clamp (by omega)]
    have c1 : (D 19 1).toNatClampNeg = a := by rw [hq 19 (by decide), e1, nI_clamp (by omega)]
    unfold G_109
    rw [bnN_e, c7, bnN_e, c1]
    by_cases c : nI (i * 448) < nI a
    · rw [if_pos c]
      have c' := (nI_ltI (by omega) (by omega)).mp c
      refine cut_lp hfi hi0 ha ej e7 e1 k (i + 1) D (by omega) hq ?_ h9 hh
      rw [ver_cg T i0 (fun p => p < i + 1 ∧ a ≤ p * 448) (fun p => p < i ∧ a ≤ p * 448) (-1) (fun p => ⟨fun ⟨z1, z2⟩ => ⟨by
        rcases Nat.lt_or_ge p i with y | y
        · exact y
        · have : p = i := by omega
          subst this; omega, z2⟩, fun ⟨z1, z2⟩ => ⟨by omega, z2⟩⟩)]
      exact ht
    · rw [if_neg c]
      have c' : ¬ i * 448 < a := fun z => c ((nI_ltI (by omega) (by omega)).mpr z)
      refine cut_lp hfi hi0 ha ej e7 e1 k (i + 1) _ (by omega) (fun q h => by rw [va_up_n _ _ h]; exact hq q h) ?_ (fun x hx => by rw [va_up_s, pk_un (by omega)]; exact h9 x hx) (fun x hx hn => ?_)
      · have := ht.ver1 (v := -1) hfi hi0 (show i < 20 by omega) (by rw [hq 11 (by decide)]; exact ej)
        rw [ver_ver T i0 _ (fun q => q = i) (fun p => p < i + 1 ∧ a ≤ p * 448) (-1) (fun p => ⟨fun ⟨z1, z2⟩ => by
          rcases Nat.lt_or_ge p i with y | y
          · exact Or.inl ⟨y, z2⟩
          · exact Or.inr (by omega), fun z => by
          rcases z with ⟨z1, z2⟩ | z
          · exact ⟨by omega, z2⟩
          · subst z; exact ⟨by omega, by omega⟩⟩)] at this
        show TK _ (va_up D 16 _ 10 9) (va_up D 16 _ 11) (va_up D 16 _ 12) (va_up D 16 _ 13) (va_up D 16 _ 14) (va_up D 16 _ 15) (va_up D 16 _ 16) K
        rw [va_up_n _ _ (by decide), va_up_n _ _ (by decide), va_up_n _ _ (by decide), va_up_n _ _ (by decide), va_up_n _ _ (by decide), va_up_n _ _ (by decide), va_up_s]
        exact this
      · rw [va_up_s] at hn ⊢
        by_cases y : x = fi * 20 + i
        · rw [y, pk_us] at hn
          exact absurd (by decide) hn
        · rw [pk_un y] at hn ⊢
          exact hh x hx hn

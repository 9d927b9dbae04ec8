/-! sealItems: the new ITEMS of an OPERATION -/
def tgN (i p v : Nat) : Nat := (i * 20 + p) * 512 + v
theorem tgN_d {i p v : Nat} (hp : p < 20) (hv : v < 512) : tgN i p v / 10240 = i ∧ tgN i p v / 512 % 20 = p ∧ tgN i p v % 512 = v := by
  unfold tgN
  omega
theorem tgN_e {k : Nat} : tgN (k / 10240) (k / 512 % 20) (k % 512) = k := by
  unfold tgN
  omega
theorem tgA_v {jf vf : Nat → Int32} {f p i v : Nat} (hf : f < 48) (hp : p < 20) (e : jf f = nI i) (ev : vf (f * 20 + p) = nI v) : tgA jf vf (f * 20 + p) = nI (tgN i p v) := by
  unfold tgA tgN
  rw [if_neg (by omega), show (f * 20 + p) / 20 = f by omega, show (f * 20 + p) % 20 = p by omega, e, ev, show (20 : Int32) = nI 20 from rfl, show (512 : Int32) = nI 512 from rfl, nI_mul, nI_add, nI_mul, nI_add]
theorem tgA_r {jf vf : Nat → Int32} {v : Nat} (ev : vf 960 = nI v) : tgA jf vf 960 = nI (tgN 512 0 v) := by
  unfold tgA tgN
  rw [if_pos rfl, ev, show (10240 : Int32) = nI 10240 from rfl, show (512 : Int32) = nI 512 from rfl, nI_mul, nI_add]
/-- what a RECORD says -/
def recW (T : TS) (i x : Nat) : Int32 := if x = 15 then nI (T.sz i) else if x = 16 then nI (T.nl i) else if 17 ≤ x ∧ x < 67 then T.nm i (x - 17) else if 67 ≤ x ∧ x < 86 then T.vr i (x - 67) else 0
/-- one VERSION -/
theorem TK.ver1 {T : TS} {fl : Int32} {jf zf nf mf fo vf : Nat → Int32} {K : Int64} (h : TK T fl jf zf nf mf fo vf K) {f i p : Nat} {v : Int32} (hf : f < 48) (hi : i < 512) (hp : p < 20) (e : jf f = nI i) : TK (T.ver i (fun q => q = p) v) fl jf zf nf mf fo (upd vf (f * 20 + p) v) K := by
  obtain ⟨a, b, c, d⟩ := h.at hf hi e
  have := h.file (zf' := zf) (nf' := nf) (mf' := mf) (vf' := upd vf (f * 20 + p) v) (z := T.sz i) (l := T.nl i) (w := T.nm i) (V := fun q => if q = p then v else T.vr i q) (dt := T.dt) hf hi e (fun _ _ => rfl) a (fun _ _ => rfl) b (fun _ _ _ _ _ => rfl) c (fun g q hg hq hgf => pk_un (by omega)) (fun q hq => by
    by_cases z : q = p
    · rw [z, pk_us, if_pos rfl]
    · rw [pk_un (by omega), if_neg z]
      exact d q hq)
  have e2 : T.ver i (fun q => q = p) v = ⟨T.ex, fup T.sz i (T.sz i), fup T.nl i (T.nl i), fup T.nm i (T.nm i), fup T.vr i (fun q => if q = p then v else T.vr i q), T.dt⟩ := by
    refine TS.eq (fun _ => rfl) (fun j => ?_) (fun j => ?_) (fun j x => ?_) (fun _ _ => rfl) (fun _ _ => rfl)
    · show T.sz j = fup T.sz i (T.sz i) j
      by_cases z : j = i
      · rw [z, fup_s]
      · rw [fup_n z]
    · show T.nl j = fup T.nl i (T.nl i) j
      by_cases z : j = i
      · rw [z, fup_s]
      · rw [fup_n z]
    · show T.nm j x = fup T.nm i (T.nm i) j x
      by_cases z : j = i
      · rw [z, fup_s]
      · rw [fup_n z]
  rw [e2]
  exact this
theorem ver_ver (T : TS) (i : Nat) (P Q R : Nat → Prop) [DecidablePred P] [DecidablePred Q] [DecidablePred R] (v : Int32) (h : ∀ p, R p ↔ P p ∨ Q p) : (T.ver i P v).ver i Q v = T.ver i R v := by
  refine TS.eq (fun _ => rfl) (fun _ => rfl) (fun _ => rfl) (fun _ _ => rfl) (fun j p => ?_) (fun _ _ => rfl)
  show fup (fup T.vr i _) i (fun q => if Q q then v else fup T.vr i (fun p => if P p then v else T.vr i p) i q) j p = fup T.vr i (fun p => if R p then v else T.vr i p) j p
  by_cases z : j = i
  · rw [z, fup_s, fup_s, fup_s]
    by_cases q : Q p
    · rw [if_pos q, if_pos ((h p).mpr (Or.inr q))]
    · rw [if_neg q]
      by_cases r : P p
      · rw [if_pos r, if_pos ((h p).mpr (Or.inl r))]
      · rw [if_neg r, if_neg (fun y => ((h p).mp y).elim r q)]
  · rw [fup_n z, fup_n z, fup_n z]
theorem ver_no (T : TS) (i : Nat) (P : Nat → Prop) [DecidablePred P] (v : Int32) (h : ∀ p, ¬ P p) : T.ver i P v = T := by
  refine TS.eq (fun _ => rfl) (fun _ => rfl) (fun _ => rfl) (fun _ _ => rfl) (fun j p => ?_) (fun _ _ => rfl)
  show fup T.vr i (fun p => if P p then v else T.vr i p) j p = T.vr j p
  by_cases z : j = i
  · rw [z, fup_s, if_neg (h p)]
  · rw [fup_n z]
/-- holders of ITEMS: those that are new have none -/
def HR (D0 D : Nat → Nat → Int32) : Prop := ∀ a, a < 961 → ¬ D 16 a < 0 → (D 17 a = 0 ∨ (D 17 a = D0 17 a ∧ tgA (D 11) (D 16) a = tgA (D0 11) (D0 16) a ∧ ¬ D0 16 a < 0))
theorem sealdW (B : Nat → Int32) (p : Nat) (t : Int32) : seald B p t p = (1 : Int32) <<< (24 &&& 31) ∧ seald B p t (p + 1) = t ∧ seald B p t (p + 127) = 1 ∧ ∀ y, y ≠ p → y ≠ p + 1 → y ≠ p + 127 → seald B p t y = B y := by
  unfold seald stmp
  refine ⟨?_, ?_, ?_, fun y h1 h2 h3 => ?_⟩
  · rw [pk_un (by omega), pk_us]
  · rw [pk_un (by omega), pk_un (by omega), pk_us]
  · rw [pk_us]
  · rw [pk_un h3, pk_un h1, pk_un h2]
/-- the STRIPES -/
def SG (T : TS) (D0 : Nat → Nat → Int32) (K : Int64) (fi i0 q0 o i : Nat) (D : Nat → Nat → Int32) : Prop :=
  (∀ q, q ≠ 16 → q ≠ 17 → q ≠ 21 → D q = D0 q) ∧
  (TKD (T.ver i0 (fun p => q0 ≤ p ∧ p < q0 + i) (nI o)) D K) ∧
  (D 16 960 = D0 16 960 ∧ D 17 960 = D0 17 960) ∧
  (∀ a, a < 960 → (D 17 a = D0 17 a ∧ D 16 a = D0 16 a) ∨ D 17 a = 0) ∧
  (∀ j, j < i → D 21 (j * 128) = (1 : Int32) <<< (24 &&& 31) ∧ D 21 (j * 128 + 1) = nI (tgN i0 (q0 + j) o) ∧ ∀ x, 2 ≤ x → x < 127 → D 21 (j * 128 + x) = D0 21 (j * 128 + x)) ∧
  (∀ y, i * 128 ≤ y → D 21 y = D0 21 y)
theorem SG.k {T : TS} {D0 : Nat → Nat → Int32} {K : Int64} {fi i0 q0 o i : Nat} {D : Nat → Nat → Int32} (h_ : SG T D0 K fi i0 q0 o i D) : ∀ q, q ≠ 16 → q ≠ 17 → q ≠ 21 → D q = D0 q := h_.1
theorem SG.t {T : TS} {D0 : Nat → Nat → Int32} {K : Int64} {fi i0 q0 o i : Nat} {D : Nat → Nat → Int32} (h_ : SG T D0 K fi i0 q0 o i D) : TKD (T.ver i0 (fun p => q0 ≤ p ∧ p < q0 + i) (nI o)) D K := h_.2.1
theorem SG.r {T : TS} {D0 : Nat → Nat → Int32} {K : Int64} {fi i0 q0 o i : Nat} {D : Nat → Nat → Int32} (h_ : SG T D0 K fi i0 q0 o i D) : D 16 960 = D0 16 960 ∧ D 17 960 = D0 17 960 := h_.2.2.1
theorem SG.h {T : TS} {D0 : Nat → Nat → Int32} {K : Int64} {fi i0 q0 o i : Nat} {D : Nat → Nat → Int32} (h_ : SG T D0 K fi i0 q0 o i D) : ∀ a, a < 960 → (D 17 a = D0 17 a ∧ D 16 a = D0 16 a) ∨ D 17 a = 0 := h_.2.2.2.1
theorem SG.s {T : TS} {D0 : Nat → Nat → Int32} {K : Int64} {fi i0 q0 o i : Nat} {D : Nat → Nat → Int32} (h_ : SG T D0 K fi i0 q0 o i D) : ∀ j, j < i → D 21 (j * 128) = (1 : Int32) <<< (24 &&& 31) ∧ D 21 (j * 128 + 1) = nI (tgN i0 (q0 + j) o) ∧ ∀ x, 2 ≤ x → x < 127 → D 21 (j * 128 + x) = D0 21 (j * 128 + x) := h_.2.2.2.2.1
theorem SG.n {T : TS} {D0 : Nat → Nat → Int32} {K : Int64} {fi i0 q0 o i : Nat} {D : Nat → Nat → Int32} (h_ : SG T D0 K fi i0 q0 o i D) : ∀ y, i * 128 ≤ y → D 21 y = D0 21 y := h_.2.2.2.2.2
theorem seal_lp {T : TS} {nn gg : Nat} {C me : Int32} {f u b : Nat → Int32} {D0 : Nat → Nat → Int32} {K A : Int64} {Y : List Mg} {fi i0 q0 o c : Nat} (ho : o < 512) (h4 : D0 18 4 = nI o) (hfi : c = 0 ∨ (fi < 48 ∧ i0 < 512 ∧ D0 11 fi = nI i0 ∧ D0 18 7 = nI fi ∧ D0 18 10 = nI q0 ∧ q0 + c ≤ 19)) (hc : c ≤ 6) :
    ∀ (k i : Nat) (D : Nat → Nat → Int32), i + k = c → SG T D0 K fi i0 q0 o i D →
    ∃ D' : Nat → Nat → Int32, G_114 nn gg C me f u b k i D K A Y = H_114 nn gg C me f u b 2 6 D' K A Y ∧ SG T D0 K fi i0 q0 o c D'
  | 0, i, D, hi, h => ⟨D, rfl, by rw [show c = i by omega]; exact h⟩
  | k + 1, i, D, hi, h => by
    rcases hfi with z | ⟨f1, f2, f3, f4, f5, f6⟩
    · omega
    have c4 : (D 18 4).toNatClampNeg = o := by rw [h.k 18 (by decide) (by decide) (by decide), h4, nI_clamp (by omega)]
    have c10 : (D 18 10).toNatClampNeg = q0 := by rw [h.k 18 (by decide) (by decide) (by decide), f5, nI_clamp (by omega)]
    have c7 : (D 18 7).toNatClampNeg = fi := by rw [h.k 18 (by decide) (by decide) (by decide), f4, nI_clamp (by omega)]
    have e11 : D 11 = D0 11 := h.k 11 (by decide) (by decide) (by decide)
    unfold G_114
    rw [bnN_e, c4, bnN_e, c10, bnN_e, c7]
    refine seal_lp ho h4 (Or.inr ⟨f1, f2, f3, f4, f5, f6⟩) hc k (i + 1) _ (by omega) ?_
    have htag : tgA (D 11) (upd (D 16) (fi * 20 + (q0 + i)) (nI o)) (fi * 20 + (q0 + i)) = nI (tgN i0 (q0 + i) o) := tgA_v f1 (by omega) (by rw [e11]; exact f3) pk_us
    rw [htag]
    obtain ⟨w1, w2, w3, w4⟩ := sealdW (D 21) (i * 128) (nI (tgN i0 (q0 + i) o))
    generalize hD1 : va_up (va_up (va_up D 16 (upd (D 16) (fi * 20 + (q0 + i)) (nI o))) 17 (upd (D 17) (fi * 20 + (q0 + i)) 0)) 21 (seald (D 21) (i * 128) (nI (tgN i0 (q0 + i) o))) = D1
    have q1 : ∀ q, q ≠ 16 → q ≠ 17 → q ≠ 21 → D1 q = D q := fun q a b c => by rw [← hD1, va_up_n _ _ c, va_up_n _ _ b, va_up_n _ _ a]
    have g16 : D1 16 = upd (D 16) (fi * 20 + (q0 + i)) (nI o) := by rw [← hD1, va_up_n _ _ (by decide), va_up_n _ _ (by decide), va_up_s]
    have g17 : D1 17 = upd (D 17) (fi * 20 + (q0 + i)) 0 := by rw [← hD1, va_up_n _ _ (by decide), va_up_s]
    have g21 : D1 21 = seald (D 21) (i * 128) (nI (tgN i0 (q0 + i) o)) := by rw [← hD1, va_up_s]
    refine ⟨?_, ?_, ?_, ?_, ?_, ?_⟩
    · exact fun q a b c => by rw [q1 q a b c, h.k q a b c]
    · exact by
        have := h.t.ver1 (v := nI o) f1 f2 (show q0 + i < 20 by omega) (by rw [e11]; exact f3)
        rw [ver_ver T i0 _ (fun q => q = q0 + i) (fun p => q0 ≤ p ∧ p < q0 + (i + 1)) (nI o) (fun p => by omega)] at this
        show TK _ (D1 10 9) (D1 11) (D1 12) (D1 13) (D1 14) (D1 15) (D1 16) K
        rw [q1 10 (by decide) (by decide) (by decide), q1 11 (by decide) (by decide) (by decide), q1 12 (by decide) (by decide) (by decide), q1 13 (by decide) (by decide) (by decide), q1 14 (by decide) (by decide) (by decide), q1 15 (by decide) (by decide) (by decide), g16]
        exact this
    · exact by rw [g16, g17, pk_un (by omega), pk_un (by omega)]; exact h.r
    · exact fun a ha => by
        rw [g16, g17]
        by_cases z : a = fi * 20 + (q0 + i)
        · rw [z, pk_us]; exact Or.inr rfl
        · rw [pk_un z, pk_un z]; exact h.h a ha
    · exact fun j hj => by
        rw [g21]
        by_cases z : j = i
        · rw [z]
          exact ⟨w1, w2, fun x hx hx2 => by rw [w4 _ (by omega) (by omega) (by omega)]; exact h.n _ (by omega)⟩
        · obtain ⟨a1, a2, a3⟩ := h.s j (by omega)
          exact ⟨by rw [w4 _ (by omega) (by omega) (by omega)]; exact a1, by rw [w4 _ (by omega) (by omega) (by omega)]; exact a2, fun x hx hx2 => by rw [w4 _ (by omega) (by omega) (by omega)]; exact a3 x hx hx2⟩
    · exact fun y hy => by rw [g21, w4 y (by omega) (by omega) (by omega)]; exact h.n y (by omega)
/-- a RECORD -/
def SH (T : TS) (D0 : Nat → Nat → Int32) (K : Int64) (g i0 o j : Nat) (D : Nat → Nat → Int32) : Prop :=
  (∀ q, q ≠ 16 → q ≠ 17 → q ≠ 21 → D q = D0 q) ∧
  (TKD (T.rcd i0 o) D K) ∧
  (D 16 960 = D0 16 960 ∧ D 17 960 = D0 17 960) ∧
  (∀ a, a < 960 → (D 17 a = D0 17 a ∧ D 16 a = D0 16 a) ∨ D 17 a = 0) ∧
  (D 21 (j * 128) = (1 : Int32) <<< (24 &&& 31) ∧ D 21 (j * 128 + 1) = nI (tgN i0 19 o) ∧ ∀ x, 2 ≤ x → x < 127 → D 21 (j * 128 + x) = recW T i0 x) ∧
  (∀ y, y < j * 128 ∨ j * 128 + 128 ≤ y → D 21 y = D0 21 y)
theorem SH.k {T : TS} {D0 : Nat → Nat → Int32} {K : Int64} {g i0 o j : Nat} {D : Nat → Nat → Int32} (h_ : SH T D0 K g i0 o j D) : ∀ q, q ≠ 16 → q ≠ 17 → q ≠ 21 → D q = D0 q := h_.1
theorem SH.t {T : TS} {D0 : Nat → Nat → Int32} {K : Int64} {g i0 o j : Nat} {D : Nat → Nat → Int32} (h_ : SH T D0 K g i0 o j D) : TKD (T.rcd i0 o) D K := h_.2.1
theorem SH.r {T : TS} {D0 : Nat → Nat → Int32} {K : Int64} {g i0 o j : Nat} {D : Nat → Nat → Int32} (h_ : SH T D0 K g i0 o j D) : D 16 960 = D0 16 960 ∧ D 17 960 = D0 17 960 := h_.2.2.1
theorem SH.h {T : TS} {D0 : Nat → Nat → Int32} {K : Int64} {g i0 o j : Nat} {D : Nat → Nat → Int32} (h_ : SH T D0 K g i0 o j D) : ∀ a, a < 960 → (D 17 a = D0 17 a ∧ D 16 a = D0 16 a) ∨ D 17 a = 0 := h_.2.2.2.1
theorem SH.s {T : TS} {D0 : Nat → Nat → Int32} {K : Int64} {g i0 o j : Nat} {D : Nat → Nat → Int32} (h_ : SH T D0 K g i0 o j D) : D 21 (j * 128) = (1 : Int32) <<< (24 &&& 31) ∧ D 21 (j * 128 + 1) = nI (tgN i0 19 o) ∧ ∀ x, 2 ≤ x → x < 127 → D 21 (j * 128 + x) = recW T i0 x := h_.2.2.2.2.1
theorem SH.n {T : TS} {D0 : Nat → Nat → Int32} {K : Int64} {g i0 o j : Nat} {D : Nat → Nat → Int32} (h_ : SH T D0 K g i0 o j D) : ∀ y, y < j * 128 ∨ j * 128 + 128 ≤ y → D 21 y = D0 21 y := h_.2.2.2.2.2
theorem seal_rec {T : TS} {D : Nat → Nat → Int32} {K : Int64} {g i0 o j : Nat} (hg : g < 48) (hi : i0 < 512) (ho : o < 512) (ht : TKD T D K) (e : D 11 g = nI i0) (hz : ∀ x, x < 128 → D 21 (j * 128 + x) = 0) :
    SH T D K g i0 o j (va_up (va_up (va_up D 16 (upd (D 16) (g * 20 + 19) (nI o))) 17 (upd (D 17) (g * 20 + 19) 0)) 21 (seald (wrD (D 12) (D 13) (D 14) (upd (D 16) (g * 20 + 19) (nI o)) (D 21) g (j * 128)) (j * 128) (tgA (D 11) (upd (D 16) (g * 20 + 19) (nI o)) (g * 20 + 19)))) := by
  have htag : tgA (D 11) (upd (D 16) (g * 20 + 19) (nI o)) (g * 20 + 19) = nI (tgN i0 19 o) := tgA_v hg (by decide) e pk_us
  rw [htag]
  generalize hB : wrD (D 12) (D 13) (D 14) (upd (D 16) (g * 20 + 19) (nI o)) (D 21) g (j * 128) = B
  obtain ⟨w1, w2, w3, w4⟩ := sealdW B (j * 128) (nI (tgN i0 19 o))
  obtain ⟨a1, a2, a3, a4⟩ := ht.at hg hi e
  generalize hD1 : va_up (va_up (va_up D 16 (upd (D 16) (g * 20 + 19) (nI o))) 17 (upd (D 17) (g * 20 + 19) 0)) 21 (seald B (j * 128) (nI (tgN i0 19 o))) = D1
  have q1 : ∀ q, q ≠ 16 → q ≠ 17 → q ≠ 21 → D1 q = D q := fun q a b c => by rw [← hD1, va_up_n _ _ c, va_up_n _ _ b, va_up_n _ _ a]
  have g16 : D1 16 = upd (D 16) (g * 20 + 19) (nI o) := by rw [← hD1, va_up_n _ _ (by decide), va_up_n _ _ (by decide), va_up_s]
  have g17 : D1 17 = upd (D 17) (g * 20 + 19) 0 := by rw [← hD1, va_up_n _ _ (by decide), va_up_s]
  have g21 : D1 21 = seald B (j * 128) (nI (tgN i0 19 o)) := by rw [← hD1, va_up_s]
  have hBw : ∀ x, x < 128 → B (j * 128 + x) = (if x = 15 then D 12 g else if x = 16 then D 13 g else if 17 ≤ x ∧ x < 67 then D 14 (g * 50 + (x - 17)) else if 67 ≤ x ∧ x < 86 then upd (D 16) (g * 20 + 19) (nI o) (g * 20 + (x - 67)) else 0) := fun x hx => by
    rw [← hB]
    unfold wrD
    by_cases c1 : 67 ≤ x ∧ x < 86
    · rw [pk_cpy_in (by omega) (by omega), if_neg (by omega), if_neg (by omega), if_neg (by omega), if_pos c1]
      congr 1
      omega
    · rw [pk_cpy_out (by omega)]
      by_cases c2 : 17 ≤ x ∧ x < 67
      · rw [pk_cpy_in (by omega) (by omega), if_neg (by omega), if_neg (by omega), if_pos c2]
        congr 1
        omega
      · rw [pk_cpy_out (by omega)]
        by_cases c3 : x = 16
        · rw [c3, pk_us, if_neg (by omega), if_pos rfl]
        · rw [pk_un (by omega)]
          by_cases c4 : x = 15
          · rw [c4, pk_us, if_pos rfl]
          · rw [pk_un (by omega), if_neg c4, if_neg c3, if_neg c2, if_neg c1]
            exact hz x hx
  have hBo : ∀ y, y < j * 128 ∨ j * 128 + 128 ≤ y → B y = D 21 y := fun y hy => by
    rw [← hB]
    unfold wrD
    rw [pk_cpy_out (by omega), pk_cpy_out (by omega), pk_un (by omega), pk_un (by omega)]
  refine ⟨?_, ?_, ?_, ?_, ?_, ?_⟩
  · exact q1
  · exact by
      have := ht.ver1 (v := nI o) hg hi (show 19 < 20 by decide) e
      show TK _ (D1 10 9) (D1 11) (D1 12) (D1 13) (D1 14) (D1 15) (D1 16) K
      rw [q1 10 (by decide) (by decide) (by decide), q1 11 (by decide) (by decide) (by decide), q1 12 (by decide) (by decide) (by decide), q1 13 (by decide) (by decide) (by decide), q1 14 (by decide) (by decide) (by decide), q1 15 (by decide) (by decide) (by decide), g16]
      exact this
  · exact by rw [g16, g17, pk_un (by omega), pk_un (by omega)]; exact ⟨rfl, rfl⟩
  · exact fun a ha => by
      rw [g16, g17]
      by_cases z : a = g * 20 + 19
      · rw [z, pk_us]; exact Or.inr rfl
      · rw [pk_un z, pk_un z]; exact Or.inl ⟨rfl, rfl⟩
  · exact by
      rw [g21]
      refine ⟨w1, w2, fun x hx hx2 => ?_⟩
      rw [w4 _ (by omega) (by omega) (by omega), hBw x (by omega)]
      unfold recW
      by_cases c1 : x = 15
      · rw [if_pos c1, if_pos c1, a1]
      rw [if_neg c1, if_neg c1]
      by_cases c2 : x = 16
      · rw [if_pos c2, if_pos c2, a2]
      rw [if_neg c2, if_neg c2]
      by_cases c3 : 17 ≤ x ∧ x < 67
      · rw [if_pos c3, if_pos c3, a3 _ (by omega)]
      rw [if_neg c3, if_neg c3]
      by_cases c4 : 67 ≤ x ∧ x < 86
      · rw [if_pos c4, if_pos c4, pk_un (by omega), a4 _ (by omega)]
      · rw [if_neg c4, if_neg c4]
  · exact fun y hy => by rw [g21, w4 y (by omega) (by omega) (by omega)]; exact hBo y hy

/-! what an OPERATION does to the table and to the blocks -/
/-- copySpan, to the blocks -/
theorem cs_lp {nn gg : Nat} {C me : Int32} {f u b : Nat → Int32} {K A : Int64} {Y : List Mg} {a sp : Nat} (hsp : sp ≤ 2048) (ha : a + sp ≤ 8192) (h0 : 0 < sp) :
    ∀ (k i : Nat) (D : Nat → Nat → Int32), i + k = (a + sp - 1) / 448 - a / 448 + 1 → D 19 1 = nI a → D 18 9 = nI sp →
    ∃ D' : Nat → Nat → Int32, G_107 nn gg C me f u b 1 k i D K A Y = (D', K, A, Y) ∧ (∀ q, q ≠ 21 → D' q = D q) ∧
      (∀ j y, y < 448 → bytA (D' 21) (j * 512 + 60 + y) = if i ≤ j ∧ j < i + k ∧ a ≤ (a / 448 + j) * 448 + y ∧ (a / 448 + j) * 448 + y < a + sp then bytA (D 20) (400 + ((a / 448 + j) * 448 + y - a)) else bytA (D 21) (j * 512 + 60 + y)) ∧
      (∀ j x, x < 15 ∨ x = 127 → D' 21 (j * 128 + x) = D 21 (j * 128 + x)) ∧ (∀ z, (i + k) * 128 ≤ z → D' 21 z = D 21 z)
  | 0, i, D, hi, e1, e9 => ⟨D, rfl, fun _ _ => rfl, fun j y hy => by rw [if_neg (by omega)], fun _ _ _ => rfl, fun _ _ => rfl⟩
  | k + 1, i, D, hi, e1, e9 => by
    have c1 : (D 19 1).toNatClampNeg = a := by rw [e1, nI_clamp (by omega)]
    have c9 : (D 18 9).toNatClampNeg = sp := by rw [e9, nI_clamp (by omega)]
    unfold G_107
    rw [bnN_e, c1, bnN_e, c9, if_neg (by decide)]
    generalize hB : mvF (D 20) (400 + max a ((a / 448 + i) * 448) - a) (i * 512 + 60 + max a ((a / 448 + i) * 448) - ((a / 448 + i) * 448)) (min (a + sp) (((a / 448 + i) * 448) + 448) - max a ((a / 448 + i) * 448)) (D 21) = B
    obtain ⟨D', r1, r2, r3, r4, r5⟩ := cs_lp (nn := nn) (gg := gg) (C := C) (me := me) (f := f) (u := u) (b := b) (K := K) (A := A) (Y := Y) hsp ha h0 k (i + 1) (va_up D 21 B) (by omega) (by rw [va_up_n _ _ (by decide)]; exact e1) (by rw [va_up_n _ _ (by decide)]; exact e9)
    rw [va_up_s] at r3 r4 r5
    rw [va_up_n _ _ (by decide)] at r3
    have hby : ∀ z, bytA B z = if i * 512 + 60 + max a ((a / 448 + i) * 448) - ((a / 448 + i) * 448) ≤ z ∧ z < i * 512 + 60 + max a ((a / 448 + i) * 448) - ((a / 448 + i) * 448) + (min (a + sp) (((a / 448 + i) * 448) + 448) - max a ((a / 448 + i) * 448)) then bytA (D 20) (400 + max a ((a / 448 + i) * 448) - a + (z - (i * 512 + 60 + max a ((a / 448 + i) * 448) - ((a / 448 + i) * 448)))) else bytA (D 21) z := fun z => by rw [← hB]; exact mvF_byt _ _ _ _ _ _
    have hwo : ∀ z, z < i * 128 + 15 ∨ i * 128 + 127 ≤ z → B z = D 21 z := fun z hz => by
      rw [← hB]
      exact mvF_out (by omega)
    refine ⟨D', r1, fun q hq => by rw [r2 q hq, va_up_n _ _ hq], fun j y hy => ?_, fun j x hx => ?_, fun z hz => ?_⟩
    · rw [r3 j y hy, hby]
      by_cases ej : j = i
      · subst ej
        rw [if_neg (by omega)]
        by_cases c : a ≤ (a / 448 + j) * 448 + y ∧ (a / 448 + j) * 448 + y < a + sp
        · rw [if_pos (by omega), if_pos (by omega)]
          congr 1
          omega
        · rw [if_neg (by omega), if_neg (by omega)]
      · rw [if_neg (show ¬ (i * 512 + 60 + max a ((a / 448 + i) * 448) - ((a / 448 + i) * 448) ≤ j * 512 + 60 + y ∧ j * 512 + 60 + y < i * 512 + 60 + max a ((a / 448 + i) * 448) - ((a / 448 + i) * 448) + (min (a + sp) (((a / 448 + i) * 448) + 448) - max a ((a / 448 + i) * 448))) by omega)]
        by_cases c : i + 1 ≤ j ∧ j < i + 1 + k ∧ a ≤ (a / 448 + j) * 448 + y ∧ (a / 448 + j) * 448 + y < a + sp
        · rw [if_pos c, if_pos (by omega)]
        · rw [if_neg c, if_neg (by omega)]
    · rw [r4 j x hx]
      exact hwo _ (by omega)
    · rw [r5 z (by omega)]
      exact hwo _ (by omega)
theorem TK.dat {T : TS} {fl : Int32} {jf zf nf mf fo vf : Nat → Int32} {K : Int64} (h : TK T fl jf zf nf mf fo vf K) (i : Nat) (g : Nat → Int32) : TK (T.dat i g) fl jf zf nf mf fo vf K := ⟨⟨h.1.b1, h.1.b2, h.1.c1, h.1.r1, h.1.k1, h.1.u1, h.1.kb⟩, h.2⟩
theorem TK.siz {T : TS} {fl : Int32} {jf zf nf mf fo vf : Nat → Int32} {K : Int64} (h : TK T fl jf zf nf mf fo vf K) {f i z : Nat} (hf : f < 48) (hi : i < 512) (e : jf f = nI i) : TK (T.siz i z) fl jf (upd zf f (nI z)) nf mf fo vf K := by
  obtain ⟨a, b, c, d⟩ := h.at hf hi e
  have := h.file (zf' := upd zf f (nI z)) (nf' := nf) (mf' := mf) (vf' := vf) (z := z) (l := T.nl i) (w := T.nm i) (V := T.vr i) (dt := T.dt) hf hi e (fun g hg => pk_un hg) pk_us (fun _ _ => rfl) b (fun _ _ _ _ _ => rfl) c (fun _ _ _ _ _ => rfl) d
  have e2 : T.siz i z = ⟨T.ex, fup T.sz i z, fup T.nl i (T.nl i), fup T.nm i (T.nm i), fup T.vr i (T.vr i), T.dt⟩ := by
    refine TS.eq (fun _ => rfl) (fun _ => rfl) (fun j => ?_) (fun j x => ?_) (fun j p => ?_) (fun _ _ => rfl)
    · show T.nl j = fup T.nl i (T.nl i) j
      by_cases z : j = i
      · rw [z, fup_s]
      · rw [fup_n z]
    · show T.nm j x = fup T.nm i (T.nm i) j x
      by_cases z : j = i
      · rw [z, fup_s]
      · rw [fup_n z]
    · show T.vr j p = fup T.vr i (T.vr i) j p
      by_cases z : j = i
      · rw [z, fup_s]
      · rw [fup_n z]
  rw [e2]
  exact this
theorem TK.nam {T : TS} {fl : Int32} {jf zf nf mf fo vf wf : Nat → Int32} {K : Int64} (h : TK T fl jf zf nf mf fo vf K) {f i l q : Nat} {l' : Int32} {w : Nat → Int32} (hf : f < 48) (hi : i < 512) (e : jf f = nI i) (hl : l' = nI l) (hw : ∀ x, x < 50 → wf (q + x) = w x) : TK (T.nam i w l) fl jf zf (upd nf f l') (va_cpy wf mf q (f * 50) 50) fo vf K := by
  obtain ⟨a, b, c, d⟩ := h.at hf hi e
  have := h.file (zf' := zf) (nf' := upd nf f l') (mf' := va_cpy wf mf q (f * 50) 50) (vf' := vf) (z := T.sz i) (l := l) (w := w) (V := T.vr i) (dt := T.dt) hf hi e (fun _ _ => rfl) a (fun g hg => pk_un hg) (by rw [pk_us, hl]) (fun g x hg hx hgf => pk_cpy_out (by omega)) (fun x hx => by
    rw [pk_cpy_in (by omega) (by omega), ← hw x hx]
    congr 1
    omega) (fun _ _ _ _ _ => rfl) d
  have e2 : T.nam i w l = ⟨T.ex, fup T.sz i (T.sz i), fup T.nl i l, fup T.nm i w, fup T.vr i (T.vr i), T.dt⟩ := by
    refine TS.eq (fun _ => rfl) (fun j => ?_) (fun _ => rfl) (fun _ _ => rfl) (fun j p => ?_) (fun _ _ => rfl)
    · show T.sz j = fup T.sz i (T.sz i) j
      by_cases z : j = i
      · rw [z, fup_s]
      · rw [fup_n z]
    · show T.vr j p = fup T.vr i (T.vr i) j p
      by_cases z : j = i
      · rw [z, fup_s]
      · rw [fup_n z]
  rw [e2]
  exact this
/-- what is left of the holders -/
def HC (D0 D : Nat → Nat → Int32) : Prop := D 17 = D0 17 ∧ D 16 960 = D0 16 960 ∧ ∀ a, a < 960 → ¬ D 16 a < 0 → D 16 a = D0 16 a ∧ D 11 (a / 20) = D0 11 (a / 20)
theorem HC.rf (D : Nat → Nat → Int32) : HC D D := ⟨rfl, rfl, fun _ _ _ => ⟨rfl, rfl⟩⟩
/-- makeFile -/
theorem mkf_lem {T : TS} {nn gg : Nat} {C me : Int32} {f u b : Nat → Int32} {D : Nat → Nat → Int32} {K A : Int64} {Y : List Mg} {o l : Nat} {w : Nat → Int32} (hT : TOK T o) (ho : o < 512) (h : TKD T D K) (hc : T.cnt < 48) (h4 : D 18 4 = nI o) (h3 : D 19 3 = nI l) (hw : ∀ x, x < 50 → D 20 x = w x) :
    ∃ (D' : Nat → Nat → Int32) (K' : Int64) (x : Nat), F_105 nn gg C me f u b D K A Y = (D', K', A, Y) ∧ x < 48 ∧ TKD (T.mk1 o w l) D' K' ∧ D' 11 x = nI o ∧ D' 18 7 = nI x ∧ D' 18 13 = nI x ∧ (∀ y, y ≠ 7 → y ≠ 13 → D' 18 y = D 18 y) ∧ (∀ q, q ≠ 10 → q ≠ 11 → q ≠ 13 → q ≠ 14 → q ≠ 15 → q ≠ 18 → D' q = D q) ∧ D' 10 10 = D 10 10 ∧ HC D D' ∧ D' 12 x = 0 := by
  obtain ⟨hx, hxe⟩ := h.1.free hc
  have c4 : (D 18 4).toNatClampNeg = o := by rw [h4, nI_clamp (by omega)]
  have := h.add (wf := D 20) (w := w) (l := l) (T2 := D 19 3) hT ho hc h3 hw
  have hbx : D 12 (addF (D 11) 47 0) = 0 ∧ ∀ p, p < 20 → D 16 (addF (D 11) 47 0 * 20 + p) = -1 := by
    rcases h.1.b2 _ hx with ⟨_, b, _, d⟩ | ⟨i, a, b, _⟩
    · exact ⟨b, d⟩
    · rw [hxe] at b; exact absurd b.symm (nIneg (by omega))
  have hF : F_105 nn gg C me f u b D K A Y = (va_up (va_up (va_up (va_up (va_up (va_up D 10 (upd (D 10) 9 (D 10 9 + 1))) 11 (upd (D 11) (addF (D 11) 47 0) (nI o))) 13 (upd (D 13) (addF (D 11) 47 0) (D 19 3))) 14 (va_cpy (D 20) (D 14) 0 (addF (D 11) 47 0 * 50) 50)) 15 (upd (D 15) o (nI (addF (D 11) 47 0)))) 18 (upd (upd (D 18) 7 (nI (addF (D 11) 47 0))) 13 (nI (addF (D 11) 47 0))), K ||| (1 <<< ((nI (addF (D 11) 47 0)).toInt64 &&& 63)), A, Y) := by
    unfold F_105
    rw [bnN_e, c4]
  rw [hF]
  clear hF
  generalize addF (D 11) 47 0 = x at *
  generalize hD1 : va_up (va_up (va_up (va_up (va_up (va_up D 10 (upd (D 10) 9 (D 10 9 + 1))) 11 (upd (D 11) x (nI o))) 13 (upd (D 13) x (D 19 3))) 14 (va_cpy (D 20) (D 14) 0 (x * 50) 50)) 15 (upd (D 15) o (nI x))) 18 (upd (upd (D 18) 7 (nI x)) 13 (nI x)) = D1
  have q1 : ∀ q, q ≠ 10 → q ≠ 11 → q ≠ 13 → q ≠ 14 → q ≠ 15 → q ≠ 18 → D1 q = D q := fun q a1 a2 a3 a4 a5 a6 => by rw [← hD1, va_up_n _ _ a6, va_up_n _ _ a5, va_up_n _ _ a4, va_up_n _ _ a3, va_up_n _ _ a2, va_up_n _ _ a1]
  have g10 : D1 10 = upd (D 10) 9 (D 10 9 + 1) := by rw [← hD1, va_up_n _ _ (by decide), va_up_n _ _ (by decide), va_up_n _ _ (by decide), va_up_n _ _ (by decide), va_up_n _ _ (by decide), va_up_s]
  have g11 : D1 11 = upd (D 11) x (nI o) := by rw [← hD1, va_up_n _ _ (by decide), va_up_n _ _ (by decide), va_up_n _ _ (by decide), va_up_n _ _ (by decide), va_up_s]
  have g13 : D1 13 = upd (D 13) x (D 19 3) := by rw [← hD1, va_up_n _ _ (by decide), va_up_n _ _ (by decide), va_up_n _ _ (by decide), va_up_s]
  have g14 : D1 14 = va_cpy (D 20) (D 14) 0 (x * 50) 50 := by rw [← hD1, va_up_n _ _ (by decide), va_up_n _ _ (by decide), va_up_s]
  have g15 : D1 15 = upd (D 15) o (nI x) := by rw [← hD1, va_up_n _ _ (by decide), va_up_s]
  have g18 : D1 18 = upd (upd (D 18) 7 (nI x)) 13 (nI x) := by rw [← hD1, va_up_s]
  have g12 := q1 12 (by decide) (by decide) (by decide) (by decide) (by decide) (by decide)
  have g16 := q1 16 (by decide) (by decide) (by decide) (by decide) (by decide) (by decide)
  have g17 := q1 17 (by decide) (by decide) (by decide) (by decide) (by decide) (by decide)
  refine ⟨D1, _, x, rfl, hx, ?_, by rw [g11, pk_us], by rw [g18, pk_un (by decide), pk_us], by rw [g18, pk_us], fun y h7 h13 => by rw [g18, pk_un h13, pk_un h7], q1, by rw [g10, pk_un (by decide)], ⟨g17, by rw [g16], fun a ha hn => ?_⟩, by rw [g12]; exact hbx.1⟩
  · show TK _ (D1 10 9) (D1 11) (D1 12) (D1 13) (D1 14) (D1 15) (D1 16) _
    rw [g10, pk_us, g11, g12, g13, g14, g15, g16]
    exact this
  · rw [g16] at hn ⊢
    refine ⟨rfl, ?_⟩
    rw [g11]
    refine pk_un (fun z => hn ?_)
    have := hbx.2 (a % 20) (Nat.mod_lt _ (by decide))
    rw [← z, show a / 20 * 20 + a % 20 = a by omega] at this
    rw [this]
    decide

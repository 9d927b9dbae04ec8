/-! the leader hears, works, starts -/
def HOut (P : Pm) (g : Gh) (e : Nat) (D : Nat → Nat → Int32) (s : St) : Prop := ∃ (D' : Nat → Nat → Int32) (K' A' : Int64) (Y' : List Mg), s = (D', K', A', Y') ∧ LO P g e D' K' ∧ MOL P g Y' ∧ (∀ q, q < 7 → D' q = D q) ∧ (inR 961 (D 7 12) → inR 961 (D' 7 12))
theorem hear_lem {P : Pm} {g : Gh} {e : Nat} {me : Int32} {u b : Nat → Int32} {D : Nat → Nat → Int32} {K A : Int64} {Y : List Mg} (hG : GO g) (hgg : 0 < P.gg) (hnn : P.nn ≤ 6) (hf : Rg P.nn P.f) (h : LO P g e D K) (hY : MOL P g Y) (hm : MO P g e (u, b)) (hc : u 0 = 5 → (u 7).toNatClampNeg ≤ 280) : HOut P g e D (F_67 P.nn P.gg P.C me P.f u b D K A Y) := by
  have h7 : LO P g e (va_up D 7 (upd (D 7) 9 ((D 7 9) ||| (1 <<< ((u 1) &&& 31))))) K := h.f7 (pk_un (by decide)) (pk_un (by decide))
  generalize hD1 : va_up D 7 (upd (D 7) 9 ((D 7 9) ||| (1 <<< ((u 1) &&& 31)))) = D1 at h7
  have q1 : ∀ q, q < 7 → D1 q = D q := fun q hq => by rw [← hD1, va_up_n _ _ (by omega)]
  have q12 : D1 7 12 = D 7 12 := by rw [← hD1, va_up_s, pk_un (by decide)]
  have same : HOut P g e D (D1, K, A, Y) := ⟨D1, K, A, Y, rfl, h7, hY, q1, fun z => by rw [q12]; exact z⟩
  unfold F_67
  rw [hD1]
  by_cases c2 : u 0 = 2
  · rw [if_neg (fun z => z c2)]
    obtain ⟨D', r1, r2, r3⟩ := take_lem (me := me) (u := u) (b := b) (A := A) (Y := Y) hG h (hm.ak c2)
    rw [r1, bnS_e]
    exact ⟨D', K, A, Y, rfl, r2, hY, fun q hq => r3 q (by omega) (by omega) (by omega), fun z => by rw [r3 7 (by decide) (by decide) (by decide)]; exact z⟩
  rw [if_pos c2]
  by_cases c5 : u 0 = 5
  · rw [if_pos c5]
    obtain ⟨n, n1, n2, n3⟩ := hm.ls (Or.inl c5)
    obtain ⟨D', A', Y', r1, r2, r3, r4, r5⟩ := listed_lem (me := me) (A := A) hG hgg hnn hf n1 n2 (hc c5) n3 h7 hY
    have r1 : F_70 P.nn P.gg P.C me P.f u b D1 K A Y = (D', K, A', Y') := r1
    rw [r1, bnS_e]
    exact ⟨D', K, A', Y', rfl, r2, r3, fun q hq => by rw [r4 q (by omega) (by omega) (by omega), q1 q hq], fun z => by rw [r5 12 (by decide), q12]; exact z⟩
  rw [if_neg c5]
  by_cases c6 : u 0 = 6
  · rw [if_pos c6]; exact same
  rw [if_neg c6]
  by_cases c7 : u 0 = 7
  · rw [if_pos c7]
    obtain ⟨n, k, n1, n2, n3, n4, n5, n6, n7⟩ := hm.it c7
    obtain ⟨D', K', A', Y', r1, r2, r3, r4, r5⟩ := item_lem (me := me) (A := A) hG hgg hnn n1 n2 n3 n4 n5 n6 n7 h7 hY
    have r1 : F_83 P.nn P.gg P.C me P.f u b D1 K A Y = (D', K', A', Y') := r1
    rw [r1, bnS_e]
    exact ⟨D', K', A', Y', rfl, r2, r3, fun q hq => by rw [r4 q hq, q1 q hq], fun z => by rw [r5, q12]; exact z⟩
  rw [if_neg c7]
  by_cases c8 : u 0 = 8
  · rw [if_pos c8]
    obtain ⟨n, n1, n2⟩ := hm.lk c8
    obtain ⟨D', r1, r2, r3, r5⟩ := lack_lem (me := me) (b := b) (A := A) (Y := Y) (show n < 32 by omega) n2 h7
    have r1 : F_90 P.nn P.gg P.C me P.f u b D1 K A Y = (D', K, A, Y) := r1
    rw [r1, bnS_e]
    exact ⟨D', K, A, Y, rfl, r2, hY, fun q hq => by rw [r3 q (by omega) (by omega), q1 q hq], fun z => by rw [r5 12 (by decide) (by decide), q12]; exact z⟩
  rw [if_neg c8]
  by_cases c9 : u 0 = 9
  · rw [if_pos c9]; exact same
  rw [if_neg c9]
  by_cases c10 : u 0 = 10
  · rw [if_pos c10]; exact same
  rw [if_neg c10]
  by_cases c11 : u 0 = 11
  · rw [if_pos c11]
    obtain ⟨n, n1, n2, n3⟩ := hm.ls (Or.inr c11)
    obtain ⟨D', r1, r2, r3, r5⟩ := have_lp (me := me) (A := A) (Y := Y) hgg hnn n1 n2 n3 (u 7).toNatClampNeg 0 D1 (by simp) h7
    have hF : F_89 P.nn P.gg P.C me P.f u b D1 K A Y = (D', K, A, Y) := by
      unfold F_89
      rw [bnN_e]
      exact r1
    rw [hF, bnS_e]
    exact ⟨D', K, A, Y, rfl, r2, hY, fun q hq => by rw [r3 q (by omega) (by omega), q1 q hq], fun z => by rw [r5 12 (by decide), q12]; exact z⟩
  · rw [if_neg c11]; exact same
/-- mend: SENDS -/
theorem send_lp {P : Pm} {g : Gh} {e : Nat} {nn gg : Nat} {C me : Int32} {f u b : Nat → Int32} {D : Nat → Nat → Int32} {K A : Int64} {x : Int32} {a : Nat} (htg : ∃ k, k < 5243392 ∧ tgA (D 11) (D 16) a = nI k) (h7 : D 7 7 = nI e) (h8 : D 7 8 = g.mp e) (he : e ≤ g.ep) : ∀ (k i : Nat) (Y : List Mg), MOL P g Y → ∃ Y', G_139 nn gg C me f u b x a k i D K A Y = (bcI x, D, K, A, Y') ∧ MOL P g Y'
  | 0, i, Y, h => ⟨Y, rfl, h⟩
  | k + 1, i, Y, h => by
    unfold G_139
    split
    · exact send_lp htg h7 h8 he k (i + 1) Y h
    · exact send_lp htg h7 h8 he k (i + 1) _ (h.put (MO.m_gt9 (e := e) (by rw [va_up_n _ _ (by decide), va_up_n _ _ (by decide)]; rfl) (by rw [va_up_n _ _ (by decide), va_up_n _ _ (by decide)]; exact h7) he (by rw [va_up_n _ _ (by decide), va_up_n _ _ (by decide)]; exact h8) (by rw [va_up_n _ _ (by decide), va_up_s]; exact htg)))
theorem send_lem {P : Pm} {g : Gh} {e : Nat} {nn gg : Nat} {C me : Int32} {f u b : Nat → Int32} {D : Nat → Nat → Int32} {K A : Int64} {Y : List Mg} {x : Int32} {a : Nat} (htg : ∃ k, k < 5243392 ∧ tgA (D 11) (D 16) a = nI k) (h7 : D 7 7 = nI e) (h8 : D 7 8 = g.mp e) (he : e ≤ g.ep) (h : MOL P g Y) : ∃ (y : Int32) (Y' : List Mg), F_139 nn gg C me f u b D K A Y x a = (y, D, K, A, Y') ∧ MOL P g Y' := by
  unfold F_139
  split
  · obtain ⟨Y', r1, r2⟩ := send_lp (nn := nn) (gg := gg) (C := C) (me := me) (f := f) (u := u) (b := b) (K := K) (A := A) (x := x) (a := a) htg h7 h8 he nn 0 Y h
    exact ⟨_, Y', r1, r2⟩
  · exact ⟨0, Y, rfl, h⟩
theorem mend_lp {P : Pm} {g : Gh} {e : Nat} {nn gg : Nat} {C me : Int32} {f u b : Nat → Int32} {K A : Int64} (hG : GO g) : ∀ (k i : Nat) (oo : Int32) (D : Nat → Nat → Int32) (Y : List Mg), inR 961 (D 7 12) → LO P g e D K → MOL P g Y → ∃ (D' : Nat → Nat → Int32) (Y' : List Mg), G_138 nn gg C me f u b k i oo D K A Y = (D', K, A, Y') ∧ LO P g e D' K ∧ MOL P g Y' ∧ (∀ q, q ≠ 7 → D' q = D q) ∧ inR 961 (D' 7 12)
  | 0, i, oo, D, Y, hni, h, hY => ⟨D, Y, rfl, h, hY, fun _ _ => rfl, hni⟩
  | k + 1, i, oo, D, Y, hni, h, hY => by
    unfold G_138
    rw [bnN_e]
    have hni1 := inR_c2 hni (by decide)
    have hnx : inR 961 (nI (((D 7 12).toNatClampNeg + 1) % 961)) := ⟨_, Nat.mod_lt _ (by decide), rfl⟩
    have hL : ∀ W : Nat → Int32, W 7 = D 7 7 → W 8 = D 7 8 → LO P g e (va_up D 7 W) K := fun W a b => h.f7 a b
    split
    · exact ⟨D, Y, rfl, h, hY, fun _ _ => rfl, hni⟩
    · split
      · obtain ⟨D', Y', r1, r2, r3, r4, r5⟩ := mend_lp (nn := nn) (gg := gg) (C := C) (me := me) (f := f) (u := u) (b := b) (A := A) hG k (i + 1) oo _ Y (by rw [va_up_s, pk_us]; exact hnx) (hL (upd (D 7) 12 (nI (((D 7 12).toNatClampNeg + 1) % 961))) (pk_un (by decide)) (pk_un (by decide))) hY
        exact ⟨D', Y', r1, r2, r3, fun q hq => by rw [r4 q hq, va_up_n _ _ hq], r5⟩
      · split
        · obtain ⟨D', Y', r1, r2, r3, r4, r5⟩ := mend_lp (nn := nn) (gg := gg) (C := C) (me := me) (f := f) (u := u) (b := b) (A := A) hG k (i + 1) oo _ Y (by rw [va_up_s, pk_us]; exact hnx) (hL (upd (D 7) 12 (nI (((D 7 12).toNatClampNeg + 1) % 961))) (pk_un (by decide)) (pk_un (by decide))) hY
          exact ⟨D', Y', r1, r2, r3, fun q hq => by rw [r4 q hq, va_up_n _ _ hq], r5⟩
        · have h2 := hL (upd (upd (D 7) 12 (nI (((D 7 12).toNatClampNeg + 1) % 961))) 14 0) (by rw [pk_un (by decide), pk_un (by decide)]) (by rw [pk_un (by decide), pk_un (by decide)])
          obtain ⟨y, Y1, s1, s2⟩ := send_lem (nn := nn) (gg := gg) (C := C) (me := me) (f := f) (u := u) (b := b) (K := K) (A := A) (x := (((D 8) (grp (D 11) gg (D 7 12).toNatClampNeg)) &&& (((D 17) (D 7 12).toNatClampNeg) ^^^ (-1))) &&& (D 7 9)) (a := (D 7 12).toNatClampNeg) (by rw [va_up_n _ _ (by decide), va_up_n _ _ (by decide)]; exact h.tagn hG hni1.1 (by assumption)) h2.l1.1 h2.l1.2.1 h2.l1.2.2.1 hY
          rw [s1, bnR_e]
          obtain ⟨D', Y', r1, r2, r3, r4, r5⟩ := mend_lp (nn := nn) (gg := gg) (C := C) (me := me) (f := f) (u := u) (b := b) (A := A) hG k (i + 1) (oo + y) _ Y1 (by rw [va_up_s, pk_un (by decide), pk_us]; exact hnx) h2 s2
          exact ⟨D', Y', r1, r2, r3, fun q hq => by rw [r4 q hq, va_up_n _ _ hq], r5⟩
theorem work_lem {P : Pm} {g : Gh} {e : Nat} {me : Int32} {u b : Nat → Int32} {D : Nat → Nat → Int32} {K A : Int64} {Y : List Mg} (hG : GO g) (hnn : P.nn ≤ 6) (hni : inR 961 (D 7 12)) (h : LO P g e D K) (hY : MOL P g Y) : HOut P g e D (F_137 P.nn P.gg P.C me P.f u b D K A Y) := by
  unfold F_137
  rw [bnN_e]
  have h2 : LO P g e (va_up D 7 (upd (D 7) 13 (nI (((D 7 13).toNatClampNeg + 1) % P.nn)))) K := h.f7 (pk_un (by decide)) (pk_un (by decide))
  generalize hD1 : va_up D 7 (upd (D 7) 13 (nI (((D 7 13).toNatClampNeg + 1) % P.nn))) = D1 at h2
  have q1 : ∀ q, q < 7 → D1 q = D q := fun q hq => by rw [← hD1, va_up_n _ _ (by omega)]
  have k1 : ∀ Y1, MOL P g Y1 → HOut P g e D (F_137_k1 P.nn P.gg P.C me P.f u b D1 K 0 Y1) := fun Y1 hY1 => by
    unfold F_137_k1
    obtain ⟨Y2, r1, r2⟩ := push_lem (me := me) (u := u) (b := b) (A := 0) hG hnn h2 hY1
    rw [r1, bnS_e]
    unfold F_137_k2
    have same : HOut P g e D (D1, K, 0, Y2) := ⟨D1, K, 0, Y2, rfl, h2, r2, q1, fun z => by rw [← hD1, va_up_s, pk_un (by decide)]; exact z⟩
    split
    · exact same
    · split
      · exact same
      · split
        · exact same
        · have h3 : LO P g e (va_up D1 7 (upd (D1 7) 14 1)) K := h2.f7 (pk_un (by decide)) (pk_un (by decide))
          obtain ⟨D', Y', s1, s2, s3, s4, s5⟩ := mend_lp (nn := P.nn) (gg := P.gg) (C := P.C) (me := me) (f := P.f) (u := u) (b := b) (A := 0) hG 961 0 0 _ Y2 (by rw [va_up_s, pk_un (by decide), ← hD1, va_up_s, pk_un (by decide)]; exact hni) h3 r2
          have hF : F_138 P.nn P.gg P.C me P.f u b D1 K 0 Y2 = (D', K, 0, Y') := s1
          rw [hF, bnS_e]
          exact ⟨D', K, 0, Y', rfl, s2, s3, fun q hq => by rw [s4 q (by omega), va_up_n _ _ (by omega), q1 q hq], fun _ => s5⟩
  split
  · exact k1 Y hY
  · split
    · exact k1 Y hY
    · obtain ⟨Y1, r1, r2⟩ := poll_lem (nn := P.nn) (gg := P.gg) (C := P.C) (me := me) (f := P.f) (u := u) (b := b) (A := 0) h2 hY
      rw [r1, bnS_e]
      exact k1 Y1 r2
/-- rest, start -/
theorem masks_lp {nn gg : Nat} {C me : Int32} {f u b : Nat → Int32} {K A : Int64} {Y : List Mg} {set : Int32} : ∀ (k i : Nat) (D : Nat → Nat → Int32), D 7 8 = set → (∀ j, j < i → D 8 j = gm nn C f set j) → ∃ D' : Nat → Nat → Int32, G_32 nn gg C me f u b k i D K A Y = bnS (F_35 nn gg C me f u b D' K A Y) (fun D1 K1 A1 Y1 => (D1, K1, A1, Y1)) ∧ (∀ q, q ≠ 8 → D' q = D q) ∧ (∀ j, j < i + k → D' 8 j = gm nn C f set j)
  | 0, i, D, h, hm => ⟨D, rfl, fun _ _ => rfl, hm⟩
  | k + 1, i, D, h, hm => by
    rw [G_32.eq_2]
    obtain ⟨D', r1, r2, r3⟩ := masks_lp (nn := nn) (gg := gg) (C := C) (me := me) (f := f) (u := u) (b := b) (K := K) (A := A) (Y := Y) (set := set) k (i + 1) (va_up D 8 (upd (D 8) i (mof2 C (mof f C (D 7 8) nn (i * nn) 0 0)))) (by rw [va_up_n _ _ (by decide)]; exact h) (fun j hj => by
      rw [va_up_s]
      by_cases e : j = i
      · rw [e, pk_us, h]; rfl
      · rw [pk_un e]; exact hm j (by omega))
    exact ⟨D', r1, fun q hq => by rw [r2 q hq, va_up_n _ _ hq], fun j hj => r3 j (by omega)⟩
theorem start_lem {P : Pm} {g : Gh} {e : Nat} {me : Int32} {u b : Nat → Int32} {D : Nat → Nat → Int32} {K A : Int64} {Y : List Mg} {s2 : Int32} (hs : s2 = g.mp e) (he : e ≤ g.ep) (hes : g.es ≤ e) (hY : MOL P g Y) : HOut P g e D (F_32 P.nn P.gg P.C me P.f u b D K A Y (nI e) s2) := by
  unfold F_32 F_33
  rw [bnS_e]
  generalize hD0 : va_up (va_up (va_up (va_up (va_up (va_up (va_up (va_up D 7 (upd (upd (upd (upd (upd (D 7) 9 0) 10 0) 12 0) 13 0) 14 0)) 10 (upd (upd (D 10) 9 0) 10 0)) 11 (ax_fill (D 11) 0 48 (-1))) 12 (ax_fill (D 12) 0 48 0)) 15 (ax_fill (D 15) 0 512 (-1))) 16 (ax_fill (D 16) 0 961 (-1))) 17 (ax_fill (D 17) 0 961 0)) 18 (upd (upd (D 18) 3 0) 4 (-1)) = D0
  have q0 : ∀ q, q < 7 → D0 q = D q := fun q hq => by rw [← hD0]; iterate 8 rw [va_up_n _ _ (by omega)]
  have g10 : D0 10 = upd (upd (D 10) 9 0) 10 0 := by rw [← hD0]; (iterate 6 rw [va_up_n _ _ (by decide)]); rw [va_up_s]
  have g11 : D0 11 = ax_fill (D 11) 0 48 (-1) := by rw [← hD0]; (iterate 5 rw [va_up_n _ _ (by decide)]); rw [va_up_s]
  have g12 : D0 12 = ax_fill (D 12) 0 48 0 := by rw [← hD0]; (iterate 4 rw [va_up_n _ _ (by decide)]); rw [va_up_s]
  have g15 : D0 15 = ax_fill (D 15) 0 512 (-1) := by rw [← hD0]; (iterate 3 rw [va_up_n _ _ (by decide)]); rw [va_up_s]
  have g16 : D0 16 = ax_fill (D 16) 0 961 (-1) := by rw [← hD0]; (iterate 2 rw [va_up_n _ _ (by decide)]); rw [va_up_s]
  have g17 : D0 17 = ax_fill (D 17) 0 961 0 := by rw [← hD0, va_up_n _ _ (by decide), va_up_s]
  have g18 : D0 18 = upd (upd (D 18) 3 0) 4 (-1) := by rw [← hD0, va_up_s]
  obtain ⟨D1, r1, r2, r3⟩ := masks_lp (nn := P.nn) (gg := P.gg) (C := P.C) (me := me) (f := P.f) (u := u) (b := b) (K := 0) (A := 0) (Y := Y) (set := s2) P.gg 0 (va_up D0 7 (upd (upd (D0 7) 7 (nI e)) 8 s2)) (by rw [va_up_s, pk_us]) (fun j hj => absurd hj (by omega))
  rw [r1]
  have w : ∀ q, q ≠ 7 → q ≠ 8 → D1 q = D0 q := fun q h7 h8 => by rw [r2 q h8, va_up_n _ _ h7]
  have w7 : D1 7 = upd (upd (D0 7) 7 (nI e)) 8 s2 := by rw [r2 7 (by decide), va_up_s]
  have hv : ∀ a, a < 961 → D1 16 a = -1 := fun a ha => by rw [w 16 (by decide) (by decide), g16]; exact ax_fill_in _ _ (by omega) ha
  have hLO : LO P g e D1 0 := by
    refine ⟨⟨by rw [w7, pk_un (by decide), pk_us], by rw [w7, pk_us]; exact hs, he, hes⟩, fun i hi => by rw [r3 i (by omega), hs], fun a k h1 h2 => absurd (by rw [hv a h1]; decide) h2, fun f p h1 h2 _ _ => ?_, Or.inl ⟨by rw [w 18 (by decide) (by decide), g18, pk_un (by decide), pk_us], 0, Nat.zero_le _, hv 960 (by decide), ?_, by rw [w 10 (by decide) (by decide), g10, pk_us]; rfl, fun v hv ev => absurd ev (fun z => nIneg (by omega) z.symm)⟩⟩
    · refine absurd ?_ h2
      rw [w 11 (by decide) (by decide), g11]
      exact ax_fill_in _ _ (by omega) h1
    · rw [w 10 (by decide) (by decide), w 11 (by decide) (by decide), w 12 (by decide) (by decide), w 13 (by decide) (by decide), w 14 (by decide) (by decide), w 15 (by decide) (by decide), w 16 (by decide) (by decide), g10, g11, g12, g15, g16]
      refine ⟨fun i hi => Or.inl ⟨rfl, ax_fill_in _ _ (by omega) hi⟩, fun f hf => Or.inl ⟨ax_fill_in _ _ (by omega) hf, ax_fill_in _ _ (by omega) hf, q_0 f, fun p hp => ax_fill_in _ _ (by omega) (by omega)⟩, ?_, fun i f hi hf e => ?_, fun i f hi hf e => ?_, fun i f hi hf e => ?_, fun f _ _ => q_0 f⟩
      · rw [pk_un (by decide), pk_us]
        show (0 : Int32) = nI (Sm (fun i => if T0.ex i = true then 1 else 0) 512)
        rw [Sm_z (fun i _ => if_neg (by show ¬ false = true; decide))]
        rfl
      · rw [ax_fill_in _ _ (by omega) hf] at e; exact absurd e.symm (nIneg (by omega))
      · rw [ax_fill_in _ _ (by omega) hf] at e; exact absurd e.symm (nIneg (by omega))
      · rw [ax_fill_in _ _ (by omega) hf] at e; exact absurd e.symm (nIneg (by omega))
  obtain ⟨Y', y1, y2⟩ := poll_lem (nn := P.nn) (gg := P.gg) (C := P.C) (me := me) (f := P.f) (u := u) (b := b) (A := 0) hLO hY
  rw [y1, bnS_e]
  exact ⟨D1, 0, 0, Y', rfl, hLO, y2, fun q hq => by rw [w q (by omega) (by omega), q0 q hq], fun _ => ⟨0, by decide, by rw [w7, pk_un (by decide), pk_un (by decide), ← hD0]; (iterate 7 rw [va_up_n _ _ (by decide)]); rw [va_up_s, pk_un (by decide), pk_un (by decide), pk_us]; rfl⟩⟩

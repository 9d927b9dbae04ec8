/-! what a NODE does with one MESSAGE -/
theorem ls_ord {tf ow : Nat → Int32} : ∀ (k i c : Nat) (bf : Nat → Int32) (j j' : Nat), c ≤ j → j < j' → j' < lsC tf ow k i c → ∃ m m', i ≤ m ∧ m < m' ∧ m' < i + k ∧ lsF tf ow k i c bf j = tf m ∧ lsF tf ow k i c bf j' = tf m' ∧ ¬ tf m < 0
  | 0, i, c, bf, j, j', h1, h2, h3 => absurd h3 (by show ¬ j' < c; omega)
  | k + 1, i, c, bf, j, j', h1, h2, h3 => by
    unfold lsC at h3
    unfold lsF
    by_cases d : tf i < 0 ∨ ¬ ow i < 0
    · rw [if_pos d] at h3 ⊢
      obtain ⟨m, m', a1, a2, a3, a4⟩ := ls_ord k (i + 1) c bf j j' h1 h2 h3
      exact ⟨m, m', by omega, a2, by omega, a4⟩
    · rw [if_neg d] at h3 ⊢
      by_cases e : j = c
      · subst e
        obtain ⟨b1, b2, b3, _⟩ := ls_sp (tf := tf) (ow := ow) k (i + 1) (j + 1) (upd bf j (tf i))
        obtain ⟨m', m1, m2, m3, m4, _⟩ := b3 j' (by omega) h3
        exact ⟨i, m', Nat.le_refl _, by omega, by omega, by rw [b2 j (by omega), pk_us], m3, fun z => d (Or.inl z)⟩
      · obtain ⟨m, m', a1, a2, a3, a4⟩ := ls_ord k (i + 1) (c + 1) (upd bf c (tf i)) j j' (by omega) h2 h3
        exact ⟨m, m', by omega, a2, by omega, a4⟩
def mHD (nn n : Nat) (D : Nat → Nat → Int32) : Mg := (mg 1 (nI n) (nI nn) (D 0 7) (D 0 8), fun _ => 0)
def mLS (n : Nat) (D : Nat → Nat → Int32) (to : Int32) : Mg := (va_up (va_up (mg 5 (nI n) to (D 0 7) (D 0 8)) 6 (D 1 4)) 7 (nI (lsC (D 6) (D 5) 280 0 0)), lsF (D 6) (D 5) 280 0 0 (fun _ => 0))
/-- LISTED: what it says -/
theorem mLS_v {P : Pm} {g : Gh} {n e : Nat} {D : Nat → Nat → Int32} {K : Int64} {to : Int32} (h : NU P g n e D K) : (mLS n D to).1 0 = 5 ∧ (mLS n D to).1 1 = nI n ∧ (mLS n D to).1 2 = to ∧ (mLS n D to).1 3 = nI e ∧ (mLS n D to).1 6 = D 1 4 ∧ (∃ c, c ≤ 280 ∧ (mLS n D to).1 7 = nI c ∧ (∀ i j, i < c → j < c → (mLS n D to).2 i = (mLS n D to).2 j → i = j) ∧ (∀ i, i < c → tgO g ((mLS n D to).2 i) ∧ stb D ((mLS n D to).2 i)) ∧ ∀ t, ¬ t < 0 → stb D t → ∃ i, i < c ∧ (mLS n D to).2 i = t) := by
  have w : ∀ x, x ≠ 6 → x ≠ 7 → (mLS n D to).1 x = mg 5 (nI n) to (D 0 7) (D 0 8) x := fun x h6 h7 => by
    show va_up (va_up (mg 5 (nI n) to (D 0 7) (D 0 8)) 6 (D 1 4)) 7 (nI (lsC (D 6) (D 5) 280 0 0)) x = _
    rw [va_up_n _ _ h7, va_up_n _ _ h6]
  obtain ⟨a1, a2, a3, a4⟩ := ls_sp (tf := D 6) (ow := D 5) 280 0 0 (fun _ => 0)
  have hcl := lsC_le (D 6) (D 5) 280 0 0
  refine ⟨w 0 (by decide) (by decide), w 1 (by decide) (by decide), w 2 (by decide) (by decide), (w 3 (by decide) (by decide)).trans h.ep.1, ?_, lsC (D 6) (D 5) 280 0 0, by omega, ?_, fun i j hi hj e => ?_, fun i hi => ?_, fun t ht hs => ?_⟩
  · show va_up (va_up (mg 5 (nI n) to (D 0 7) (D 0 8)) 6 (D 1 4)) 7 (nI (lsC (D 6) (D 5) 280 0 0)) 6 = _
    rw [va_up_n _ _ (by decide), va_up_s]
  · show va_up (va_up (mg 5 (nI n) to (D 0 7) (D 0 8)) 6 (D 1 4)) 7 (nI (lsC (D 6) (D 5) 280 0 0)) 7 = _
    rw [va_up_s]
  · have hu : ∀ j j', j < j' → j' < lsC (D 6) (D 5) 280 0 0 → ¬ lsF (D 6) (D 5) 280 0 0 (fun _ => 0) j = lsF (D 6) (D 5) 280 0 0 (fun _ => 0) j' := fun j j' h1 h2 e => by
      obtain ⟨m, m', b1, b2, b3, b4, b5, b6⟩ := ls_ord (tf := D 6) (ow := D 5) 280 0 0 (fun _ => 0) j j' (Nat.zero_le _) h1 h2
      obtain ⟨_, _, _, _, _, _, _, _, hq⟩ := h.du
      have := hq m m' (by omega) (by omega) (by rw [← b4, ← b5]; exact e) (neg1 b6)
      omega
    have e : lsF (D 6) (D 5) 280 0 0 (fun _ => 0) i = lsF (D 6) (D 5) 280 0 0 (fun _ => 0) j := e
    rcases Nat.lt_trichotomy i j with q | q | q
    · exact absurd e (hu i j q hj)
    · exact q
    · exact absurd e.symm (hu j i q hi)
  · obtain ⟨m, m1, m2, m3, m4, m5⟩ := a3 i (Nat.zero_le _) hi
    have ho := (h.du.ow (show m < 280 by omega)).mp m5
    have m3 : (mLS n D to).2 i = D 6 m := m3
    refine ⟨?_, m, by omega, m3.symm, ho⟩
    obtain ⟨w, w1, w2⟩ := h.du.tag (show m < 280 by omega) (neg1 m4)
    obtain ⟨k, k1, k2, k3⟩ := w1.2.2
    obtain ⟨k', q1, q2, q3, _⟩ := w1.1
    have : k' = k := nI_inj (by omega) (by omega) (q2.symm.trans k2)
    subst this
    exact ⟨k', k1, by rw [m3, ← w2, k2], k3, q3⟩
  · obtain ⟨s, s1, s2, s3⟩ := hs
    obtain ⟨j, _, j2, j3⟩ := a4 s (Nat.zero_le _) (by omega) (by rw [s2]; exact ht) (by rw [s3]; decide)
    exact ⟨j, j2, j3.trans s2⟩
/-- give -/
theorem give_z {nn gg : Nat} {C me : Int32} {f u b : Nat → Int32} {B : (Nat → Int32) → Prop} {D : Nat → Nat → Int32} {K A : Int64} {kd t tt ask : Int32} (h : DUD B D) (ht : ¬ t = -1) : ∃ z, (∀ Y, F_58 nn gg C me f u b D K A Y kd t tt ask = (D, K, A, psl Y [z])) ∧ z.1 1 = me ∧ z.1 3 = D 0 7 ∧ z.1 4 = D 0 8 ∧ z.1 5 = t ∧ ((stb D t ∧ z.1 0 = kd ∧ z.1 2 = tt) ∨ (¬ stb D t ∧ z.1 0 = 8 ∧ z.1 2 = ask)) := by
  have w : ∀ (k to : Int32) (bf : Nat → Int32) (x : Nat), x ≠ 5 → ((va_up (mg k me to (D 0 7) (D 0 8)) 5 t, bf) : Mg).1 x = mg k me to (D 0 7) (D 0 8) x := fun k to bf x hx => va_up_n _ _ hx
  have w5 : ∀ (k to : Int32) (bf : Nat → Int32), ((va_up (mg k me to (D 0 7) (D 0 8)) 5 t, bf) : Mg).1 5 = t := fun k to bf => (show va_up (mg k me to (D 0 7) (D 0 8)) 5 t 5 = t from va_up_s _ _ _)
  have lack : ∀ bf : Nat → Int32, ¬ stb D t → (∀ Y, F_58 nn gg C me f u b D K A Y kd t tt ask = (D, K, A, pst Y (va_up (mg 8 me ask (D 0 7) (D 0 8)) 5 t, bf))) → ∃ z, (∀ Y, F_58 nn gg C me f u b D K A Y kd t tt ask = (D, K, A, psl Y [z])) ∧ z.1 1 = me ∧ z.1 3 = D 0 7 ∧ z.1 4 = D 0 8 ∧ z.1 5 = t ∧ ((stb D t ∧ z.1 0 = kd ∧ z.1 2 = tt) ∨ (¬ stb D t ∧ z.1 0 = 8 ∧ z.1 2 = ask)) := fun bf hn hF => ⟨_, hF, w 8 ask bf 1 (by decide), w 8 ask bf 3 (by decide), w 8 ask bf 4 (by decide), w5 8 ask bf, Or.inr ⟨hn, w 8 ask bf 0 (by decide), w 8 ask bf 2 (by decide)⟩⟩
  rcases sloB_cs (D 6) t with ⟨z1, z2⟩ | ⟨j, j1, j2, j3⟩
  · exact lack _ (fun ⟨s, s1, s2, _⟩ => z2 s s1 s2) (fun Y => by unfold F_58; rw [if_pos z1])
  · have hcl : (sloB (D 6) t).toNatClampNeg = j := by rw [j2, nI_clamp (by omega)]
    have hne : ¬ sloB (D 6) t = -1 := by rw [j2]; exact nIneg (by omega)
    by_cases c : D 5 j < 0
    · have ho := (h.ow j1).mp c
      refine ⟨(va_up (mg kd me tt (D 0 7) (D 0 8)) 5 t, fun x => D 2 (j * 128 + x)), fun Y => ?_, w kd tt _ 1 (by decide), w kd tt _ 3 (by decide), w kd tt _ 4 (by decide), w5 kd tt _, Or.inl ⟨⟨j, j1, j3, ho⟩, w kd tt _ 0 (by decide), w kd tt _ 2 (by decide)⟩⟩
      unfold F_58
      rw [if_neg hne, bnN_e, hcl, if_pos c]
      rfl
    · refine lack _ (fun ⟨s, s1, s2, s3⟩ => ?_) (fun Y => by unfold F_58; rw [if_neg hne, bnN_e, hcl, if_neg c])
      obtain ⟨_, _, _, _, _, _, _, _, hq⟩ := h
      have := hq s j s1 j1 (by rw [s2, j3]) (by rw [s2]; exact ht)
      subst this
      exact c (by rw [s3]; decide)

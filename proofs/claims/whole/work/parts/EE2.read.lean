/-! readRoot, readRecord -/
theorem and511n : ∀ i, i < 512 → nI i &&& 511 = nI i := by decide +kernel
theorem rrJ_v {wf jf : Nat → Int32} {p : Nat} : ∀ (c k : Nat), rrJ wf p jf c k = if k < c then (wf (p + 17 + 2 * k)) &&& 511 else jf k
  | 0, k => by rw [if_neg (by omega)]; rfl
  | c + 1, k => by
    show upd (rrJ wf p jf c) c ((wf (p + 17 + 2 * c)) &&& 511) k = _
    by_cases e : k = c
    · rw [e, pk_us, if_pos (by omega)]
    · rw [pk_un e, rrJ_v c k]
      by_cases d : k < c
      · rw [if_pos d, if_pos (by omega)]
      · rw [if_neg d, if_neg (by omega)]
theorem rrV_v {wf vf : Nat → Int32} {p : Nat} : ∀ (c y : Nat), rrV wf p vf c y = if y % 20 = 19 ∧ y / 20 < c then wf (p + 18 + 2 * (y / 20)) else vf y
  | 0, y => by rw [if_neg (by omega)]; rfl
  | c + 1, y => by
    show upd (rrV wf p vf c) (c * 20 + 19) (wf (p + 18 + 2 * c)) y = _
    by_cases e : y = c * 20 + 19
    · rw [e, pk_us, if_pos (by omega), show (c * 20 + 19) / 20 = c by omega]
    · rw [pk_un e, rrV_v c y]
      by_cases d : y % 20 = 19 ∧ y / 20 < c
      · rw [if_pos d, if_pos (by omega)]
      · rw [if_neg d, if_neg (by omega)]
theorem rrO_n {wf fo : Nat → Int32} {p i : Nat} : ∀ (c : Nat), (∀ k, k < c → ¬ ((wf (p + 17 + 2 * k)) &&& 511).toNatClampNeg = i) → rrO wf p fo c i = fo i
  | 0, _ => rfl
  | c + 1, h => by
    show upd (rrO wf p fo c) ((wf (p + 17 + 2 * c)) &&& 511).toNatClampNeg (nI c) i = _
    rw [pk_un (fun z => h c (by omega) z.symm)]
    exact rrO_n c (fun k hk => h k (by omega))
theorem rrO_s {wf fo : Nat → Int32} {p i k : Nat} : ∀ (c : Nat), k < c → ((wf (p + 17 + 2 * k)) &&& 511).toNatClampNeg = i → (∀ k', k' < c → ((wf (p + 17 + 2 * k')) &&& 511).toNatClampNeg = i → k' = k) → rrO wf p fo c i = nI k
  | 0, h, _, _ => absurd h (by omega)
  | c + 1, h, e, hu => by
    show upd (rrO wf p fo c) ((wf (p + 17 + 2 * c)) &&& 511).toNatClampNeg (nI c) i = _
    by_cases d : ((wf (p + 17 + 2 * c)) &&& 511).toNatClampNeg = i
    · have := hu c (by omega) d
      rw [d, pk_us, this]
    · rw [pk_un (fun z => d z.symm)]
      have hkc : k ≠ c := fun z => by rw [z] at e; exact d e
      exact rrO_s c (by omega) e (fun k' h1 h2 => hu k' (by omega) h2)
/-- a table as readRoot leaves it -/
theorem TR.load {T : TS} {a : Int32} {b jf zf nf mf fo vf : Nat → Int32} {y : Int32} {q : Nat} (hc : T.cnt ≤ 48) (hT : ∀ i, T.ex i = true → i < 512) (hb : ∀ x, 15 ≤ x → x < 127 → b (q + x) = rootW T a x) :
    TR T (nI T.cnt) (rrJ b q (ax_fill jf 0 48 (-1)) T.cnt) (ax_fill zf 0 48 0) nf mf (rrO b q (ax_fill fo 0 512 (-1)) T.cnt) (rrV b q (upd (ax_fill vf 0 961 (-1)) 960 y) T.cnt) 0 ∧ rrV b q (upd (ax_fill vf 0 961 (-1)) 960 y) T.cnt 960 = y := by
  obtain ⟨c1, c2, c3, c4⟩ := rootW_v (T := T) (a := a) hc
  have he : ∀ i, i < 512 → T.ex i = true → pos T i < T.cnt := fun i h1 h2 => pos_lt T h1 h2
  have hid : ∀ i, i < 512 → T.ex i = true → (b (q + 17 + 2 * pos T i)) &&& 511 = nI i := fun i h1 h2 => by
    have := he i h1 h2
    rw [Nat.add_assoc, hb _ (by omega) (by omega), (c1 i h1 h2).1]
    exact and511n i h1
  have hent : ∀ k, k < T.cnt → ∃ i, i < 512 ∧ T.ex i = true ∧ pos T i = k := fun k hk => pos_at T (n := 512) hk
  have hk : ∀ k i, k < T.cnt → i < 512 → T.ex i = true → ((b (q + 17 + 2 * k)) &&& 511).toNatClampNeg = i → pos T i = k := fun k i h1 h2 h3 h4 => by
    obtain ⟨i', a1, a2, a3⟩ := hent k h1
    have := hid i' a1 a2
    rw [a3] at this
    rw [this, nI_clamp (by omega)] at h4
    rw [← h4]
    exact a3
  have hjf : ∀ f, f < 48 → (f < T.cnt ∧ ∃ i, i < 512 ∧ T.ex i = true ∧ pos T i = f ∧ rrJ b q (ax_fill jf 0 48 (-1)) T.cnt f = nI i) ∨ (T.cnt ≤ f ∧ rrJ b q (ax_fill jf 0 48 (-1)) T.cnt f = -1) := fun f hf => by
    rw [rrJ_v]
    by_cases d : f < T.cnt
    · obtain ⟨i, a1, a2, a3⟩ := hent f d
      have := hid i a1 a2
      rw [a3] at this
      exact Or.inl ⟨d, i, a1, a2, a3, by rw [if_pos d, this]⟩
    · exact Or.inr ⟨by omega, by rw [if_neg d, ax_fill_in _ _ (by omega) (by omega)]⟩
  have hfo : ∀ i, i < 512 → T.ex i = true → rrO b q (ax_fill fo 0 512 (-1)) T.cnt i = nI (pos T i) := fun i h1 h2 => by
    refine rrO_s T.cnt (he i h1 h2) (by rw [hid i h1 h2, nI_clamp (by omega)]) (fun k' h3 h4 => (hk k' i h3 h1 h2 h4).symm)
  have hfi : ∀ {f i : Nat}, f < 48 → i < 512 → rrJ b q (ax_fill jf 0 48 (-1)) T.cnt f = nI i → f < T.cnt ∧ T.ex i = true ∧ pos T i = f := fun {f i} hf hi e => by
    rcases hjf f hf with ⟨d, i', a1, a2, a3, a4⟩ | ⟨_, z⟩
    · rw [a4] at e
      have := nI_inj (by omega) (by omega) e
      subst this
      exact ⟨d, a2, a3⟩
    · rw [z] at e; exact absurd e.symm (nIneg (by omega))
  have hq : ∀ f p, f < 48 → p < 20 → rrV b q (upd (ax_fill vf 0 961 (-1)) 960 y) T.cnt (f * 20 + p) = if p = 19 ∧ f < T.cnt then b (q + 18 + 2 * f) else -1 := fun f p hf hp => by
    rw [rrV_v, show (f * 20 + p) % 20 = p by omega, show (f * 20 + p) / 20 = f by omega]
    by_cases d : p = 19 ∧ f < T.cnt
    · rw [if_pos d, if_pos d]
    · rw [if_neg d, if_neg d, pk_un (by omega), ax_fill_in _ _ (by omega) (by omega)]
  refine ⟨⟨fun i hi => ?_, fun f hf => ?_, rfl, fun i f hi hf e => ?_, fun i f hi hf e ek => ?_, fun i f hi hf e _ => ⟨ax_fill_in _ _ (by omega) (by omega), fun p hp => by rw [hq f p hf (by omega), if_neg (by omega)]⟩, fun f _ _ => q_0 f⟩, ?_⟩
  · cases ex : T.ex i with
    | true =>
      have hp := he i hi ex
      refine Or.inr ⟨rfl, pos T i, by omega, hfo i hi ex, ?_⟩
      rw [rrJ_v, if_pos hp]
      exact hid i hi ex
    | false =>
      refine Or.inl ⟨rfl, ?_⟩
      rw [rrO_n T.cnt (fun k h1 h2 => ?_), ax_fill_in _ _ (by omega) (by omega)]
      obtain ⟨i', a1, a2, a3⟩ := hent k h1
      have := hid i' a1 a2
      rw [a3] at this
      rw [this, nI_clamp (by omega)] at h2
      rw [← h2, a2] at ex
      cases ex
  · rcases hjf f hf with ⟨d, i, a1, a2, a3, a4⟩ | ⟨d, z⟩
    · exact Or.inr ⟨i, a1, a4, by rw [hfo i a1 a2, a3]⟩
    · exact Or.inl ⟨z, ax_fill_in _ _ (by omega) (by omega), q_0 f, fun p hp => by rw [hq f p hf hp, if_neg (by omega)]⟩
  · obtain ⟨d, ex, ep⟩ := hfi hf hi e
    rw [hq f 19 hf (by decide), if_pos ⟨rfl, d⟩, Nat.add_assoc, hb _ (by omega) (by omega), ← ep]
    exact (c1 i hi ex).2
  · rw [q_0] at ek; cases ek
  · rw [rrV_v, if_neg (by omega), pk_us]
/-- readRecord of a RECORD that was not known -/
theorem TR.rrec {T : TS} {fl : Int32} {jf zf nf mf fo vf b : Nat → Int32} {K : Int64} (h : TR T fl jf zf nf mf fo vf K) {f i q : Nat} (hf : f < 48) (hi : i < 512) (e : jf f = nI i) (hb : ∀ x, 15 ≤ x → x < 127 → b (q + x) = recW T i x) :
    TR T fl jf (upd zf f (b (q + 15))) (upd nf f (b (q + 16))) (va_cpy b mf (q + 17) (f * 50) 50) fo (va_cpy b vf (q + 67) (f * 20) 19) (K ||| (1 <<< ((nI f).toInt64 &&& 63))) := by
  have hset : ∀ g, g < 64 → g ≠ f → bq (K ||| ((1 : Int64) <<< ((nI f).toInt64 &&& 63))) g = bq K g := fun g hg hgf => by
    rw [q_set K (by omega) hg]
    simp [hgf]
  have hsf : bq (K ||| ((1 : Int64) <<< ((nI f).toInt64 &&& 63))) f = true := by
    rw [q_set K (by omega) (by omega)]
    simp
  have hvo : ∀ g p, g < 48 → p < 20 → (g ≠ f ∨ p = 19) → va_cpy b vf (q + 67) (f * 20) 19 (g * 20 + p) = vf (g * 20 + p) := fun g p hg hp hh => pk_cpy_out (by omega)
  have hvi : ∀ p, p < 19 → va_cpy b vf (q + 67) (f * 20) 19 (f * 20 + p) = T.vr i p := fun p hp => by
    rw [pk_cpy_in (by omega) (by omega), show q + 67 + (f * 20 + p - f * 20) = q + (67 + p) by omega, hb _ (by omega) (by omega)]
    unfold recW
    rw [if_neg (by omega), if_neg (by omega), if_neg (by omega), if_pos (by omega)]
    congr 1
    omega
  have hji : ∀ {j : Nat}, j < 512 → jf f = nI j → j = i := fun hj z => by rw [e] at z; exact (nI_inj (by omega) (by omega) z).symm
  refine ⟨?_, ?_, ?_, ?_, ?_, ?_, ?_⟩
  · exact h.b1
  · exact fun g hg => by
      rcases h.b2 g hg with ⟨a1, a2, a3, a4⟩ | z
      · have hgf : g ≠ f := fun z => by rw [z, e] at a1; exact nIneg (by omega) a1
        exact Or.inl ⟨a1, by rw [pk_un hgf]; exact a2, by rw [hset g (by omega) hgf]; exact a3, fun p hp => by rw [hvo g p hg hp (Or.inl hgf)]; exact a4 p hp⟩
      · exact Or.inr z
  · exact h.c1
  · exact fun j g hj hg eg => by rw [hvo g 19 hg (by decide) (Or.inr rfl)]; exact h.r1 j g hj hg eg
  · exact fun j g hj hg eg ek => by
      by_cases z : g = f
      · subst z
        have := hji hj eg
        subst this
        rw [pk_us, pk_us]
        refine ⟨?_, ?_, fun x hx => ?_, hvi⟩
        · rw [hb _ (by omega) (by omega)]; rfl
        · rw [hb _ (by omega) (by omega)]; rfl
        · rw [pk_cpy_in (by omega) (by omega), show q + 17 + (g * 50 + x - g * 50) = q + (17 + x) by omega, hb _ (by omega) (by omega)]
          unfold recW
          rw [if_neg (by omega), if_neg (by omega), if_pos (by omega)]
          congr 1
          omega
      · rw [hset g (by omega) z] at ek
        obtain ⟨a1, a2, a3, a4⟩ := h.k1 j g hj hg eg ek
        rw [pk_un z, pk_un z]
        exact ⟨a1, a2, fun x hx => by rw [pk_cpy_out (by omega)]; exact a3 x hx, fun p hp => by rw [hvo g p hg (by omega) (Or.inl z)]; exact a4 p hp⟩
  · exact fun j g hj hg eg ek => by
      by_cases z : g = f
      · subst z
        rw [hsf] at ek
        cases ek
      · rw [hset g (by omega) z] at ek
        obtain ⟨a1, a2⟩ := h.u1 j g hj hg eg ek
        exact ⟨by rw [pk_un z]; exact a1, fun p hp => by rw [hvo g p hg (by omega) (Or.inl z)]; exact a2 p hp⟩
  · exact fun g h1 h2 => by rw [hset g h2 (by omega)]; exact h.kb g h1 h2

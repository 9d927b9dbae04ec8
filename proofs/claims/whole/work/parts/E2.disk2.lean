/-! CRASH and RESTART of a DISK -/
def blE (g : Nat → Int32) (s : Nat) (h : Nat → Int32) (t : Nat) : Prop := ∀ x, x < 128 → g (s * 128 + x) = h (t * 128 + x)
/-- after i of the blocks that were not FLUSHED -/
def FV (ff rf sw ow : Nat → Int32) (i : Nat) (g o : Nat → Int32) : Prop := ∀ s, s < 280 →
  ((∀ j, j < i → ¬ sw j = nI s) → o s = ow s ∧ blE g s ff s) ∧ (∀ j, j < i → sw j = nI s → o s = -1 ∧ (whB g s → blE g s rf j ∨ blE g s ff s))
theorem fail_lem {nn gg : Nat} {C me : Int32} {f u b : Nat → Int32} {mk pt : Int32} {ff rf sw ow : Nat → Int32} {c : Nat} (hc : c ≤ 32)
    (h1 : ∀ j, j < c → ∃ s : Nat, s < 280 ∧ sw j = nI s ∧ ow s = nI j)
    (h5 : ∀ s j : Nat, s < 280 → j < c → sw j = nI s → fstB (rf (j * 128)) = 0 ∨ ¬ fstB (rf (j * 128)) = lstB (ff (s * 128 + 127))) :
    ∀ (k i : Nat) (y3 : Int32) (D1 : Nat → Nat → Int32) (K A : Int64) (Y : List Mg), i + k = c → D1 3 = rf → D1 4 = sw → FV ff rf sw ow i (D1 2) (D1 5) →
    ∃ D' : Nat → Nat → Int32, G_143 nn gg C me f u b mk pt k i y3 D1 K A Y = (D', K, A, Y) ∧ D' 1 = upd (D1 1) 4 0 ∧ (∀ q, q ≠ 1 → q ≠ 2 → q ≠ 5 → D' q = D1 q) ∧ FV ff rf sw ow c (D' 2) (D' 5)
  | 0, i, y3, D1, K, A, Y, hi, e3, e4, hV => by
    have : i = c := by omega
    subst this
    refine ⟨_, rfl, by rw [va_up_s], fun q q1 _ _ => va_up_n _ _ q1, ?_⟩
    rw [va_up_n _ _ (by decide), va_up_n _ _ (by decide)]
    exact hV
  | k + 1, i, y3, D1, K, A, Y, hi, e3, e4, hV => by
    obtain ⟨s0, d1, d2, d3⟩ := h1 i (by omega)
    have huniq : ∀ j, j < c → j ≠ i → ¬ sw j = nI s0 := fun j hj hji e => by
      obtain ⟨s1, e1, e2, e5⟩ := h1 j hj
      rw [e] at e2
      have := nI_inj (by omega) (by omega) e2
      subst this
      rw [d3] at e5
      exact hji (nI_inj (by omega) (by omega) e5).symm
    have hown := (hV s0 d1).1 (fun j hj => huniq j (by omega) (by omega))
    have hcl : (D1 4 i).toNatClampNeg = s0 := by rw [e4, d2, nI_clamp (by omega)]
    have key : ∀ g' : Nat → Int32, (∀ x, x < s0 * 128 ∨ s0 * 128 + 128 ≤ x → g' x = D1 2 x) → (whB g' s0 → blE g' s0 rf i ∨ blE g' s0 ff s0) → FV ff rf sw ow (i + 1) g' (upd (D1 5) s0 (-1)) := fun g' hout hin s hs => by
      by_cases es : s = s0
      · subst es
        refine ⟨fun z => absurd d2 (z i (by omega)), fun j hj e => ?_⟩
        by_cases ej : j = i
        · subst ej
          exact ⟨pk_us, hin⟩
        · exact absurd e (huniq j (by omega) ej)
      · have hb : blE g' s (D1 2) s := fun x hx => hout _ (by omega)
        refine ⟨fun z => ?_, fun j hj e => ?_⟩
        · have := (hV s hs).1 (fun j hj => z j (by omega))
          rw [pk_un es]
          exact ⟨this.1, fun x hx => (hb x hx).trans (this.2 x hx)⟩
        · have hji : j ≠ i := fun z => by
            subst z
            rw [d2] at e
            exact es (nI_inj (by omega) (by omega) e).symm
          have := (hV s hs).2 j (by omega) e
          rw [pk_un es]
          refine ⟨this.1, fun hw => ?_⟩
          rcases this.2 ((whB_blk hb).mp hw) with z | z
          · exact Or.inl (fun x hx => (hb x hx).trans (z x hx))
          · exact Or.inr (fun x hx => (hb x hx).trans (z x hx))
    have hp : ∃ p : Nat, p ≤ 512 ∧ (clI pt 0 512).toNatClampNeg = p := by
      refine ⟨_, ?_, rfl⟩
      have hx : clI pt 0 512 ≤ 512 := by
        unfold clI
        split <;> split <;> first | decide | (rw [Int32.le_iff_toInt_le]; rename_i z _; rw [Int32.lt_iff_toInt_lt] at z; omega) | (rw [Int32.le_iff_toInt_le]; rename_i _ z; rw [Int32.lt_iff_toInt_lt] at z; omega)
      rw [Int32.le_iff_toInt_le] at hx
      have : (512 : Int32).toInt = 512 := by decide
      rw [this] at hx
      show (clI pt 0 512).toInt.toNat ≤ 512
      omega
    obtain ⟨p, hp5, ep⟩ := hp
    have rec_ : ∀ (y : Int32) (D2 : Nat → Nat → Int32), D2 1 = D1 1 → (∀ q, q ≠ 1 → q ≠ 2 → q ≠ 5 → D2 q = D1 q) → FV ff rf sw ow (i + 1) (D2 2) (D2 5) → ∃ D' : Nat → Nat → Int32, G_143 nn gg C me f u b mk pt k (i + 1) y D2 K A Y = (D', K, A, Y) ∧ D' 1 = upd (D1 1) 4 0 ∧ (∀ q, q ≠ 1 → q ≠ 2 → q ≠ 5 → D' q = D1 q) ∧ FV ff rf sw ow c (D' 2) (D' 5) := fun y D2 g1 g2 g3 => by
      obtain ⟨D', a1, a2, a3, a4⟩ := fail_lem hc h1 h5 k (i + 1) y D2 K A Y (by omega) (by rw [g2 3 (by decide) (by decide) (by decide), e3]) (by rw [g2 4 (by decide) (by decide) (by decide), e4]) g3
      exact ⟨D', a1, by rw [a2, g1], fun q q1 q2 q5 => by rw [a3 q q1 q2 q5, g2 q q1 q2 q5], a4⟩
    unfold G_143
    simp only [bnN, hcl, ep]
    split
    · split
      · refine rec_ _ _ (va_up_n _ _ (by decide)) (fun q q1 q2 q5 => va_up_n _ _ q5) ?_
        rw [va_up_s, va_up_n _ _ (by decide)]
        exact key _ (fun x _ => rfl) (fun _ => Or.inr hown.2)
      · refine rec_ _ _ (by rw [va_up_n _ _ (by decide), va_up_n _ _ (by decide)]) (fun q q1 q2 q5 => by rw [va_up_n _ _ q5, va_up_n _ _ q2]) ?_
        rw [va_up_s, va_up_n _ _ (by decide), va_up_s, e3]
        refine key _ (fun x hx => mvF_out (by omega)) (fun hw => ?_)
        rcases Nat.eq_zero_or_pos p with z | z
        · subst z
          exact Or.inr (fun x hx => mv_none.trans (hown.2 x hx))
        · rcases Nat.lt_or_ge p 512 with z2 | z2
          · have ht := torn (rf := rf) (t := D1 2) (i := i) (s := s0) (by omega) d1 z z2
            have h127 := hown.2 127 (by decide)
            unfold whB at hw
            rw [ht.1, ht.2, h127] at hw
            rcases h5 s0 i d1 (by omega) d2 with y | y
            · exact absurd y hw.1
            · exact absurd hw.2 y
          · have : p = 512 := by omega
            subst this
            exact Or.inl (fun x hx => mv_all hx)
    · refine rec_ _ _ (by rw [va_up_n _ _ (by decide), va_up_n _ _ (by decide)]) (fun q q1 q2 q5 => by rw [va_up_n _ _ q5, va_up_n _ _ q2]) ?_
      rw [va_up_s, va_up_n _ _ (by decide), va_up_s, e3]
      refine key _ (fun x hx => pk_cpy_out (by omega)) (fun _ => Or.inl (fun x hx => ?_))
      rw [pk_cpy_in (by omega) (by omega)]
      congr 1
      omega
/-- CRASH: what is DOWN then -/
theorem DU.fail {B : (Nat → Int32) → Prop} {nn gg : Nat} {C me : Int32} {f u b : Nat → Int32} {mk pt : Int32} {D : Nat → Nat → Int32} {K A : Int64} {Y : List Mg} (hB : BX B) (h : DU B (D 1 4) (D 2) (D 3) (D 4) (D 5) (D 6)) :
    ∃ D' : Nat → Nat → Int32, F_143 nn gg C me f u b D K A Y mk pt = (D', K, A, Y) ∧ D' 1 = upd (D 1) 4 0 ∧ (∀ q, q ≠ 1 → q ≠ 2 → q ≠ 5 → D' q = D q) ∧ (∀ s, s < 280 → D' 5 s = -1) ∧ (∀ s, s < 280 → whB (D' 2) s → B (fun x => D' 2 (s * 128 + x))) ∧ (∀ s, s < 280 → D 5 s = -1 → ¬ D 6 s = -1 → whB (D' 2) s ∧ D' 2 (s * 128 + 1) = D 6 s) := by
  obtain ⟨c, hc, ec, h1, h2, h3, h4, h5, h6⟩ := h
  have hP : ∀ s j : Nat, s < 280 → j < c → D 4 j = nI s → (fstB (D 3 (j * 128)) = 0 ∨ ¬ fstB (D 3 (j * 128)) = lstB (D 2 (s * 128 + 127))) ∧ (whB (D 3) j → B (fun x => D 3 (j * 128 + x))) := fun s j hs hj e => by
    obtain ⟨s1, d1, d2, d3⟩ := h1 j hj
    rw [e] at d2
    have := nI_inj (by omega) (by omega) d2
    subst this
    rcases h5 s j hs hj d3 with ⟨_, z⟩ | ⟨_, _, _, z4, _, z⟩
    · exact ⟨Or.inl z, fun hw => absurd z hw.1⟩
    · exact ⟨Or.inr z, fun _ => z4⟩
  obtain ⟨D', a1, a2, a3, a4⟩ := fail_lem (nn := nn) (gg := gg) (C := C) (me := me) (f := f) (u := u) (b := b) (mk := mk) (pt := pt) hc h1 (fun s j hs hj e => (hP s j hs hj e).1) c 0 0 D K A Y (by omega) rfl rfl (fun s hs => ⟨fun _ => ⟨rfl, fun _ _ => rfl⟩, fun j hj => absurd hj (by omega)⟩)
  have hfr : ∀ s, s < 280 → (∃ j, j < c ∧ D 4 j = nI s) ∨ (D 5 s = -1 ∧ ∀ j, j < c → ¬ D 4 j = nI s) := fun s hs => by
    rcases h2 s hs with e | ⟨j, d1, d2, d3⟩
    · refine Or.inr ⟨e, fun j hj z => ?_⟩
      obtain ⟨s1, d1, d2, d3⟩ := h1 j hj
      rw [z] at d2
      have := nI_inj (by omega) (by omega) d2
      subst this
      rw [e] at d3
      exact nIneg (by omega) d3.symm
    · exact Or.inl ⟨j, d1, d3⟩
  refine ⟨D', ?_, a2, a3, fun s hs => ?_, fun s hs hw => ?_, fun s hs e5 e6 => ?_⟩
  · show G_143 nn gg C me f u b mk pt ((D 1 4).toNatClampNeg) 0 0 D K A Y = _
    rw [ec, nI_clamp (by omega)]
    exact a1
  · rcases hfr s hs with ⟨j, d1, d2⟩ | ⟨d1, d2⟩
    · exact ((a4 s hs).2 j d1 d2).1
    · rw [((a4 s hs).1 d2).1, d1]
  · rcases hfr s hs with ⟨j, d1, d2⟩ | ⟨d1, d2⟩
    · rcases ((a4 s hs).2 j d1 d2).2 hw with z | z
      · exact hB.1 _ _ (fun i _ hi => (z i (by omega)).symm) ((hP s j hs d1 d2).2 ((whB_blk z).mp hw))
      · exact hB.1 _ _ (fun i _ hi => (z i (by omega)).symm) (h4 s hs ((whB_blk z).mp hw))
    · have z := ((a4 s hs).1 d2).2
      exact hB.1 _ _ (fun i _ hi => (z i (by omega)).symm) (h4 s hs ((whB_blk z).mp hw))
  · have z : blE (D' 2) s (D 2) s := by
      rcases hfr s hs with ⟨j, d1, d2⟩ | ⟨d1, d2⟩
      · obtain ⟨s1, g1, g2, g3⟩ := h1 j d1
        rw [d2] at g2
        have := nI_inj (by omega) (by omega) g2
        subst this
        rw [e5] at g3
        exact absurd g3.symm (nIneg (by omega))
      · exact ((a4 s hs).1 d2).2
    rcases h3 s hs e5 with ⟨y, _⟩ | ⟨_, y2, y3⟩
    · exact absurd y e6
    · exact ⟨(whB_blk z).mpr y2, by rw [z 1 (by decide)]; exact y3⟩

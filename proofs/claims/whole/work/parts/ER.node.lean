/-! what a NODE does to its DISK, and tells of it -/
abbrev DUD (B : (Nat → Int32) → Prop) (D : Nat → Nat → Int32) : Prop := DU B (D 1 4) (D 2) (D 3) (D 4) (D 5) (D 6)
/-- what stands FLUSHED and stays -/
def stb (D : Nat → Nat → Int32) (t : Int32) : Prop := ∃ s, s < 280 ∧ D 6 s = t ∧ D 5 s = -1
def mem (D : Nat → Nat → Int32) (t : Int32) : Prop := ∃ s, s < 280 ∧ D 6 s = t
theorem ft_sp {tf sw : Nat → Int32} : ∀ (k i c : Nat) (bf : Nat → Int32), c ≤ ftC tf sw k i c ∧ (∀ j, j < c → ftF tf sw k i c bf j = bf j) ∧ (∀ j, c ≤ j → j < ftC tf sw k i c → ∃ m, i ≤ m ∧ m < i + k ∧ ftF tf sw k i c bf j = tf (sw m).toNatClampNeg ∧ ¬ tf (sw m).toNatClampNeg < 0)
  | 0, i, c, bf => ⟨Nat.le_refl _, fun _ _ => rfl, fun j h1 h2 => absurd h2 (by show ¬ j < c; omega)⟩
  | k + 1, i, c, bf => by
    unfold ftC ftF
    by_cases d : tf (sw i).toNatClampNeg < 0
    · rw [if_pos d, if_pos d]
      obtain ⟨a1, a2, a3⟩ := ft_sp (tf := tf) (sw := sw) k (i + 1) c bf
      exact ⟨a1, a2, fun j h1 h2 => by obtain ⟨m, m1, m2, m3⟩ := a3 j h1 h2; exact ⟨m, by omega, by omega, m3⟩⟩
    · rw [if_neg d, if_neg d]
      obtain ⟨a1, a2, a3⟩ := ft_sp (tf := tf) (sw := sw) k (i + 1) (c + 1) (upd bf c (tf (sw i).toNatClampNeg))
      refine ⟨by omega, fun j hj => by rw [a2 j (by omega), pk_un (by omega)], fun j h1 h2 => ?_⟩
      by_cases e : j = c
      · subst e
        exact ⟨i, by omega, by omega, by rw [a2 j (by omega), pk_us], d⟩
      · obtain ⟨m, m1, m2, m3⟩ := a3 j (by omega) h2
        exact ⟨m, by omega, by omega, m3⟩
theorem ls_sp {tf ow : Nat → Int32} : ∀ (k i c : Nat) (bf : Nat → Int32), c ≤ lsC tf ow k i c ∧ (∀ j, j < c → lsF tf ow k i c bf j = bf j) ∧ (∀ j, c ≤ j → j < lsC tf ow k i c → ∃ m, i ≤ m ∧ m < i + k ∧ lsF tf ow k i c bf j = tf m ∧ ¬ tf m < 0 ∧ ow m < 0) ∧ (∀ m, i ≤ m → m < i + k → ¬ tf m < 0 → ow m < 0 → ∃ j, c ≤ j ∧ j < lsC tf ow k i c ∧ lsF tf ow k i c bf j = tf m)
  | 0, i, c, bf => ⟨Nat.le_refl _, fun _ _ => rfl, fun j h1 h2 => absurd h2 (by show ¬ j < c; omega), fun m h1 h2 => absurd h2 (by omega)⟩
  | k + 1, i, c, bf => by
    unfold lsC lsF
    by_cases d : tf i < 0 ∨ ¬ ow i < 0
    · rw [if_pos d, if_pos d]
      obtain ⟨a1, a2, a3, a4⟩ := ls_sp (tf := tf) (ow := ow) k (i + 1) c bf
      refine ⟨a1, a2, fun j h1 h2 => by obtain ⟨m, m1, m2, m3⟩ := a3 j h1 h2; exact ⟨m, by omega, by omega, m3⟩, fun m h1 h2 h3 h4 => ?_⟩
      refine a4 m ?_ (by omega) h3 h4
      have : m ≠ i := fun z => by
        subst z
        rcases d with d | d
        · exact h3 d
        · exact d h4
      omega
    · rw [if_neg d, if_neg d]
      obtain ⟨a1, a2, a3, a4⟩ := ls_sp (tf := tf) (ow := ow) k (i + 1) (c + 1) (upd bf c (tf i))
      refine ⟨by omega, fun j hj => by rw [a2 j (by omega), pk_un (by omega)], fun j h1 h2 => ?_, fun m h1 h2 h3 h4 => ?_⟩
      · by_cases e : j = c
        · subst e
          refine ⟨i, by omega, by omega, by rw [a2 j (by omega), pk_us], fun z => d (Or.inl z), ?_⟩
          by_cases y : ow i < 0
          · exact y
          · exact absurd (Or.inr y) d
        · obtain ⟨m, m1, m2, m3⟩ := a3 j (by omega) h2
          exact ⟨m, by omega, by omega, m3⟩
      · by_cases e : m = i
        · subst e
          exact ⟨c, by omega, by omega, by rw [a2 c (by omega), pk_us]⟩
        · obtain ⟨j, j1, j2, j3⟩ := a4 m (by omega) (by omega) h3 h4
          exact ⟨j, by omega, j2, j3⟩
theorem DU.ow {B : (Nat → Int32) → Prop} {dc : Int32} {ff rf sw ow tf : Nat → Int32} (h : DU B dc ff rf sw ow tf) {s : Nat} (hs : s < 280) : ow s < 0 ↔ ow s = -1 := by
  obtain ⟨c, hc, ec, h1, h2, _⟩ := h
  rcases h2 s hs with e | ⟨j, a, b, _⟩
  · rw [e]; exact ⟨fun _ => rfl, fun _ => by decide⟩
  · rw [b]
    exact ⟨fun z => absurd z (nI_pos (by omega)), fun z => absurd z (nIneg (by omega))⟩
/-- the tag of a block is that of an ITEM as it must be -/
theorem DU.tag {B : (Nat → Int32) → Prop} {dc : Int32} {ff rf sw ow tf : Nat → Int32} (h : DU B dc ff rf sw ow tf) {s : Nat} (hs : s < 280) (ht : ¬ tf s = -1) : ∃ w, B w ∧ w 1 = tf s := by
  obtain ⟨c, hc, ec, h1, h2, h3, h4, h5, h6⟩ := h
  rcases h2 s hs with e | ⟨j, a, b, _⟩
  · rcases h3 s hs e with ⟨z, _⟩ | ⟨_, z2, z3⟩
    · exact absurd z ht
    · exact ⟨_, h4 s hs z2, z3⟩
  · rcases h5 s j hs a b with ⟨z, _⟩ | ⟨_, _, z3, z4, _⟩
    · exact absurd z ht
    · exact ⟨_, z4, z3⟩
/-- flushAndTell -/
theorem flush_lem {B : (Nat → Int32) → Prop} {nn gg : Nat} {C me : Int32} {f u b : Nat → Int32} {D : Nat → Nat → Int32} {K A : Int64} {Y : List Mg} (hB : BX B) (h : DUD B D) :
    ∃ (D' : Nat → Nat → Int32) (Y' : List Mg), F_60 nn gg C me f u b D K A Y = (D', K, A, Y') ∧ DUD B D' ∧ D' 1 4 = 0 ∧ (∀ q, q ≠ 1 → q ≠ 2 → q ≠ 5 → D' q = D q) ∧ (∀ s, s < 280 → D' 5 s = -1) ∧
      (Y' = Y ∨ ∃ (c : Nat) (bf : Nat → Int32), c ≤ 32 ∧ Y' = pst Y (va_up (mg 11 me (nof f 0 (D 0 8) nn 0 0) (D 0 7) (D 0 8)) 7 (nI c), bf) ∧ ∀ i, i < c → ∃ s, s < 280 ∧ bf i = D 6 s ∧ ¬ D 6 s < 0) := by
  unfold F_60
  by_cases c0 : D 1 4 = 0
  · rw [if_pos c0]
    refine ⟨D, Y, rfl, h, c0, fun _ _ _ _ => rfl, fun s hs => ?_, Or.inl rfl⟩
    obtain ⟨c, hc, ec, h1, h2, _⟩ := h
    have : c = 0 := by
      rw [c0] at ec
      exact (nI_inj (a := 0) (by decide) (by omega) ec).symm
    rcases h2 s hs with e | ⟨j, a, _⟩
    · exact e
    · omega
  · rw [if_neg c0, bnN_e]
    obtain ⟨c, hc, ec, hrest⟩ := h
    have hcl : (D 1 4).toNatClampNeg = c := by rw [ec, nI_clamp (by omega)]
    rw [hcl]
    have hDU : DU B (nI c) (D 2) (D 3) (D 4) (D 5) (D 6) := ⟨c, hc, rfl, hrest⟩
    obtain ⟨r1, r2⟩ := hDU.flush hB hc
    obtain ⟨a1, a2, a3⟩ := ft_sp (tf := D 6) (sw := D 4) c 0 0 (fun _ => 0)
    refine ⟨_, _, rfl, ?_, ?_, fun q h1 h2 h5 => by rw [va_up_n _ _ h5, va_up_n _ _ h2, va_up_n _ _ h1], fun s hs => by rw [va_up_s]; exact r2 s hs, Or.inr ⟨ftC (D 6) (D 4) c 0 0, _, by have := ftC_le (D 6) (D 4) c 0 0; omega, rfl, fun i hi => ?_⟩⟩
    · show DU B (va_up (va_up (va_up D 1 _) 2 _) 5 _ 1 4) (va_up (va_up (va_up D 1 _) 2 _) 5 _ 2) (va_up (va_up (va_up D 1 _) 2 _) 5 _ 3) (va_up (va_up (va_up D 1 _) 2 _) 5 _ 4) (va_up (va_up (va_up D 1 _) 2 _) 5 _ 5) (va_up (va_up (va_up D 1 _) 2 _) 5 _ 6)
      simp only [va_up_s, va_up_n _ _ (show (1 : Nat) ≠ 5 by decide), va_up_n _ _ (show (1 : Nat) ≠ 2 by decide), va_up_n _ _ (show (2 : Nat) ≠ 5 by decide), va_up_n _ _ (show (3 : Nat) ≠ 5 by decide), va_up_n _ _ (show (3 : Nat) ≠ 2 by decide), va_up_n _ _ (show (3 : Nat) ≠ 1 by decide), va_up_n _ _ (show (4 : Nat) ≠ 5 by decide), va_up_n _ _ (show (4 : Nat) ≠ 2 by decide), va_up_n _ _ (show (4 : Nat) ≠ 1 by decide), va_up_n _ _ (show (6 : Nat) ≠ 5 by decide), va_up_n _ _ (show (6 : Nat) ≠ 2 by decide), va_up_n _ _ (show (6 : Nat) ≠ 1 by decide), pk_us]
      exact r1
    · rw [va_up_n _ _ (by decide), va_up_n _ _ (by decide), va_up_s, pk_us]
    · obtain ⟨m, m1, m2, m3, m4⟩ := a3 i (by omega) hi
      obtain ⟨s, s1, s2, s3⟩ := hrest.1 m (by omega)
      rw [s2, nI_clamp (by omega)] at m3 m4
      exact ⟨s, s1, m3, m4⟩
theorem freB_or' {tf ow : Nat → Int32} : freB tf ow = -1 ∨ ∃ j : Nat, j < 280 ∧ freB tf ow = nI j ∧ tf j = -1 ∧ ow j < 0 := freB_or tf ow
/-- a new block is written: D2 is UP, t is not there, c its count -/
theorem put_lem {B : (Nat → Int32) → Prop} {D : Nat → Nat → Int32} {b : Nat → Int32} {t : Int32} {fr c : Nat} (hB : BX B) (h : DUD B D) (hc : D 1 4 = nI c) (hc2 : c < 32) (hfr : fr < 280) (e1 : D 6 fr = -1) (e2 : D 5 fr < 0) (hb : B b) (hb1 : b 1 = t) (hn : ∀ i, i < 280 → ¬ D 6 i = t) :
    DUD B (va_up (va_up (va_up (va_up (va_up D 1 (upd (D 1) 4 (nI (c + 1)))) 3 (wrF b (D 3) c (ostB (D 2) fr))) 4 (upd (D 4) c (nI fr))) 5 (upd (D 5) fr (nI c))) 6 (upd (D 6) fr t)) ∧ ∀ x, stb D x → stb (va_up (va_up (va_up (va_up (va_up D 1 (upd (D 1) 4 (nI (c + 1)))) 3 (wrF b (D 3) c (ostB (D 2) fr))) 4 (upd (D 4) c (nI fr))) 5 (upd (D 5) fr (nI c))) 6 (upd (D 6) fr t)) x ∨ x = -1 := by
  generalize hD1 : va_up (va_up (va_up (va_up (va_up D 1 (upd (D 1) 4 (nI (c + 1)))) 3 (wrF b (D 3) c (ostB (D 2) fr))) 4 (upd (D 4) c (nI fr))) 5 (upd (D 5) fr (nI c))) 6 (upd (D 6) fr t) = D1
  have g1 : D1 1 = upd (D 1) 4 (nI (c + 1)) := by rw [← hD1]; (iterate 4 rw [va_up_n _ _ (by decide)]); rw [va_up_s]
  have g2 : D1 2 = D 2 := by rw [← hD1]; iterate 5 rw [va_up_n _ _ (by decide)]
  have g3 : D1 3 = wrF b (D 3) c (ostB (D 2) fr) := by rw [← hD1]; (iterate 3 rw [va_up_n _ _ (by decide)]); rw [va_up_s]
  have g4 : D1 4 = upd (D 4) c (nI fr) := by rw [← hD1]; (iterate 2 rw [va_up_n _ _ (by decide)]); rw [va_up_s]
  have g5 : D1 5 = upd (D 5) fr (nI c) := by rw [← hD1, va_up_n _ _ (by decide), va_up_s]
  have g6 : D1 6 = upd (D 6) fr t := by rw [← hD1, va_up_s]
  have e5 := h.ow hfr |>.mp e2
  have h : DU B (D 1 4) (D 2) (D 3) (D 4) (D 5) (D 6) := h
  rw [hc] at h
  refine ⟨?_, fun x ⟨s, s1, s2, s3⟩ => ?_⟩
  · show DU B (D1 1 4) (D1 2) (D1 3) (D1 4) (D1 5) (D1 6)
    rw [g1, pk_us, g2, g3, g4, g5, g6]
    exact h.write hB hc2 hfr e5 e1 hb hb1 hn
  · by_cases z : s = fr
    · right; rw [← s2, z]; exact e1
    · exact Or.inl ⟨s, s1, by rw [g6, pk_un z]; exact s2, by rw [g5, pk_un z]; exact s3⟩

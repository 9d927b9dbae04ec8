/-! listed -/
/-- the ROOT is secured, all RECORDS are known -/
def RSf (P : Pm) (g : Gh) (e : Nat) (D : Nat → Nat → Int32) (K : Int64) : Prop := ∃ r, r < 512 ∧ D 16 960 = nI r ∧ eff g r ∧ sec P g e (rtg r) ∧ TKD (tsp g.ops (r + 1)) D K
/-- what is not found, and no newer than the ROOT, is wanted nevermore -/
theorem RSf.dead {P : Pm} {g : Gh} {e : Nat} {D : Nat → Nat → Int32} {K : Int64} (h : RSf P g e D K) {t : Nat} (ht : t < 5243392) (h1 : ∀ a, plc (D 11) t a → ¬ D 16 a = nI (t % 512)) (h2 : ¬ D 16 960 < nI (t % 512)) : dead P g t := by
  obtain ⟨r, r1, r2, r3, r4, r5⟩ := h
  refine ⟨r, e, r3, r4, ?_, fun z => ?_⟩
  · rw [r2] at h2
    have : ¬ r < t % 512 := fun y => h2 ((nI_ltI (by omega) (by omega)).mpr y)
    omega
  · rcases z with ⟨z1, z2⟩ | ⟨z1, z2, z3⟩
    · exact h1 960 (Or.inl ⟨z1, rfl⟩) (by rw [r2, z2])
    · obtain ⟨f, f1, f2, f3⟩ := r5.1.fx z1 z2
      have := (r5.at f1 z1 f3).2.2.2 (t / 512 % 20) (Nat.mod_lt _ (by decide))
      exact h1 _ (Or.inr ⟨z1, f, f1, f3, rfl⟩) (by rw [this, z3])
theorem RSf.cg {P : Pm} {g : Gh} {e : Nat} {D D' : Nat → Nat → Int32} {K : Int64} (h : RSf P g e D K) (hq : ∀ q, q ≠ 7 → q ≠ 9 → q ≠ 17 → D' q = D q) : RSf P g e D' K := by
  obtain ⟨r, r1, r2, r3, r4, r5⟩ := h
  refine ⟨r, r1, by rw [hq 16 (by decide) (by decide) (by decide)]; exact r2, r3, r4, ?_⟩
  show TK _ (D' 10 9) (D' 11) (D' 12) (D' 13) (D' 14) (D' 15) (D' 16) K
  rw [hq 10 (by decide) (by decide) (by decide), hq 11 (by decide) (by decide) (by decide), hq 12 (by decide) (by decide) (by decide), hq 13 (by decide) (by decide) (by decide), hq 14 (by decide) (by decide) (by decide), hq 15 (by decide) (by decide) (by decide), hq 16 (by decide) (by decide) (by decide)]
  exact r5
/-- bits of a GROUP's NODES -/
theorem mof_bits {nn : Nat} {f : Nat → Int32} (hf : Rg nn f) (hnn : nn ≤ 6) (C set : Int32) : ∀ (k i : Nat) (m c : Int32), (∀ x, nn ≤ x → bt m x = false) → ∀ x, nn ≤ x → bt (mof f C set k i m c).1 x = false
  | 0, i, m, c, h => h
  | k + 1, i, m, c, h => by
    intro x hx
    unfold mof
    split
    · exact h x hx
    · split
      · exact mof_bits hf hnn C set k (i + 1) m c h x hx
      · refine mof_bits hf hnn C set k (i + 1) _ _ (fun y hy => ?_) x hx
        obtain ⟨v, hv, ev⟩ := hf i
        rw [ev]
        rcases Nat.lt_or_ge y 32 with z | z
        · rw [bt_set m (by omega) z, h y hy]
          have : ¬ y = v := by omega
          simp [this]
        · exact b_big z
theorem msk_bits {P : Pm} {g : Gh} (hf : Rg P.nn P.f) (hnn : P.nn ≤ 6) (e t : Nat) : ∀ i, P.nn ≤ i → bt (msk P g e t) i = false := fun i hi => by
  unfold msk gm mof2
  split
  · exact mof_bits hf hnn P.C (g.mp e) P.nn _ 0 0 (fun x _ => b_0 x) i hi
  · exact b_0 i
theorem listed_lp {P : Pm} {g : Gh} {e : Nat} {me : Int32} {u b : Nat → Int32} {K : Int64} {s2 s3 : Int32} {n cnt : Nat} (hgg : 0 < P.gg) (hnn : P.nn ≤ 6) (hf : Rg P.nn P.f) (hn : n < P.nn) (hu : u 1 = nI n) (hc : cnt ≤ 280) (hb : ∀ i, i < cnt → ∃ k, b i = nI k ∧ k < 5243392 ∧ g.rep e n k) :
    ∀ (k i d : Nat) (y4 : Int32) (D : Nat → Nat → Int32) (A : Int64) (Y : List Mg), i + k = cnt → d ≤ i → LO P g e D K → MOL P g Y → (∀ j, j < d → ∃ k, D 9 j = nI k ∧ k < 5243392 ∧ dok P g e n k) → (¬ s3 = 0 → RSf P g e D K) →
    ∃ (D' : Nat → Nat → Int32) (A' : Int64) (Y' : List Mg), G_70 P.nn P.gg P.C me P.f u b s2 s3 k i d y4 D K A Y = (D', K, A', Y') ∧ LO P g e D' K ∧ MOL P g Y' ∧ (∀ q, q ≠ 7 → q ≠ 9 → q ≠ 17 → D' q = D q) ∧ (∀ x, x ≠ 10 → D' 7 x = D 7 x)
  | 0, i, d, y4, D, A, Y, hi, hd, h, hY, hs, hr => by
    have hp : MOL P g (pst Y (va_up (mg 12 me (u 1) (D 7 7) (D 7 8)) 7 (nI d), fun j => D 9 j)) := by
      refine hY.put (e := e) (MO.m_dr (by rw [va_up_n _ _ (by decide)]; rfl) (by rw [va_up_n _ _ (by decide)]; exact h.l1.1) h.l1.2.2.1 (by rw [va_up_n _ _ (by decide)]; exact h.l1.2.1) ⟨n, hn, by rw [va_up_n _ _ (by decide)]; exact hu, fun j hj => ?_⟩)
      rw [va_up_s, nI_clamp (by omega)] at hj
      exact hs j hj
    have hq : ∀ v : Int32, LO P g e (va_up D 7 (upd (D 7) 10 v)) K ∧ (∀ q, q ≠ 7 → q ≠ 9 → q ≠ 17 → va_up D 7 (upd (D 7) 10 v) q = D q) ∧ (∀ x, x ≠ 10 → va_up D 7 (upd (D 7) 10 v) 7 x = D 7 x) := fun v => ⟨h.frame (by rw [va_up_s, pk_un (by decide)]) (by rw [va_up_s, pk_un (by decide)]) (fun q h8 _ _ => va_up_n _ _ (by omega)) (fun a k h1 h2 h3 h4 m hm hb => h.hd a k h1 h2 h3 h4 m hm (by rw [va_up_n _ _ (by decide)] at hb; exact hb)) (fun fx p h1 h2 h3 h4 => by rw [va_up_n _ _ (by decide)]; exact h.hz fx p h1 h2 h3 h4), fun q h7 _ _ => va_up_n _ _ h7, fun x hx => by rw [va_up_s, pk_un hx]⟩
    unfold G_70
    repeat' split
    all_goals first | exact ⟨_, _, _, rfl, (hq _).1, hY, (hq _).2⟩ | exact ⟨_, _, _, rfl, (hq _).1, hp, (hq _).2⟩
  | k + 1, i, d, y4, D, A, Y, hi, hd, h, hY, hs, hr => by
    obtain ⟨t, t1, t2, t3⟩ := hb i (by omega)
    obtain ⟨y, D2, j1, j2, j3, j4, j5⟩ := judge_lem (me := me) (u := u) (b := b) (A := A) (Y := Y) h hgg hnn t2 hn t3 (msk_bits hf hnn e t)
    have hs2 : ∀ j, j < d → ∃ k, D2 9 j = nI k ∧ k < 5243392 ∧ dok P g e n k := fun j hj => by rw [j3 9 (by decide)]; exact hs j hj
    have hr2 : ¬ s3 = 0 → RSf P g e D2 K := fun z => (hr z).cg (fun q _ _ h17 => j3 q h17)
    have kq : ∀ D' : Nat → Nat → Int32, (∀ q, q ≠ 7 → q ≠ 9 → q ≠ 17 → D' q = D2 q) → ∀ q, q ≠ 7 → q ≠ 9 → q ≠ 17 → D' q = D q := fun D' hh q h7 h9 h17 => by rw [hh q h7 h9 h17, j3 q h17]
    have k7 : ∀ D' : Nat → Nat → Int32, (∀ x, x ≠ 10 → D' 7 x = D2 7 x) → ∀ x, x ≠ 10 → D' 7 x = D 7 x := fun D' hh x hx => by rw [hh x hx, j3 7 (by decide)]
    -- going on, with or without a GET
    have go : ∀ (d' : Nat) (y' : Int32) (D3 : Nat → Nat → Int32) (A3 : Int64) (Y3 : List Mg), d' ≤ i + 1 → LO P g e D3 K → MOL P g Y3 → (∀ j, j < d' → ∃ k, D3 9 j = nI k ∧ k < 5243392 ∧ dok P g e n k) → (∀ q, q ≠ 9 → D3 q = D2 q) → ∃ (D' : Nat → Nat → Int32) (A' : Int64) (Y' : List Mg), G_70 P.nn P.gg P.C me P.f u b s2 s3 k (i + 1) d' y' D3 K A3 Y3 = (D', K, A', Y') ∧ LO P g e D' K ∧ MOL P g Y' ∧ (∀ q, q ≠ 7 → q ≠ 9 → q ≠ 17 → D' q = D q) ∧ (∀ x, x ≠ 10 → D' 7 x = D 7 x) := fun d' y' D3 A3 Y3 h1 h2 h3 h4 h5 => by
      obtain ⟨D', A', Y', r1, r2, r3, r4, r5⟩ := listed_lp hgg hnn hf hn hu hc hb k (i + 1) d' y' D3 A3 Y3 (by omega) h1 h2 h3 h4 (fun z => (hr2 z).cg (fun q _ h9 _ => h5 q h9))
      exact ⟨D', A', Y', r1, r2, r3, kq D' (fun q h7 h9 h17 => by rw [r4 q h7 h9 h17, h5 q h9]), k7 D' (fun x hx => by rw [r5 x hx, h5 7 (by decide)])⟩
    have gof : ∀ (d' : Nat) (y' : Int32) (D3 : Nat → Nat → Int32), d' ≤ i + 1 → LO P g e D3 K → (∀ j, j < d' → ∃ k, D3 9 j = nI k ∧ k < 5243392 ∧ dok P g e n k) → (∀ q, q ≠ 9 → D3 q = D2 q) → ∃ (D' : Nat → Nat → Int32) (A' : Int64) (Y' : List Mg), bnS (F_79 P.nn P.gg P.C me P.f u b D3 K A Y (b i) (u 1)) (fun D28 K28 A28 Y28 => G_70 P.nn P.gg P.C me P.f u b s2 s3 k (i + 1) d' y' D28 K28 A28 Y28) = (D', K, A', Y') ∧ LO P g e D' K ∧ MOL P g Y' ∧ (∀ q, q ≠ 7 → q ≠ 9 → q ≠ 17 → D' q = D q) ∧ (∀ x, x ≠ 10 → D' 7 x = D 7 x) := fun d' y' D3 h1 h2 h4 h5 => by
      obtain ⟨A3, Y3, r1, r2⟩ := fetch_lem (nn := P.nn) (gg := P.gg) (C := P.C) (me := me) (f := P.f) (u := u) (b := b) (K := K) (A := A) (x := b i) (k := u 1) ⟨t, t2, t1⟩ h2.l1.1 h2.l1.2.1 h2.l1.2.2.1 hY
      rw [r1, bnS_e]
      exact go d' y' D3 A3 Y3 h1 h2 r2 h4 h5
    rw [G_70.eq_2, t1, hu, j1, bnR_e]
    rw [t1, hu] at gof
    rcases j4 with e0 | e0 | e0
    · subst e0
      rw [if_neg (fun z => z rfl), if_neg (by decide)]
      split
      · exact go d _ D2 A Y (by omega) j2 hY hs2 (fun _ _ => rfl)
      · exact gof d _ D2 (by omega) j2 hs2 (fun _ _ => rfl)
    · subst e0
      rw [if_pos (by decide), if_neg (fun z => z rfl)]
      by_cases c3 : s3 = 0
      · rw [if_pos c3, if_neg (by decide)]
        split
        · exact go d _ D2 A Y (by omega) j2 hY hs2 (fun _ _ => rfl)
        · exact gof d _ D2 (by omega) j2 hs2 (fun _ _ => rfl)
      · rw [if_neg c3, if_neg (by decide)]
        have hdk : dok P g e n t := by
          rcases j5 rfl with ⟨_, q2, q3⟩ | q
          · exact Or.inl ((hr c3).dead t2 q2 q3)
          · exact Or.inr q
        have hL : LO P g e (va_up D2 9 (upd (D2 9) d (nI t))) K := j2.frame (by rw [va_up_n _ _ (by decide)]) (by rw [va_up_n _ _ (by decide)]) (fun q _ h9 _ => va_up_n _ _ h9) (fun a k h1 h2 h3 h4 m hm hb => j2.hd a k h1 h2 h3 h4 m hm (by rw [va_up_n _ _ (by decide)] at hb; exact hb)) (fun fx p h1 h2 h3 h4 => by rw [va_up_n _ _ (by decide)]; exact j2.hz fx p h1 h2 h3 h4)
        have hsd : ∀ j, j < d + 1 → ∃ k, va_up D2 9 (upd (D2 9) d (nI t)) 9 j = nI k ∧ k < 5243392 ∧ dok P g e n k := fun j hj => by
          rw [va_up_s]
          by_cases z : j = d
          · rw [z, pk_us]; exact ⟨t, rfl, t2, hdk⟩
          · rw [pk_un z]; exact hs2 j (by omega)
        split
        · exact go (d + 1) _ _ A Y (by omega) hL hY hsd (fun q hq => va_up_n _ _ hq)
        · exact gof (d + 1) _ _ (by omega) hL hsd (fun q hq => va_up_n _ _ hq)
    · subst e0
      rw [if_pos (by decide), if_pos (by decide), if_pos rfl]
      exact gof d _ D2 (by omega) j2 hs2 (fun _ _ => rfl)

/-! crash, restart, map, replace, side by side -/
/-- what is left alone by a call that ends the CALM, but the NODES that are UP, the MAP and the count of those replaced -/
theorem SIM.oth {P : Pm} {g g' : Gh} {S S' : SS} {M M' : Nat → Nat → Int32} (h : SIM P g S M) (eg : GE g g') (hq : ∀ q, ¬ q = 4 → ¬ q = 9 → ¬ q = 100 → S'.1 q = S.1 q) (h43 : S'.1 4 3 = S.1 4 3) (h411 : S'.1 4 11 = S.1 4 11) (h100 : S'.1 100 7 = S.1 100 7 ∧ S'.1 100 8 = S.1 100 8 ∧ S'.1 100 10 = 0) (hm : ∀ k, ¬ k = 0 → M' k = M k) (hm0 : ∀ k, k = 9 ∨ 20 ≤ k → M' 0 k = M 0 k) : sT S'.1 M' ∧ sN S'.1 M' ∧ sH g' M' ∧ sD g' S'.1 M' ∧ sC S'.1 M' ∧ sK P g' S'.1 M' S'.2.2.2.1 := by
  obtain ⟨_, _, ⟨l, t1, t2, t3, t4⟩, ⟨n0, n1⟩, hH, hD, hC, _⟩ := h
  have f1 : mF M M' := ⟨fun k k1 _ => hm k (by omega), hm0 20 (by omega), hm0 21 (by omega)⟩
  have f2 : mO M M' := ⟨fun k k1 _ => hm k (by omega), fun k k1 _ => hm0 k (by omega)⟩
  refine ⟨⟨l, t1, by rw [h43]; exact t2, by rw [hm0 9 (by omega)]; exact t3, fun y hy => ?_⟩, ⟨?_, fun k hk => ?_⟩, hH.mf eg f1 f2, hD.mf eg h411 f2, hC.mf (by rw [hq 58 (by decide) (by decide) (by decide)]) h100.1 h100.2.1 f2, Or.inl h100.2.2⟩
  · rw [hq 5 (by decide) (by decide) (by decide), hm 8 (by decide)]; exact t4 y hy
  · unfold EZn
    rw [hq 6 (by decide) (by decide) (by decide), hq 7 (by decide) (by decide) (by decide)]; exact n0
  · rw [hq 6 (by decide) (by decide) (by decide), hq 7 (by decide) (by decide) (by decide), hm 10 (by decide), hm 11 (by decide)]; exact n1 k hk
theorem SIM.flip {P : Pm} {g g' : Gh} {S S' : SS} {M : Nat → Nat → Int32} {j v : Nat} (hnn : P.nn ≤ 6) (h : SIM P g S M) (eg : GE g g') (hj : j < P.nn) (hv : v = 0 ∨ v = 1) (hb : S.2.2.2.1 j 0 6 = 0 ↔ v = 1) (hE : S'.1 = (ncm S).1) (hD : ∃ D', D' 0 6 = nI v ∧ S'.2.2.2.1 = va_up S.2.2.2.1 j D') : SIM P g' S' (upM M (nI j)) := by
  have hA := h.1
  have hU := h.2.1
  obtain ⟨D', d1, d2⟩ := hD
  have u0 : upM M (nI j) 0 = upd (upd (M 0) 3 ((M 0 3) ^^^ ((1 : Int32) <<< (nI j &&& 31)))) 7 0 := by unfold upM; rw [va_up_s]
  have n1 := (ncm_v S).1
  have n2 := (ncm_v S).2
  refine ⟨⟨?_, ?_, ?_, ?_⟩, fun n hn => ?_, h.oth eg (fun q _ _ h1 => by rw [hE, n1 q h1]) (by rw [hE, n1 4 (by decide)]) (by rw [hE, n1 4 (by decide)]) ⟨by rw [hE, n2, pk_un (by decide)], by rw [hE, n2, pk_un (by decide)], by rw [hE, n2, pk_us]⟩ (fun k hk => by unfold upM; rw [va_up_n _ _ hk]) (fun k hk => by rw [u0, pk_un (by omega), pk_un (by omega)])⟩
  · rw [u0, pk_un (by decide), pk_un (by decide), hE, n1 4 (by decide)]; exact hA.1
  · rw [u0, pk_un (by decide), pk_un (by decide), hE, n1 4 (by decide)]; exact hA.2.1
  · rw [u0, pk_un (by decide), pk_un (by decide), hE, n2, pk_un (by decide)]; exact hA.2.2.1
  · rw [u0, pk_us, hE, n2, pk_us]
  · rw [u0, pk_un (by decide), pk_us, b_flip _ hn (by omega), d2]
    by_cases e : n = j
    · subst e
      rw [if_pos rfl, va_up_s, d1]
      have := hU n hn
      rcases hv with rfl | rfl
      · have h1 : ¬ S.2.2.2.1 n 0 6 = 0 := fun z => absurd (hb.mp z) (by decide)
        rw [this.mpr ⟨hj, h1⟩]
        exact ⟨(fun z => by cases z), fun z => absurd rfl z.2⟩
      · have h1 : bt (M 0 3) n = false := by
          cases z : bt (M 0 3) n with
          | false => rfl
          | true => exact absurd (hb.mpr rfl) (this.mp z).2
        rw [h1]
        exact ⟨fun _ => ⟨hj, by decide⟩, fun _ => rfl⟩
    · rw [if_neg e, va_up_n _ _ e]; exact hU n hn
theorem sU.q {nn : Nat} {D : Nat → Nat → Nat → Int32} {M : Nat → Nat → Int32} {x : Int32} (hnn : nn ≤ 6) (e0 : M 0 0 = nI nn) (h : sU nn D M) : (upQ M x ↔ ∃ j, j < nn ∧ x = nI j ∧ ¬ D j 0 6 = 0) ∧ (dnQ M x ↔ ∃ j, j < nn ∧ x = nI j ∧ D j 0 6 = 0) := by
  have hb : ∀ j, j < nn → (bt (M 0 3) j = false ↔ D j 0 6 = 0) := fun j hj => by
    have := h j (by omega)
    cases z : bt (M 0 3) j with
    | false =>
      refine ⟨fun _ => ?_, fun _ => rfl⟩
      refine Classical.byContradiction (fun c => ?_)
      have := this.mpr ⟨hj, c⟩
      rw [z] at this; cases this
    | true => exact ⟨(fun y => by cases y), fun y => absurd y (this.mp z).2⟩
  unfold upQ dnQ
  rw [e0]
  refine ⟨⟨fun ⟨a, b, c⟩ => ?_, fun ⟨j, j1, j2, j3⟩ => ?_⟩, ⟨fun ⟨a, b, c⟩ => ?_, fun ⟨j, j1, j2, j3⟩ => ?_⟩⟩
  · obtain ⟨j, j1, rfl⟩ := natLt a (by omega) b
    exact ⟨j, j1, rfl, fun z => c ((bitz _ (by omega)).mpr ((hb j j1).mpr z))⟩
  · subst j2
    exact ⟨nI_pos (by omega), nI_lt j1 (by omega), fun z => j3 ((hb j j1).mp ((bitz _ (by omega)).mp z))⟩
  · obtain ⟨j, j1, rfl⟩ := natLt a (by omega) b
    exact ⟨j, j1, rfl, (hb j j1).mp ((bitz _ (by omega)).mp c)⟩
  · subst j2
    exact ⟨nI_pos (by omega), nI_lt j1 (by omega), (bitz _ (by omega)).mpr ((hb j j1).mpr j3)⟩
theorem SIM.cr {P : Pm} {g g' : Gh} {S S' : SS} {M M' : Nat → Nat → Int32} {x y y' : Int32} (hnn : P.nn ≤ 6) (e0 : M 0 0 = nI P.nn) (h : SIM P g S M) (eg : GE g g') (h1 : ((x < 0 ∨ nI P.nn ≤ x ∨ ∃ j : Nat, j < P.nn ∧ x = nI j ∧ S.2.2.2.1 j 0 6 = 0) ∧ y = 0 ∧ S' = S) ∨ ∃ j, j < P.nn ∧ x = nI j ∧ ¬ S.2.2.2.1 j 0 6 = 0 ∧ y = 1 ∧ S'.1 = (ncm S).1 ∧ ∃ D', D' 0 6 = 0 ∧ S'.2.2.2.1 = va_up S.2.2.2.1 j D') (hg : S' = S → g' = g) (h2 : crM x M y' M') : y = y' ∧ SIM P g' S' M' := by
  obtain ⟨q1, q2⟩ := h.2.1.q (x := x) hnn e0
  rcases h1 with ⟨z, rfl, e⟩ | ⟨j, j1, rfl, j3, rfl, j5, j6⟩
  · have hn : ¬ upQ M x := fun u => by
      obtain ⟨j, j1, rfl, j3⟩ := q1.mp u
      rcases z with z | z | ⟨i, i1, i2, i3⟩
      · exact nI_pos (by omega) z
      · have := (nI_leI (by omega) (by omega)).mp z; omega
      · have : j = i := nI_inj (by omega) (by omega) i2
        subst this; exact j3 i3
    rcases h2 with ⟨_, rfl, rfl⟩ | ⟨u, _⟩
    · have := hg e
      subst this
      rw [e]; exact ⟨rfl, h⟩
    · exact absurd u hn
  · rcases h2 with ⟨u, _⟩ | ⟨_, rfl, rfl⟩
    · exact absurd (q1.mpr ⟨j, j1, rfl, j3⟩) u
    · exact ⟨rfl, h.flip (v := 0) hnn eg j1 (Or.inl rfl) ⟨fun z => absurd z j3, fun z => absurd z (by decide)⟩ j5 j6⟩
theorem SIM.re {P : Pm} {g g' : Gh} {S S' : SS} {M M' : Nat → Nat → Int32} {x y y' : Int32} (hnn : P.nn ≤ 6) (e0 : M 0 0 = nI P.nn) (h : SIM P g S M) (eg : GE g g') (h1 : ((x < 0 ∨ nI P.nn ≤ x ∨ ∃ j : Nat, j < P.nn ∧ x = nI j ∧ ¬ S.2.2.2.1 j 0 6 = 0) ∧ y = 0 ∧ S' = S) ∨ ∃ j, j < P.nn ∧ x = nI j ∧ S.2.2.2.1 j 0 6 = 0 ∧ y = 1 ∧ S'.1 = (ncm S).1 ∧ ∃ D', D' 0 6 = 1 ∧ S'.2.2.2.1 = va_up S.2.2.2.1 j D') (hg : S' = S → g' = g) (h2 : reM x M y' M') : y = y' ∧ SIM P g' S' M' := by
  obtain ⟨q1, q2⟩ := h.2.1.q (x := x) hnn e0
  rcases h1 with ⟨z, rfl, e⟩ | ⟨j, j1, rfl, j3, rfl, j5, j6⟩
  · have hn : ¬ dnQ M x := fun u => by
      obtain ⟨j, j1, rfl, j3⟩ := q2.mp u
      rcases z with z | z | ⟨i, i1, i2, i3⟩
      · exact nI_pos (by omega) z
      · have := (nI_leI (by omega) (by omega)).mp z; omega
      · have : j = i := nI_inj (by omega) (by omega) i2
        subst this; exact i3 j3
    rcases h2 with ⟨_, rfl, rfl⟩ | ⟨u, _⟩
    · have := hg e
      subst this
      rw [e]; exact ⟨rfl, h⟩
    · exact absurd u hn
  · rcases h2 with ⟨u, _⟩ | ⟨_, rfl, rfl⟩
    · exact absurd (q2.mpr ⟨j, j1, rfl, j3⟩) u
    · exact ⟨rfl, h.flip (v := 1) hnn eg j1 (Or.inr rfl) ⟨fun _ => rfl, fun _ => j3⟩ j5 j6⟩
theorem SIM.ma {P : Pm} {g g' : Gh} {S S' : SS} {M M' : Nat → Nat → Int32} {x y y' : Int32} (e0 : M 0 0 = nI P.nn) (h : SIM P g S M) (eg : GE g g') (h1 : maR P.nn x S y S') (h2 : maM x M y' M') : y = y' ∧ SIM P g' S' M' := by
  have hA := h.1
  obtain ⟨rfl, ms', hS, _⟩ := h1
  obtain ⟨rfl, rfl⟩ := h2
  rw [e0]
  obtain ⟨v1, v2, v3, _, v5⟩ := drE_v (va_up S.1 100 (upd (S.1 100) 10 0)) (x &&& allN P.nn)
  have hE : S'.1 = drE (va_up S.1 100 (upd (S.1 100) 10 0)) (x &&& allN P.nn) := by rw [hS]
  have hN : S'.2.2.2 = S.2.2.2 := by rw [hS]
  have w0 : va_up M 0 (upd (upd (upd (M 0) 4 (x &&& (((1 : Int32) <<< (nI P.nn &&& 31)) - 1))) 5 (M 0 5 + 1)) 7 0) 0 = upd (upd (upd (M 0) 4 (x &&& allN P.nn)) 5 (M 0 5 + 1)) 7 0 := by rw [va_up_s]; rfl
  refine ⟨by rw [hA.2.1], ⟨?_, ?_, ?_, ?_⟩, fun n hn => ?_, h.oth eg (fun q h4 _ h1 => by rw [hE, v5 q h4, va_up_n _ _ h1]) (by rw [hE, v1 3 (by decide), va_up_n _ _ (by decide)]) (by rw [hE, v1 11 (by decide), va_up_n _ _ (by decide)]) ⟨by rw [hE, v5 100 (by decide), va_up_s, pk_un (by decide)], by rw [hE, v5 100 (by decide), va_up_s, pk_un (by decide)], by rw [hE, v5 100 (by decide), va_up_s, pk_us]⟩ (fun k hk => va_up_n _ _ hk) (fun k hk => by rw [w0, pk_un (by omega), pk_un (by omega), pk_un (by omega)])⟩
  · rw [w0, pk_un (by decide), pk_un (by decide), pk_us, hE, v3]
  · rw [w0, pk_un (by decide), pk_us, hE, v2, va_up_n _ _ (by decide), hA.2.1]
  · rw [w0, pk_un (by decide), pk_un (by decide), pk_un (by decide), hE, v5 100 (by decide), va_up_s, pk_un (by decide)]; exact hA.2.2.1
  · rw [w0, pk_us, hE, v5 100 (by decide), va_up_s, pk_us]
  · rw [w0, pk_un (by decide), pk_un (by decide), pk_un (by decide), hN]; exact h.2.1 n hn
theorem SIM.rp {P : Pm} {R rc : Nat} {g g' : Gh} {S S' : SS} {M M' : Nat → Nat → Int32} {x y y' : Int32} (hnn : P.nn ≤ 6) (hR : R ≤ 6) (e0 : M 0 0 = nI P.nn) (e1 : M 0 1 = nI R) (hC : P.C = nI R) (hrc : rc < R) (e9 : S.1 100 9 = nI rc) (h : SIM P g S M) (eg : GE g g') (hg : S' = S → g' = g) (h1 : rpR P.nn P.C x S y S') (h2 : rpM x M y' M') : y = y' ∧ SIM P g' S' M' := by
  have hA := h.1
  obtain ⟨_, q2⟩ := h.2.1.q (x := x) hnn e0
  have hCm : P.C - 1 = nI (R - 1) := by
    rw [hC, show R = (R - 1) + 1 by omega, nI_s1, Nat.add_sub_cancel]
  have e6 : M 0 6 = nI rc := by rw [hA.2.2.1]; exact e9
  have e1m : M 0 1 - 1 = nI (R - 1) := by rw [e1, ← hC]; exact hCm
  rcases h1 with ⟨z, rfl, e⟩ | ⟨j, j1, rfl, j3, j4, rfl, ms', hS, _⟩
  · have hn : ¬ dnQ M x ∨ M 0 6 = M 0 1 - 1 := by
      by_cases u : dnQ M x
      · obtain ⟨j, j1, rfl, j3⟩ := q2.mp u
        rcases z with z | z | ⟨i, i1, i2, i3⟩ | z
        · exact absurd z (nI_pos (by omega))
        · have := (nI_leI (by omega) (by omega)).mp z; omega
        · have : j = i := nI_inj (by omega) (by omega) i2
          subst this; exact absurd j3 i3
        · right
          rw [hCm, e9] at z
          have := (nI_leI (by omega) (by omega)).mp z
          rw [e6, e1m]; congr 1; omega
      · exact Or.inl u
    rcases h2 with ⟨_, rfl, rfl⟩ | ⟨u1, u2, _⟩
    · have := hg e
      subst this
      rw [e]; exact ⟨rfl, h⟩
    · exact absurd hn (fun z => z.elim (fun z => z u1) u2)
  · have hd := q2.mpr ⟨j, j1, rfl, j3⟩
    have hne : ¬ M 0 6 = M 0 1 - 1 := fun z => by
      rw [e6, e1m] at z
      rw [hCm, e9, z] at j4
      exact absurd j4 (Int32.lt_irrefl)
    rcases h2 with ⟨u, _⟩ | ⟨_, _, rfl, rfl⟩
    · exact absurd u (fun z => z.elim (fun z => z hd) hne)
    · obtain ⟨v1, v2, v3, _, v5⟩ := drE_v (va_up S.1 100 (upd (upd (S.1 100) 9 (S.1 100 9 + 1)) 10 0)) (S.1 4 14)
      have hE : S'.1 = drE (va_up S.1 100 (upd (upd (S.1 100) 9 (S.1 100 9 + 1)) 10 0)) (S.1 4 14) := by rw [hS]
      have w0 : va_up M 0 (upd (upd (upd (M 0) 6 (M 0 6 + 1)) 5 (M 0 5 + 1)) 7 0) 0 = upd (upd (upd (M 0) 6 (M 0 6 + 1)) 5 (M 0 5 + 1)) 7 0 := va_up_s _ _ _
      refine ⟨rfl, ⟨?_, ?_, ?_, ?_⟩, fun n hn => ?_, h.oth eg (fun q h4 _ h1 => by rw [hE, v5 q h4, va_up_n _ _ h1]) (by rw [hE, v1 3 (by decide), va_up_n _ _ (by decide)]) (by rw [hE, v1 11 (by decide), va_up_n _ _ (by decide)]) ⟨by rw [hE, v5 100 (by decide), va_up_s, pk_un (by decide), pk_un (by decide)], by rw [hE, v5 100 (by decide), va_up_s, pk_un (by decide), pk_un (by decide)], by rw [hE, v5 100 (by decide), va_up_s, pk_us]⟩ (fun k hk => va_up_n _ _ hk) (fun k hk => by rw [w0, pk_un (by omega), pk_un (by omega), pk_un (by omega)])⟩
      · rw [w0, pk_un (by decide), pk_un (by decide), pk_un (by decide), hE, v3]; exact hA.1
      · rw [w0, pk_un (by decide), pk_us, hE, v2, va_up_n _ _ (by decide), hA.2.1]
      · rw [w0, pk_un (by decide), pk_un (by decide), pk_us, hE, v5 100 (by decide), va_up_s, pk_un (by decide), pk_us, hA.2.2.1]
      · rw [w0, pk_us, hE, v5 100 (by decide), va_up_s, pk_us]
      · rw [w0, pk_un (by decide), pk_un (by decide), pk_un (by decide), h.2.1 n hn, hS]
        show _ ↔ n < P.nn ∧ ¬ va_up S.2.2.2.1 j (va_up (S.2.2.2.1 j) 2 (ax_fill (S.2.2.2.1 j 2) 0 35840 0)) n 0 6 = 0
        by_cases e : n = j
        · subst e
          rw [va_up_s, va_up_n _ _ (by decide)]
        · rw [va_up_n _ _ e]

/-! a TICK when all NODES are at the new EPOCH -/
theorem goon_gd {P : Pm} {me : Int32} {u b : Nat → Int32} {D : Nat → Nat → Int32} {K A : Int64} (h : GD P.gg D K) (h5 : ¬ D 18 3 = 5) : ∃ D' : Nat → Nat → Int32, (∀ Y, F_91 P.nn P.gg P.C me P.f u b D K A Y = (D', K, A, Y)) ∧ (∀ q, q < 18 → D' q = D q) ∧ D' 18 3 = D 18 3 ∧ D' 18 4 = D 18 4 ∧ D' 18 6 = D 18 6 ∧ (¬ D 18 3 = 1 → D' = D) := by
  obtain ⟨h1, h2, h3, h4⟩ := h
  have k6 : ∀ (D : Nat → Nat → Int32) Y, F_91_k6 P.nn P.gg P.C me P.f u b D K A Y (D 18 3) = (D, K, A, Y) := fun D Y => by unfold F_91_k6; rw [if_pos rfl]
  have k5 : ∀ (D : Nat → Nat → Int32) Y, ¬ D 18 3 = 5 → F_91_k5 P.nn P.gg P.C me P.f u b D K A Y (D 18 3) = (D, K, A, Y) := fun D Y h5 => by unfold F_91_k5; rw [if_pos h5, k6]
  have k2 : ∀ (D : Nat → Nat → Int32) Y, ¬ D 18 3 = 5 → ¬ D 18 3 = 2 → ¬ D 18 3 = 3 → ¬ D 18 3 = 4 → F_91_k2 P.nn P.gg P.C me P.f u b D K A Y (D 18 3) = (D, K, A, Y) := fun D Y h5 h2 h3 h4 => by
    unfold F_91_k2 F_91_k3 F_91_k4
    rw [if_pos h2, if_pos h3, if_pos h4, k5 D Y h5]
  by_cases c1 : D 18 3 = 1
  · have n2 : ¬ D 18 3 = 2 := by rw [c1]; decide
    have n3 : ¬ D 18 3 = 3 := by rw [c1]; decide
    have n4 : ¬ D 18 3 = 4 := by rw [c1]; decide
    by_cases d : knA K (D 10 9) = 0
    · exact ⟨D, fun Y => by unfold F_91; rw [bnI_e, if_neg (fun z => z c1), if_pos d, k2 D Y h5 n2 n3 n4], fun _ _ => rfl, rfl, rfl, rfl, fun _ => rfl⟩
    · by_cases r : rdB (D 8) (D 7 9) 0 = 0
      · exact ⟨D, fun Y => by unfold F_91; rw [bnI_e, if_neg (fun z => z c1), if_neg d, if_pos r, k2 D Y h5 n2 n3 n4], fun _ _ => rfl, rfl, rfl, rfl, fun _ => rfl⟩
      · obtain ⟨a1, a2, a3⟩ : D 16 960 ≤ D 18 4 ∧ ¬ D 16 960 = D 18 4 ∧ ¬ D 16 960 = D 18 6 := by
          rcases h1 c1 with q | q | q
          · exact absurd q d
          · exact absurd q r
          · exact q
        have hF : ∀ Y, F_93 P.nn P.gg P.C me P.f u b D K A Y = (va_up (va_up D 18 (upd (upd (upd (upd (upd (D 18) 9 0) 11 0) 12 0) 13 (-1)) 14 (-1))) 21 (ax_fill (D 21) 0 1152 0), K, A, Y) := fun Y => by
          unfold F_93
          rw [if_pos a1, if_pos a2, if_pos a3]
        generalize hD1 : va_up (va_up D 18 (upd (upd (upd (upd (upd (D 18) 9 0) 11 0) 12 0) 13 (-1)) 14 (-1))) 21 (ax_fill (D 21) 0 1152 0) = D1 at hF
        have w18 : D1 18 = upd (upd (upd (upd (upd (D 18) 9 0) 11 0) 12 0) 13 (-1)) 14 (-1) := by rw [← hD1, va_up_n _ _ (by decide), va_up_s]
        have w3 : D1 18 3 = D 18 3 := by rw [w18]; iterate 5 rw [pk_un (by decide)]
        refine ⟨D1, fun Y => ?_, fun q hq => by rw [← hD1, va_up_n _ _ (by omega), va_up_n _ _ (by omega)], w3, by rw [w18]; (iterate 5 rw [pk_un (by decide)]), by rw [w18]; (iterate 5 rw [pk_un (by decide)]), fun z => absurd c1 z⟩
        unfold F_91
        rw [bnI_e, if_neg (fun z => z c1), if_neg d, if_neg r, hF Y, bnS_e, ← w3]
        exact k2 D1 Y (by rw [w3]; exact h5) (by rw [w3]; exact n2) (by rw [w3]; exact n3) (by rw [w3]; exact n4)
  · refine ⟨D, fun Y => ?_, fun _ _ => rfl, rfl, rfl, rfl, fun _ => rfl⟩
    unfold F_91
    rw [bnI_e, if_pos c1]
    by_cases c2 : D 18 3 = 2
    · unfold F_91_k2 F_91_k3 F_91_k4
      rw [if_neg (fun z => z c2), if_pos (h2 c2), if_pos (by rw [c2]; decide), if_pos (by rw [c2]; decide), k5 D Y h5]
    · by_cases c3 : D 18 3 = 3
      · unfold F_91_k2 F_91_k3 F_91_k4
        rw [if_pos c2, if_neg (fun z => z c3), bnI_e, if_pos (h3 c3), if_pos (by rw [c3]; decide), k5 D Y h5]
      · by_cases c4 : D 18 3 = 4
        · unfold F_91_k2 F_91_k3 F_91_k4
          rw [if_pos c2, if_pos c3, if_neg (fun z => z c4), bnI_e, if_pos (h4 c4), k5 D Y h5]
        · exact k2 D Y h5 c2 c3 c4
/-- a TICK of NODE n -/
def TK2 (P : Pm) (l n : Nat) (D : Nat → Nat → Int32) (K : Int64) (D' : Nat → Nat → Int32) (K' A' : Int64) (Z : List Mg) : Prop :=
  ∃ (D1 : Nat → Nat → Int32) (Zf : List Mg), FSH P n D D1 Zf ∧ ((n ≠ l ∧ D' = D1 ∧ K' = K ∧ Z = Zf) ∨ (n = l ∧ ∃ (D2 : Nat → Nat → Int32) (Zw : List Mg), (∀ q, q ≠ 7 → D2 q = D1 q) ∧ (∀ x, x ≠ 12 → x ≠ 13 → x ≠ 14 → D2 7 x = D1 7 x) ∧ WZ P (nI l) D1 K D2 Zw ∧ Z = Zf ++ Zw ∧ A' = 0 ∧ K' = K ∧ (∀ q, q < 18 → D' q = D2 q) ∧ D' 18 3 = D2 18 3 ∧ D' 18 4 = D2 18 4 ∧ D' 18 6 = D2 18 6 ∧ (¬ D 18 3 = 1 → D' = D2)))
theorem tick_2 {P : Pm} {g : Gh} {n l : Nat} {u b : Nat → Int32} {D : Nat → Nat → Int32} {K A : Int64} {Y : List Mg} (hG : GO g) (hgg : 0 < P.gg) (hnn : P.nn ≤ 6) (hf : Rg P.nn P.f) (hn : n < P.nn) (hl : l < P.nn) (hld : lds P g l g.ep) (h : NU P g n g.ep D K) (hgd : n = l → GD P.gg D K) :
    ∃ (D' : Nat → Nat → Int32) (K' A' : Int64) (Z : List Mg), F_136 P.nn P.gg P.C (nI n) P.f u b D K A Y = (D', K', A', psl Y Z) ∧ TK2 P l n D K D' K' A' Z ∧ Z.length ≤ 97 ∧ (n ≠ l → Z.length ≤ 1) ∧ (∀ z ∈ Z, z.1 3 = nI g.ep) := by
  obtain ⟨D', K', A', Z0, t1, t2, _, t4, t5, _⟩ := tick_n (u := u) (b := b) (A := A) (Y := []) hG hgg hnn hf hn h
  obtain ⟨D1, Zf, r1, r2, r3, r4, r5, r6⟩ := flush_z (nn := P.nn) (gg := P.gg) (C := P.C) (me := nI n) (f := P.f) (u := u) (b := b) (K := K) (A := A) (Bg_X P g) h.du
  have hN : NU P g n g.ep D1 K := h.disk (fun q hq => r4 q (by omega) (by omega) (by omega)) r2 (fun k _ ⟨s, s1, s2, s3⟩ => Or.inl ⟨s, s1, by rw [r4 6 (by decide) (by decide) (by decide)]; exact s2, r5 s s1⟩)
  have e0 : D1 0 = D 0 := r4 0 (by decide) (by decide) (by decide)
  have hfs : FSH P n D D1 Zf := ⟨r3, r4, r5, r6⟩
  have hZf : Zf.length ≤ 1 ∧ ∀ z ∈ Zf, z.1 3 = nI g.ep := by
    rcases r6 with ⟨_, _, q⟩ | ⟨_, z, q, q2, _⟩
    · rw [q]; exact ⟨by decide, fun z hz => by cases hz⟩
    · rw [q]
      refine ⟨Nat.le_refl _, fun y hy => ?_⟩
      rw [List.mem_singleton.mp hy, q2.v.2.2.2.1]
      exact h.ep.1
  by_cases c : n = l
  · subst c
    have hlead : ¬ ldB P.f P.nn (nI n) (D1 0 8) = 0 := by rw [e0, h.ep.2.2.1]; exact hld
    have hLO := hN.ld hlead
    obtain ⟨D2, Zw, w1, w2, w3, w4, w5, w6, w7, w8⟩ := work_z (me := nI n) (u := u) (b := b) (A := A) hG hgg hnn (by omega) hf hN.ni hLO
    have hg1 : GD P.gg D1 K := (hgd rfl).cg (fun q hq => r4 q (by omega) (by omega) (by omega))
    have hg2 : GD P.gg D2 K := by
      obtain ⟨x1, x2, x3, x4⟩ := hg1
      have ha := arS_cg (gg := P.gg) (w5 8 (by decide)) (w5 11 (by decide)) (w5 15 (by decide)) (w5 16 (by decide)) (w5 17 (by decide)) (w5 21 (by decide))
      refine ⟨fun z => ?_, fun z => ?_, fun z => ?_, fun z => ?_⟩
      · rw [w5 18 (by decide)] at z
        have := x1 z
        rw [w5 10 (by decide), w5 8 (by decide), w6 9 (by decide) (by decide) (by decide), w5 16 (by decide), w5 18 (by decide)]
        exact this
      · rw [w5 18 (by decide)] at z ⊢; exact x2 z
      · rw [w5 18 (by decide)] at z; rw [ha]; exact x3 z
      · rw [w5 18 (by decide)] at z; rw [ha]; exact x4 z
    obtain ⟨D3, f1, f2, f3, f4, f5, f6⟩ := goon_gd (P := P) (me := nI n) (u := u) (b := b) (A := 0) hg2 w2.no5
    have hF : ∀ Y, F_136 P.nn P.gg P.C (nI n) P.f u b D K A Y = (D3, K, 0, psl Y (Zf ++ Zw)) := fun Y => by
      unfold F_136
      rw [r1 Y, bnS_e, if_neg hlead, w1 _, bnS_e, f1, bnS_e, psl_app]
    refine ⟨D3, K, 0, Zf ++ Zw, hF Y, ⟨D1, Zf, hfs, Or.inr ⟨rfl, D2, Zw, w5, w6, w8, rfl, rfl, rfl, f2, f3, f4, f5, fun z => f6 (by rw [w5 18 (by decide), r4 18 (by decide) (by decide) (by decide)]; exact z)⟩⟩, ?_, fun z => absurd rfl z, fun z hz => ?_⟩
    · have e1 := (hF []).symm.trans t1
      have e2 : psl [] (Zf ++ Zw) = psl [] Z0 := (Prod.mk.inj (Prod.mk.inj (Prod.mk.inj e1).2).2).2
      rw [psl_fit Z0 (by show 0 + _ ≤ 128; omega), psl_take (Zf ++ Zw) (by decide)] at e2
      have e3 := congrArg List.length e2
      simp only [List.nil_append, List.length_take, List.length_nil] at e3
      omega
    · rcases List.mem_append.mp hz with y | y
      · exact hZf.2 z y
      · exact (w7 z y).2.1
  · have hlead : ldB P.f P.nn (nI n) (D1 0 8) = 0 := by
      by_cases d : ldB P.f P.nn (nI n) (D1 0 8) = 0
      · exact d
      · rw [e0, h.ep.2.2.1] at d
        exact absurd (lds_1 (by omega) (by omega) hld d) c
    refine ⟨D1, K, A, Zf, ?_, ⟨D1, Zf, hfs, Or.inl ⟨c, rfl, rfl, rfl⟩⟩, by have := hZf.1; omega, fun _ => hZf.1, hZf.2⟩
    unfold F_136
    rw [r1 Y, bnS_e, if_pos hlead]
/-- the NODES from i on, k of them -/
def NWr (P : Pm) (ep l i k : Nat) (S S' : SS) (Zs : Nat → List Mg) : Prop :=
  (∀ n, i ≤ n → n < i + k → TK2 P l n (S.2.2.2.1 n) (S.2.2.2.2.1 n) (S'.2.2.2.1 n) (S'.2.2.2.2.1 n) (S'.2.2.2.2.2 n) (Zs n)) ∧
  (∀ n, n < i ∨ i + k ≤ n → S'.2.2.2.1 n = S.2.2.2.1 n ∧ S'.2.2.2.2.1 n = S.2.2.2.2.1 n ∧ S'.2.2.2.2.2 n = S.2.2.2.2.2 n) ∧
  (∀ n, i ≤ n → n < i + k → ∀ z ∈ Zs n, ∃ y ∈ S'.2.2.1, smM y z) ∧ (∀ y ∈ S.2.2.1, ∃ y' ∈ S'.2.2.1, smM y' y) ∧
  (∀ y ∈ S'.2.2.1, (∃ y' ∈ S.2.2.1, smM y y') ∨ ∃ n, i ≤ n ∧ n < i + k ∧ ∃ z ∈ Zs n, smM y z) ∧ S'.1 = S.1 ∧ S'.2.1 = S.2.1 ∧ ∀ n, i ≤ n → n < i + k → ∀ z ∈ Zs n, z.1 3 = nI ep
theorem nw_R {P : Pm} {l : Nat} {u b : Nat → Int32} (hP : PmO P) (hl : l < P.nn) : ∀ (k i : Nat) {g : Gh} {S S' : SS}, i + k ≤ P.nn → SU P g S → lds P g l g.ep → (∀ n, n < P.nn → eN S n = g.ep) → (∀ n, i ≤ n → n < P.nn → n = l → GD P.gg (S.2.2.2.1 n) (S.2.2.2.2.1 n)) → S.2.2.1.length + k + (if i ≤ l then 97 else 0) ≤ 128 → nwR P.nn P.gg P.C P.f u b k i S S' → ∃ Zs, NWr P g.ep l i k S S' Zs
  | 0, i, g, S, S', _, h, _, _, _, _, hr => by
    have hr : S' = S := hr
    rw [hr]
    exact ⟨fun _ => [], fun n a b => by omega, fun _ _ => ⟨rfl, rfl, rfl⟩, fun n a b => by omega, fun y hy => ⟨y, hy, smM.rf⟩, fun y hy => Or.inl ⟨y, hy, smM.rf⟩, rfl, rfl, fun n a b => by omega⟩
  | k + 1, i, g, S, S', hi, h, hld, hep, hgd, hlen, hr => by
    have hin : i < P.nn := by omega
    rcases hr with ⟨r0, _⟩ | ⟨r0, S1, r1, r2⟩
    · exact absurd r0 (h.2.1 i hin)
    · have hNi := h.nu hin
      rw [hep i hin] at hNi
      obtain ⟨D', K', A', Z, t1, t2, t3, t4, t5⟩ := tick_2 (u := u) (b := b) (A := S.2.2.2.2.2 i) (Y := S.2.2.1) h.1.go hP.gg hP.nn hP.f hin hl hld hNi (hgd i (Nat.le_refl _) hin)
      have r1' := r1
      have hnw : nwR P.nn P.gg P.C P.f u b 1 i S S1 := Or.inr ⟨r0, S1, r1, rfl⟩
      have hZl : Z.length ≤ (if i ≤ l then 97 else 0) + 1 - (if i + 1 ≤ l then 97 else 0) := by
        by_cases c : i = l
        · rw [if_pos (by omega), if_neg (by omega)]; omega
        · have := t4 c
          split <;> split <;> omega
      have hlen1 : S.2.2.1.length ≤ 128 := by omega
      obtain ⟨g1, b1, b2, b3, b4, b5⟩ := nw_C hP hl 1 i (by omega) h hld hlen1 hnw
      obtain ⟨ms', m1, m2⟩ := r1
      rw [t1] at m1 m2
      have m1 : smL ms' (psl S.2.2.1 Z) := m1
      have hms : S1.2.2.1 = ms' := by rw [m2]
      have hfit : psl S.2.2.1 Z = S.2.2.1 ++ Z := psl_fit Z (by
        have : Z.length ≤ (if i ≤ l then 97 else 0) + 1 := by omega
        omega)
      rw [hfit] at m1
      have hD : S1.2.2.2.1 = va_up S.2.2.2.1 i D' := by rw [m2]
      have hK : S1.2.2.2.2.1 = va_up S.2.2.2.2.1 i K' := by rw [m2]
      have hA : S1.2.2.2.2.2 = va_up S.2.2.2.2.2 i A' := by rw [m2]
      have hl1 : S1.2.2.1.length = S.2.2.1.length + Z.length := by rw [hms, smL.len m1, List.length_append]
      obtain ⟨Zs, n1, n2, n3, n4, n5, n6, n7, n8⟩ := nw_R hP hl k (i + 1) (by omega) b2 (by rw [lds_gs b1, b1.ep]; exact hld) (fun n hn => by rw [b5.1 n hn, b1.ep]; exact hep n hn) (fun n a1 a2 a3 => by
        rw [hD, hK, va_up_n _ _ (by omega), va_up_n _ _ (by omega)]; exact hgd n (by omega) a2 a3) (by
        rw [hl1]
        have : (if i + 1 ≤ l then 97 else 0) ≤ (if i ≤ l then 97 else 0) := by split <;> split <;> omega
        omega) r2
      obtain ⟨Zt, zt1, zt2⟩ : ∃ Zt : Nat → List Mg, Zt i = Z ∧ ∀ n, n ≠ i → Zt n = Zs n := ⟨fun n => if n = i then Z else Zs n, if_pos rfl, fun n h => if_neg h⟩
      refine ⟨Zt, fun n a1 a2 => ?_, fun n hn => ?_, fun n a1 a2 z hz => ?_, fun y hy => ?_, fun y hy => ?_, by rw [n6, b3], by rw [n7, b4], fun n a1 a2 z hz => ?_⟩
      · by_cases c : n = i
        · subst c
          obtain ⟨q1, q2, q3⟩ := n2 n (Or.inl (by omega))
          rw [q1, q2, q3, hD, hK, hA, va_up_s, va_up_s, va_up_s, zt1]; exact t2
        · have := n1 n (by omega) (by omega)
          rw [hD, hK, va_up_n _ _ c, va_up_n _ _ c] at this
          rw [zt2 n c]; exact this
      · obtain ⟨q1, q2, q3⟩ := n2 n (by omega)
        rw [q1, q2, q3, hD, hK, hA, va_up_n _ _ (by omega), va_up_n _ _ (by omega), va_up_n _ _ (by omega)]
        exact ⟨rfl, rfl, rfl⟩
      · by_cases c : n = i
        · rw [c, zt1] at hz
          obtain ⟨y, y1, y2⟩ := smL_mem2 m1 (List.mem_append_right _ hz)
          obtain ⟨y', y3, y4⟩ := n4 y (by rw [hms]; exact y1)
          exact ⟨y', y3, y4.tr y2⟩
        · rw [zt2 n c] at hz
          exact n3 n (by omega) (by omega) z hz
      · obtain ⟨y1, y2, y3⟩ := smL_mem2 m1 (List.mem_append_left _ hy)
        obtain ⟨y', y4, y5⟩ := n4 y1 (by rw [hms]; exact y2)
        exact ⟨y', y4, y5.tr y3⟩
      · rcases n5 y hy with ⟨y', q1, q2⟩ | ⟨n, q1, q2, z, q3, q4⟩
        · rw [hms] at q1
          obtain ⟨y2, q3, q4⟩ := smL_mem m1 q1
          rcases List.mem_append.mp q3 with q | q
          · exact Or.inl ⟨y2, q, q2.tr q4⟩
          · exact Or.inr ⟨i, Nat.le_refl _, by omega, y2, by rw [zt1]; exact q, q2.tr q4⟩
        · exact Or.inr ⟨n, by omega, by omega, z, by rw [zt2 n (by omega)]; exact q3, q4⟩
      · by_cases c : n = i
        · rw [c, zt1] at hz; exact t5 z hz
        · rw [zt2 n c] at hz; rw [← b1.ep]; exact n8 n (by omega) (by omega) z hz
/-- what a TICK does -/
def T1 (P : Pm) (g : Gh) (l : Nat) (S T : SS) (Zs : Nat → List Mg) : Prop :=
  ∃ (Zm Za : List Mg), NWr P g.ep l 0 P.nn (S.1, S.2.1, Zm ++ Za, S.2.2.2) T Zs ∧ (∀ z ∈ Zm, z.1 0 = 0 ∧ z.1 3 = nI g.ep) ∧ (∀ j, j < P.nn → bt (S.1 4 15) j = false → ∃ z, z ∈ Zm ∧ z.1 0 = 0 ∧ z.1 2 = nI j ∧ z.1 3 = nI g.ep) ∧ (∀ z ∈ Za, z.1 0 = 2 ∧ z.1 3 = nI g.ep) ∧ (S.1 4 9 = S.1 4 8 → Za = []) ∧
    (¬ S.1 4 9 = S.1 4 8 → ¬ nof P.f 0 (S.1 4 14) P.nn 0 0 < 0 → ∃ bm, Za = [askM P.nn (nof P.f 0 (S.1 4 14) P.nn 0 0) (S.1 4 9) (S.1 4 12) (S.1 4 13) (S.1 4 14) (S.2.1 ((S.1 4 9).toNatClampNeg % 24)) bm])
theorem RG.tk {P : Pm} {g : Gh} {l : Nat} {S T : SS} (hP : PmO P) (hl : l < P.nn) (h : RG P g l S) (hms : S.2.2.1 = []) (hr : tkR P.nn P.gg P.C P.f S T) : ∃ g' Zs, Gs g g' ∧ RG P g' l T ∧ T1 P g l S T Zs := by
  obtain ⟨hS, hlen, hld, hep, hmE, h1, h2, hgd⟩ := h
  have hnn := hP.nn
  obtain ⟨g', b1, b2, b3, b4, b5, b6, b7, _⟩ := tk_C hP hl hS hld hms h2 (fun n hn _ j hj => Or.inl (hep j (by omega))) hr
  obtain ⟨g3, _, e2, _⟩ := GIX.tick hP ⟨hS.1, hlen, hS.2.2, hgd⟩ hr
  obtain ⟨u, b, ms1, ms2, r1, r2, r3⟩ := hr
  obtain ⟨he, ha⟩ := hS.1.as
  obtain ⟨Z1, a1, a2, a3, a4⟩ := tm_z P.nn 0 (by omega) r1
  obtain ⟨Z2, c1, c2, c3, c4⟩ := ask_z r2
  have r1' := r1
  rw [ha.ep.1, ha.ep.2] at r1'
  have mo1 := tm_ok (Nat.le_refl _) rfl P.nn 0 _ _ hS.1.ms r1'
  have mo2 := ask_ok hS.1.go ha mo1 r2
  rw [hms] at a1
  have e3 : ms2 = Z1 ++ Z2 := by
    rw [c1, a1, ← psl_app, psl_fit (Z1 ++ Z2) (by rw [List.length_append]; show 0 + _ ≤ 128; omega)]
    rfl
  have hSU : SU P g (S.1, S.2.1, ms2, S.2.2.2) := ⟨⟨hS.1.go, hS.1.ep, hS.1.as, mo2, hS.1.nd⟩, hS.2.1, fun x hx => by
    have hx : x ∈ ms2 := hx
    rw [e3] at hx
    rcases List.mem_append.mp hx with q | q
    · exact MS.k0 (a3 x q).1
    · exact MS.k2 (c3 x q).1⟩
  obtain ⟨Zs, hz⟩ := nw_R hP hl P.nn 0 (by omega) hSU hld hep (fun n _ hn e => by
    subst e
    exact (hgd n hn (hS.2.1 n hn) (by rw [(hS.nu hn).ep.2.2.1, hep n hn]; exact hld)).1) (by
    show ms2.length + P.nn + (if 0 ≤ l then 97 else 0) ≤ 128
    rw [if_pos (Nat.zero_le _), e3, List.length_append]
    omega) r3
  refine ⟨g', Zs, b1, ⟨b2, b3, by rw [lds_gs b1, b1.ep]; exact hld, fun n hn => ?_, fun y hy => ?_, b6, b7, e2.2.2.2.hd (Nat.le_of_eq (GI.hde e2.1 b2.1))⟩, Z1, Z2, by rw [← e3]; exact hz, fun z hz => ⟨(a3 z hz).1, by rw [(a3 z hz).2]; exact ha.ep.1⟩, fun j hj hb => ?_, fun z hz => ⟨(c3 z hz).1, by rw [(c3 z hz).2]; exact ha.ep.1⟩, fun q => ?_, fun q1 q2 => ?_⟩
  · have hT := b2.nu hn
    have hN := hS.nu hn
    obtain ⟨z1, _⟩ := hz
    obtain ⟨D1, Zf, f1, f2⟩ := z1 n (Nat.zero_le _) (by omega)
    have e0 : T.2.2.2.1 n 0 = S.2.2.2.1 n 0 := by
      rcases f2 with ⟨_, q, _⟩ | ⟨_, D2, Zw, q1, _, _, _, _, _, q7, _⟩
      · rw [q]; exact f1.2.1 0 (by decide) (by decide) (by decide)
      · rw [q7 0 (by decide), q1 0 (by decide)]; exact f1.2.1 0 (by decide) (by decide) (by decide)
    unfold eN
    rw [e0, b1.ep]
    exact hep n hn
  · rw [b1.ep]
    obtain ⟨_, _, _, _, z5, _, _, z8⟩ := hz
    rcases z5 y hy with ⟨y', q1, q2⟩ | ⟨n, q1, q2, z, q3, q4⟩
    · rw [q2.1]
      have q1 : y' ∈ ms2 := q1
      rw [e3] at q1
      rcases List.mem_append.mp q1 with q | q
      · rw [(a3 y' q).2]; exact ha.ep.1
      · rw [(c3 y' q).2]; exact ha.ep.1
    · rw [q4.1]; exact z8 n q1 q2 z q3
  · obtain ⟨z, z1, z2, z3, z4⟩ := a4 j (Nat.zero_le _) (by omega) hb
    exact ⟨z, z1, z2, z3, by rw [z4]; exact ha.ep.1⟩
  · rcases r2 with ⟨_, y⟩ | ⟨y, _⟩
    · rw [y, a1] at e3
      rw [psl_fit Z1 (by show 0 + _ ≤ 128; omega)] at e3
      have := congrArg List.length e3
      rw [List.length_append, List.length_append] at this
      have h0 : ([] : List Mg).length = 0 := rfl
      exact List.eq_nil_of_length_eq_zero (by omega)
    · exact absurd q y
  · obtain ⟨z, bm, y1, y2⟩ := c4 q1 q2
    exact ⟨bm, by rw [y1, y2]⟩
/-- a drain keeps what each hand-over keeps -/
theorem RG.it {P : Pm} {l : Nat} {I : Gh → SS → Prop} (hP : PmO P) (hl : l < P.nn) (hI : ∀ g g' S S' x Z, RG P g l S → I g S → St1 P g l x Z S S' → Gs g g' → RG P g' l S' → I g' S') : ∀ (k : Nat) {g : Gh} {S S' : SS}, RG P g l S → I g S → itR (thR P.nn P.gg P.C P.f) k S S' → ∃ g', Gs g g' ∧ RG P g' l S' ∧ I g' S'
  | 0, g, S, S', h, hi, hr => by
    have hr : S' = S := hr
    rw [hr]; exact ⟨g, Gs.rf g, h, hi⟩
  | k + 1, g, S, S', h, hi, hr => by
    obtain ⟨S1, r1, r2⟩ := hr
    obtain ⟨g1, a1, a2, a3⟩ := RG.it hP hl hI k h hi r1
    obtain ⟨x, Z, hst⟩ := a2.st hP hl r2
    obtain ⟨g2, c1, c2⟩ := a2.th hP hl r2
    exact ⟨g2, a1.tr c1, c2, hI g1 g2 S1 S' x Z a2 a3 hst c1 c2⟩
theorem RG.dr {P : Pm} {g : Gh} {l : Nat} {S S' : SS} {I : Gh → SS → Prop} (hP : PmO P) (hl : l < P.nn) (hI : ∀ g g' S S' x Z, RG P g l S → I g S → St1 P g l x Z S S' → Gs g g' → RG P g' l S' → I g' S') (h : RG P g l S) (hi : I g S) (hr : drR P.nn P.gg P.C P.f S S') : S'.2.2.1 = [] ∧ ∃ g', Gs g g' ∧ RG P g' l S' ∧ I g' S' := by
  obtain ⟨hS, hlen, hld, hep, hmE, h1, h2, hgd⟩ := h
  refine ⟨(dr_C hP hl hS hlen hld h1 h2 hr).1, ?_⟩
  obtain ⟨k, _, z, _⟩ := hr
  exact RG.it hP hl hI k ⟨hS, hlen, hld, hep, hmE, h1, h2, hgd⟩ hi z

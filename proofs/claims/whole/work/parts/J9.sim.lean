/-! the store and the reference, side by side -/
theorem b8_eq (x : Int32) {n : Nat} (hn : n ≤ 24) : (vp_nar .byte (x >>> (nI n &&& 31)).toInt8.toInt32) &&& 255 = ((x.toUInt32 >>> ((nI n).toUInt32 &&& Int32.toUInt32 31)).toInt32) &&& 255 := by
  rw [nar_b]
  have e : (x >>> (nI n &&& 31)).toInt8.toInt32 &&& 255 = (x >>> (nI n &&& 31)) &&& 255 := nar_b (x >>> (nI n &&& 31))
  rw [e]
  refine b_ext (fun i hi => ?_)
  rw [b_and, b_and, b_255 i hi, b_ushr n (by omega), b_sshr n (by omega) x hi]
  by_cases c : i < 8
  · rw [if_pos (by omega)]
  · rw [decide_eq_false c, Bool.and_false, Bool.and_false]
theorem byt_3 (v : Int32) : bytA (fun _ => v) 3 = v &&& 255 := b_ext (fun i hi => by
  rw [byt_b _ _ hi, b_and, b_255 i hi, Bool.and_comm, show 24 - 8 * (3 % 4) + i = i by omega])
theorem setB_byt (t : Nat → Int32) (l : Nat) (v : Int32) (y : Nat) : bytA (setB t l v) y = if y = l then v &&& 255 else bytA t y := by
  have := byt_put t (fun _ => v) 3 l y
  rw [byt_3] at this
  exact this
/-- four bytes more -/
theorem tape_4 {t g : Nat → Int32} {l : Nat} {x : Int32} (h : ∀ y, y < l → rby g 0 y = uN (bytA t y)) : ∀ y, y < l + 4 → rby (ptB g l x) 0 y = uN (bytA (setW t l x) y) := fun y hy => by
  unfold setW
  rw [setB_byt, setB_byt, setB_byt, setB_byt]
  unfold rby ptB
  rw [Nat.zero_add]
  by_cases c3 : y = l + 3
  · rw [if_pos c3, c3, pk_us]
    exact congrArg uN (b8_eq x (n := 0) (by decide))
  rw [if_neg c3, pk_un c3]
  by_cases c2 : y = l + 2
  · rw [if_pos c2, c2, pk_us]
    exact congrArg uN (b8_eq x (n := 8) (by decide))
  rw [if_neg c2, pk_un c2]
  by_cases c1 : y = l + 1
  · rw [if_pos c1, c1, pk_us]
    exact congrArg uN (b8_eq x (n := 16) (by decide))
  rw [if_neg c1, pk_un c1]
  by_cases c0 : y = l
  · rw [if_pos c0, c0, pk_us]
    exact congrArg uN (b8_eq x (n := 24) (by decide))
  rw [if_neg c0, pk_un c0]
  have := h y (by omega)
  unfold rby at this
  rw [Nat.zero_add] at this
  exact this
def sA (E M : Nat → Nat → Int32) : Prop := M 0 4 = E 4 14 ∧ M 0 5 = E 4 13 ∧ M 0 6 = E 100 9 ∧ M 0 7 = E 100 10
def sU (nn : Nat) (D : Nat → Nat → Nat → Int32) (M : Nat → Nat → Int32) : Prop := ∀ n, n < 32 → (bt (M 0 3) n = true ↔ n < nn ∧ ¬ D n 0 6 = 0)
def sT (E M : Nat → Nat → Int32) : Prop := ∃ l, l ≤ 2048 ∧ E 4 3 = nI l ∧ M 0 9 = nI l ∧ ∀ y, y < l → rby (M 8) 0 y = uN (bytA (E 5) y)
def sN (E M : Nat → Nat → Int32) : Prop := EZn E ∧ ∀ k, k < 2 → ∃ l, l ≤ 200 ∧ E 7 k = nI l ∧ M 11 k = nI l ∧ ∀ y, y < l → rby (M 10) (200 * k) y = nby (E 6) (50 * k) y
def sH (g : Gh) (M : Nat → Nat → Int32) : Prop := M 0 25 = nI g.bg ∧ M 0 26 = nI (g.bg - g.sn) ∧ JJ g.ops g.sn (g.bg - g.sn) 0 M
def sD (g : Gh) (E M : Nat → Nat → Int32) : Prop := ∃ sc, sc ≤ g.sn ∧ g.sn ≤ sc + 12 ∧ E 4 11 = nI sc ∧ M 0 37 = nI sc ∧ M 0 38 = nI (g.sn - sc) ∧ ∀ v, v < g.sn - sc → TDw M v (tsp g.ops (sc + v)) (g.ops (sc + v))
def sC (E M : Nat → Nat → Int32) : Prop := M 0 22 = E 58 9 ∧ M 0 23 = E 100 7 ∧ M 0 24 = E 100 8
def sK (P : Pm) (g : Gh) (E M : Nat → Nat → Int32) (D : Nat → Nat → Nat → Int32) : Prop := E 100 10 = 0 ∨ (E 100 10 = 1 ∧ CBO P g E M D)
def SIM (P : Pm) (g : Gh) (S : SS) (M : Nat → Nat → Int32) : Prop := sA S.1 M ∧ sU P.nn S.2.2.2.1 M ∧ sT S.1 M ∧ sN S.1 M ∧ sH g M ∧ sD g S.1 M ∧ sC S.1 M ∧ sK P g S.1 M S.2.2.2.1
/-- the fields of the reference that the FILES and what was told hang on -/
def mF (M M' : Nat → Nat → Int32) : Prop := (∀ k, 12 ≤ k → k ≤ 19 → M' k = M k) ∧ M' 0 20 = M 0 20 ∧ M' 0 21 = M 0 21
def mO (M M' : Nat → Nat → Int32) : Prop := (∀ k, 27 ≤ k → k ≤ 36 → M' k = M k) ∧ ∀ k, 22 ≤ k → k ≤ 38 → M' 0 k = M 0 k
theorem RF.mf {M M' : Nat → Nat → Int32} {T : TS} (h : RF M T) (e : mF M M') : RF M' T := by
  obtain ⟨c, to, h1, h2, h3, h4⟩ := h
  have k := e.1
  refine ⟨c, to, e.2.1.trans h1, e.2.2.trans h2, ?_, ?_⟩
  · rw [k 12 (by decide) (by decide), k 13 (by decide) (by decide), k 15 (by decide) (by decide), k 16 (by decide) (by decide), k 17 (by decide) (by decide)]; exact h3
  · obtain ⟨a1, a2, a3, a4⟩ := h4
    have hk : ∀ f g, kLt M f g → kLt M' f g := fun f g z => by
      unfold kLt at z ⊢
      rw [k 14 (by decide) (by decide), k 15 (by decide) (by decide)]; exact z
    rw [k 12 (by decide) (by decide)]
    refine ⟨fun f hf => ?_, fun i i1 i2 => ?_, fun f g hf hg => ?_, a4.imp (fun {f g} z => hk f g z)⟩
    · obtain ⟨b1, i, b2, b3, b4⟩ := a1 f hf
      refine ⟨b1, i, b2, b3, ?_⟩
      unfold RFe at b4 ⊢
      rw [k 14 (by decide) (by decide), k 15 (by decide) (by decide), k 16 (by decide) (by decide), k 17 (by decide) (by decide), k 18 (by decide) (by decide), k 19 (by decide) (by decide)]
      exact b4
    · rw [k 16 (by decide) (by decide)]; exact a2 i i1 i2
    · rw [k 16 (by decide) (by decide)]; exact a3 f g hf hg
theorem OD.mo {M M' : Nat → Nat → Int32} {w : Nat} {m : Mg} (h : OD M w m) (e : ∀ k, 27 ≤ k → k ≤ 33 → M' k = M k) : OD M' w m := by
  unfold OD at h ⊢
  rw [e 27 (by decide) (by decide), e 28 (by decide) (by decide), e 29 (by decide) (by decide), e 30 (by decide) (by decide), e 31 (by decide) (by decide), e 32 (by decide) (by decide), e 33 (by decide) (by decide)]
  exact h
theorem sH.mf {g g' : Gh} {M M' : Nat → Nat → Int32} (h : sH g M) (eg : GE g g') (e1 : mF M M') (e2 : mO M M') : sH g' M' := by
  obtain ⟨a1, a2, a3, a4, a5, a6⟩ := h
  unfold sH JJ
  rw [eg.1, eg.2.1, eg.2.2, e2.2 25 (by decide) (by decide), e2.2 26 (by decide) (by decide)]
  exact ⟨a1, a2, a3.mf e1, fun v hv => (a4 v hv).mo (fun k k1 k2 => e2.1 k k1 (by omega)), fun o ho => by rw [e2.1 34 (by decide) (by decide)]; exact a5 o ho, fun v hv => absurd hv (Nat.not_lt_zero _)⟩
theorem TDw.mo {M M' : Nat → Nat → Int32} {w : Nat} {T : TS} {m : Mg} (h : TDw M w T m) (e : ∀ k, 27 ≤ k → k ≤ 36 → M' k = M k) : TDw M' w T m := by
  unfold TDw at h ⊢
  rw [e 35 (by decide) (by decide), e 36 (by decide) (by decide)]; exact h
theorem sD.mf {g g' : Gh} {E E' M M' : Nat → Nat → Int32} (h : sD g E M) (eg : GE g g') (e11 : E' 4 11 = E 4 11) (e2 : mO M M') : sD g' E' M' := by
  obtain ⟨sc, a1, a2, a3, a4, a5, a6⟩ := h
  refine ⟨sc, by rw [eg.2.2]; exact a1, by rw [eg.2.2]; exact a2, e11.trans a3, (e2.2 37 (by decide) (by decide)).trans a4, ?_, fun v hv => ?_⟩
  · rw [e2.2 38 (by decide) (by decide), eg.2.2]; exact a5
  · rw [eg.1]
    rw [eg.2.2] at hv
    exact (a6 v hv).mo e2.1
theorem sC.mf {E E' M M' : Nat → Nat → Int32} (h : sC E M) (e58 : E' 58 9 = E 58 9) (e7 : E' 100 7 = E 100 7) (e8 : E' 100 8 = E 100 8) (e2 : mO M M') : sC E' M' := ⟨by rw [e2.2 22 (by decide) (by decide), e58]; exact h.1, by rw [e2.2 23 (by decide) (by decide), e7]; exact h.2.1, by rw [e2.2 24 (by decide) (by decide), e8]; exact h.2.2⟩
theorem sK.mf {P : Pm} {g : Gh} {E E' M M' : Nat → Nat → Int32} {D : Nat → Nat → Nat → Int32} (h : sK P g E M D) (e0 : ∀ q, q = 0 ∨ q = 58 ∨ q = 59 ∨ q = 60 ∨ q = 61 ∨ q = 62 ∨ q = 63 ∨ q = 64 ∨ q = 100 → E' q = E q) (e14 : E' 4 14 = E 4 14) (e1 : mF M M') : sK P g E' M' D := by
  unfold sK CBO CAT at h ⊢
  rw [e0 0 (by omega), e0 58 (by omega), e0 59 (by omega), e0 60 (by omega), e0 61 (by omega), e0 62 (by omega), e0 63 (by omega), e0 64 (by omega), e0 100 (by omega), e14]
  rcases h with z | ⟨z, a, b, c, d⟩
  · exact Or.inl z
  · exact Or.inr ⟨z, a, b, c.mf e1, d⟩
theorem mF.nc (M : Nat → Nat → Int32) : mF M (ncM M) ∧ mO M (ncM M) := by
  unfold ncM
  refine ⟨⟨fun k k1 k2 => va_up_n _ _ (by omega), rfl, rfl⟩, fun k k1 k2 => va_up_n _ _ (by omega), fun k k1 k2 => ?_⟩
  rw [va_up_s, pk_un (by omega)]
theorem ncm_v (S : SS) : (∀ q, ¬ q = 100 → (ncm S).1 q = S.1 q) ∧ (ncm S).1 100 = upd (S.1 100) 10 0 := ⟨fun q hq => by show va_up S.1 100 (upd (S.1 100) 10 0) q = _; rw [va_up_n _ _ hq], by show va_up S.1 100 (upd (S.1 100) 10 0) 100 = _; rw [va_up_s]⟩
theorem SIM.nop {P : Pm} {g g' : Gh} {S S' : SS} {M : Nat → Nat → Int32} (h : SIM P g S M) (eg : GE g g') (hk : EK (ncm S).1 S'.1) (hR : GR P.nn S.2.2.2.1 S'.2.2.2.1) : SIM P g' S' (ncM M) := by
  obtain ⟨⟨a1, a2, a3, a4⟩, hU, ⟨l, t1, t2, t3, t4⟩, ⟨n0, n1⟩, hH, hD, hC, _⟩ := h
  obtain ⟨f1, f2⟩ := mF.nc M
  have q : ∀ q, ¬ q = 4 → ¬ q = 9 → ¬ q = 100 → S'.1 q = S.1 q := fun q h4 h9 h1 => (hk.1 q h4 h9).trans ((ncm_v S).1 q h1)
  have q4 : ∀ x, x = 3 ∨ x = 8 ∨ x = 10 ∨ x = 11 ∨ x = 13 ∨ x = 14 → S'.1 4 x = S.1 4 x := fun x hx => (hk.2 x hx).trans (by rw [(ncm_v S).1 4 (by decide)])
  have q100 : S'.1 100 = upd (S.1 100) 10 0 := (hk.1 100 (by decide) (by decide)).trans (ncm_v S).2
  refine ⟨⟨?_, ?_, ?_, ?_⟩, fun n hn => ?_, ⟨l, t1, by rw [q4 3 (by omega)]; exact t2, t3, fun y hy => ?_⟩, ⟨?_, fun k hk => ?_⟩, hH.mf eg f1 f2, hD.mf eg (q4 11 (by omega)) f2, hC.mf (by rw [q 58 (by decide) (by decide) (by decide)]) (by rw [q100, pk_un (by decide)]) (by rw [q100, pk_un (by decide)]) f2, Or.inl (by rw [q100, pk_us])⟩
  · rw [q4 14 (by omega)]; exact a1
  · rw [q4 13 (by omega)]; exact a2
  · rw [q100, pk_un (by decide)]; exact a3
  · rw [q100, pk_us]; rfl
  · show bt (M 0 3) n = true ↔ _
    rw [hU n hn]
    exact ⟨fun z => ⟨z.1, by rw [hR n z.1]; exact z.2⟩, fun z => ⟨z.1, by rw [← hR n z.1]; exact z.2⟩⟩
  · rw [q 5 (by decide) (by decide) (by decide)]; exact t4 y hy
  · unfold EZn
    rw [q 6 (by decide) (by decide) (by decide), q 7 (by decide) (by decide) (by decide)]; exact n0
  · rw [q 6 (by decide) (by decide) (by decide), q 7 (by decide) (by decide) (by decide)]; exact n1 k hk
theorem fdM_v (M : Nat → Nat → Int32) (l : Nat) (a b c d e : Int32) : (∀ k, ¬ k = 0 → ¬ k = 8 → fdM M l a b c d e k = M k) ∧ (∀ k, ¬ k = 9 → fdM M l a b c d e 0 k = M 0 k) ∧ fdM M l a b c d e 0 9 = nI (l + 20) ∧ fdM M l a b c d e 8 = ptB (ptB (ptB (ptB (ptB (M 8) l a) (l + 4) b) (l + 8) c) (l + 12) d) (l + 16) e := by
  refine ⟨fun k h0 h8 => fdM_k h0 h8, fun k h9 => ?_, rfl, rfl⟩
  unfold fdM ptM
  simp only [va_up_n _ _ (show (0 : Nat) ≠ 8 by decide), va_up_s]
  rw [pk_un h9, pk_un h9, pk_un h9, pk_un h9, pk_un h9]
theorem SIM.fe {P : Pm} {g : Gh} {S S' : SS} {M M' : Nat → Nat → Int32} {a b c d e y y' : Int32} (h : SIM P g S M) (h1 : feR a b c d e S y S') (h2 : feM a b c d e M y' M') : y = y' ∧ SIM P g S' M' ∧ (S' = S ∨ ∃ l, S' = (fdE S.1 l a b c d e, S.2)) := by
  obtain ⟨hA, hU, ⟨l, t1, t2, t3, t4⟩, hN, hH, hD, hC, hK⟩ := id h
  obtain ⟨l1, _, e1, h1⟩ := h1
  obtain ⟨l2, _, e2, h2⟩ := h2
  have q1 : l1 = l := nI_inj (by omega) (by omega) (e1.symm.trans t2)
  have q2 : l2 = l := nI_inj (by omega) (by omega) (e2.symm.trans t3)
  subst q1
  subst q2
  rcases h1 with ⟨c1, rfl, rfl⟩ | ⟨c1, rfl, rfl⟩
  · rcases h2 with ⟨_, rfl, rfl⟩ | ⟨c2, _⟩
    · exact ⟨rfl, h, Or.inl rfl⟩
    · omega
  · rcases h2 with ⟨c2, _⟩ | ⟨_, rfl, rfl⟩
    · omega
    · obtain ⟨v1, v2, v3, v4⟩ := fdM_v M l2 a b c d e
      have f1 : mF M (fdM M l2 a b c d e) := ⟨fun k k1 k2 => v1 k (by omega) (by omega), v2 20 (by decide), v2 21 (by decide)⟩
      have f2 : mO M (fdM M l2 a b c d e) := ⟨fun k k1 k2 => v1 k (by omega) (by omega), fun k k1 k2 => v2 k (by omega)⟩
      have q : ∀ q, ¬ q = 4 → ¬ q = 5 → fdE S.1 l2 a b c d e q = S.1 q := fun q h4 h5 => by unfold fdE; rw [va_up_n _ _ h5, va_up_n _ _ h4]
      have q4 : ∀ x, ¬ x = 3 → fdE S.1 l2 a b c d e 4 x = S.1 4 x := fun x hx => by unfold fdE; rw [va_up_n _ _ (by decide), va_up_s, pk_un hx]
      refine ⟨rfl, ⟨⟨?_, ?_, ?_, ?_⟩, fun n hn => ?_, ⟨l2 + 20, by omega, ?_, v3, fun y hy => ?_⟩, ?_, hH.mf (GE.rf g) f1 f2, hD.mf (GE.rf g) (q4 11 (by decide)) f2, hC.mf (by show fdE S.1 l2 a b c d e 58 9 = _; rw [q 58 (by decide) (by decide)]) (by show fdE S.1 l2 a b c d e 100 7 = _; rw [q 100 (by decide) (by decide)]) (by show fdE S.1 l2 a b c d e 100 8 = _; rw [q 100 (by decide) (by decide)]) f2, hK.mf (fun x hx => q x (by omega) (by omega)) (q4 14 (by decide)) f1⟩, Or.inr ⟨l2, rfl⟩⟩
      · show _ = fdE S.1 l2 a b c d e 4 14
        rw [v2 4 (by decide), q4 14 (by decide)]; exact hA.1
      · show _ = fdE S.1 l2 a b c d e 4 13
        rw [v2 5 (by decide), q4 13 (by decide)]; exact hA.2.1
      · show _ = fdE S.1 l2 a b c d e 100 9
        rw [v2 6 (by decide), q 100 (by decide) (by decide)]; exact hA.2.2.1
      · show _ = fdE S.1 l2 a b c d e 100 10
        rw [v2 7 (by decide), q 100 (by decide) (by decide)]; exact hA.2.2.2
      · rw [v2 3 (by decide)]; exact hU n hn
      · show fdE S.1 l2 a b c d e 4 3 = _
        unfold fdE
        rw [va_up_n _ _ (by decide), va_up_s, pk_us]
      · show _ = uN (bytA (fdE S.1 l2 a b c d e 5) y)
        rw [v4]
        unfold fdE
        rw [va_up_s]
        exact tape_4 (tape_4 (tape_4 (tape_4 (tape_4 t4)))) y (by omega)
      · unfold sN EZn
        show (nzP (nby (fdE S.1 l2 a b c d e 6) 0) _ ∧ _) ∧ ∀ k, k < 2 → ∃ l, l ≤ 200 ∧ fdE S.1 l2 a b c d e 7 k = nI l ∧ _
        rw [q 6 (by decide) (by decide), q 7 (by decide) (by decide), v1 10 (by decide) (by decide), v1 11 (by decide) (by decide)]
        exact hN
theorem SIM.en {P : Pm} {g : Gh} {S S' : SS} {M M' : Nat → Nat → Int32} {x y y' : Int32} (h : SIM P g S M) (h1 : enR x S y S') (h2 : enM x M y' M') : y = y' ∧ SIM P g S' M' ∧ (S' = S ∨ ∃ v, S' = (va_up S.1 4 (upd (S.1 4) 3 v), S.2)) := by
  obtain ⟨hA, hU, ⟨l, t1, t2, t3, t4⟩, hN, hH, hD, hC, hK⟩ := id h
  obtain ⟨l1, _, e1, h1⟩ := h1
  obtain ⟨l2, _, e2, h2⟩ := h2
  have q1 : l1 = l := nI_inj (by omega) (by omega) (e1.symm.trans t2)
  have q2 : l2 = l := nI_inj (by omega) (by omega) (e2.symm.trans t3)
  subst q1
  subst q2
  rcases h1 with ⟨c1, rfl, rfl⟩ | ⟨c1, c2, rfl, rfl⟩
  · rcases h2 with ⟨_, rfl, rfl⟩ | ⟨d1, d2, _⟩
    · exact ⟨rfl, h, Or.inl rfl⟩
    · exact absurd c1 (fun z => z.elim d1 (fun z => absurd d2 (Int32.not_le.mpr z)))
  · rcases h2 with ⟨d1, _⟩ | ⟨_, _, rfl, rfl⟩
    · exact absurd d1 (fun z => z.elim c1 (fun z => absurd c2 (Int32.not_le.mpr z)))
    · obtain ⟨k, hk, rfl⟩ := natOf c1
      have hkl := (nI_leI hk (show l2 < 2 ^ 31 by omega)).mp c2
      have f1 : mF M (va_up M 0 (upd (M 0) 9 (nI k))) := ⟨fun j k1 k2 => va_up_n _ _ (by omega), rfl, rfl⟩
      have f2 : mO M (va_up M 0 (upd (M 0) 9 (nI k))) := ⟨fun j k1 k2 => va_up_n _ _ (by omega), fun j k1 k2 => by rw [va_up_s, pk_un (by omega)]⟩
      have q : ∀ q, ¬ q = 4 → va_up S.1 4 (upd (S.1 4) 3 (nI k)) q = S.1 q := fun q h4 => va_up_n _ _ h4
      have q4 : ∀ x, ¬ x = 3 → va_up S.1 4 (upd (S.1 4) 3 (nI k)) 4 x = S.1 4 x := fun x hx => by rw [va_up_s, pk_un hx]
      refine ⟨rfl, ⟨⟨?_, ?_, hA.2.2.1, hA.2.2.2⟩, hU, ⟨k, by omega, ?_, rfl, fun y hy => t4 y (by omega)⟩, hN, hH.mf (GE.rf g) f1 f2, hD.mf (GE.rf g) (q4 11 (by decide)) f2, hC, hK.mf (fun x hx => q x (by omega)) (q4 14 (by decide)) f1⟩, Or.inr ⟨nI k, rfl⟩⟩
      · show _ = va_up S.1 4 (upd (S.1 4) 3 (nI k)) 4 14
        rw [q4 14 (by decide)]; exact hA.1
      · show _ = va_up S.1 4 (upd (S.1 4) 3 (nI k)) 4 13
        rw [q4 13 (by decide)]; exact hA.2.1
      · show va_up S.1 4 (upd (S.1 4) 3 (nI k)) 4 3 = _
        rw [va_up_s, pk_us]

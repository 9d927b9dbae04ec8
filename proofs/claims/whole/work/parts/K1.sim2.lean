/-! name, begin, side by side -/
theorem byt_0 (f : Nat → Int32) (y : Nat) (h : f (y / 4) = 0) : bytA f y = 0 := b_ext (fun i hi => by rw [byt_b f y hi, h, b_0, b_0, Bool.and_false])
theorem rby_rg {g f : Nat → Int32} {a n j y : Nat} (h1 : a ≤ j + y) (h2 : j + y < a + n) : rby (rgF (fun i => vp_nar .byte (g i)) a n f) j y = rby g 0 (j + y - a) := by
  unfold rby
  rw [rgF_i h1 h2, nar_b, Nat.zero_add]
theorem rby_ro {g f : Nat → Int32} {a n j y : Nat} (h : ¬ (a ≤ j + y ∧ j + y < a + n)) : rby (rgF g a n f) j y = rby f j y := by
  unfold rby
  rw [rgF_o h]
theorem nm_byt {E : Nat → Nat → Int32} {k l j y : Nat} (hl : l ≤ 200) (hy : y < 200) : nby (nmE E k l 6) (50 * j) y = if j = k then (if y < l then uN (bytA (E 5) y) else 0) else nby (E 6) (50 * j) y := by
  have e6 : nmE E k l 6 = mvF (E 5) 0 (k * 200) l (ax_fill (E 6) (k * 50) ((k + 1) * 50) 0) := by
    unfold nmE
    rw [va_up_n _ _ (by decide), va_up_s]
  unfold nby
  rw [e6, mvF_byt]
  by_cases e : j = k
  · subst e
    rw [if_pos rfl]
    by_cases c : y < l
    · rw [if_pos (by omega), if_pos c]
      congr 2
      omega
    · rw [if_neg (by omega), if_neg c, byt_0 _ _ (ax_fill_in _ _ (by omega) (by omega))]
      rfl
  · rw [if_neg (by omega), if_neg e]
    refine congrArg uN (byt_cg ?_ rfl)
    show ax_fill (E 6) (k * 50) ((k + 1) * 50) 0 ((4 * (50 * j) + y) / 4) = E 6 ((4 * (50 * j) + y) / 4)
    exact if_neg (by omega)
theorem SIM.na {P : Pm} {g : Gh} {S S' : SS} {M M' : Nat → Nat → Int32} {x y y' : Int32} (h : SIM P g S M) (h1 : naR x S y S') (h2 : naM x M y' M') : y = y' ∧ SIM P g S' M' ∧ (S' = S ∨ ∃ k l, S' = (nmE S.1 k l, S.2)) := by
  obtain ⟨hA, hU, ⟨l, t1, t2, t3, t4⟩, ⟨n0, n1⟩, hH, hD, hC, hK⟩ := id h
  obtain ⟨l1, _, e1, h1⟩ := h1
  obtain ⟨l2, _, e2, h2⟩ := h2
  have q1 : l1 = l := nI_inj (by omega) (by omega) (e1.symm.trans t2)
  have q2 : l2 = l := nI_inj (by omega) (by omega) (e2.symm.trans t3)
  subst q1
  subst q2
  have hcl : ∀ k : Nat, k < 2 → ¬ (nI k < 0 ∨ 1 < nI k) := fun k hk z => by
    rcases z with z | z
    · exact nI_pos (by omega) z
    · have := (nI_ltI (a := 1) (by decide) (by omega)).mp z
      omega
  rcases h1 with ⟨c1, rfl, rfl⟩ | ⟨k, k2, kl, rfl, rfl, rfl⟩
  · rcases h2 with ⟨_, rfl, rfl⟩ | ⟨k, k2, kl, rfl, _⟩
    · exact ⟨rfl, h, Or.inl rfl⟩
    · exfalso
      rcases c1 with z | z | z
      · exact hcl k k2 (Or.inl z)
      · exact hcl k k2 (Or.inr z)
      · omega
  · rcases h2 with ⟨c1, _⟩ | ⟨k', k2', kl', ek, rfl, rfl⟩
    · exfalso
      rcases c1 with z | z | z
      · exact hcl k k2 (Or.inl z)
      · exact hcl k k2 (Or.inr z)
      · omega
    · have : k = k' := nI_inj (by omega) (by omega) ek
      subst this
      have w : ∀ j, ¬ j = 0 → ¬ j = 10 → ¬ j = 11 → nmM M k l2 j = M j := fun j a b c => by unfold nmM; rw [va_up_n _ _ c, va_up_n _ _ b, va_up_n _ _ a]
      have w0 : nmM M k l2 0 = upd (M 0) 9 0 := by unfold nmM; rw [va_up_n _ _ (by decide), va_up_n _ _ (by decide), va_up_s]
      have w10 : nmM M k l2 10 = rgF (fun i => vp_nar .byte (M 8 i)) (200 * k) l2 (M 10) := by unfold nmM; rw [va_up_n _ _ (by decide), va_up_s]
      have w11 : nmM M k l2 11 = upd (M 11) k (nI l2) := by unfold nmM; rw [va_up_s]
      have f1 : mF M (nmM M k l2) := ⟨fun j k1 k2 => w j (by omega) (by omega) (by omega), by rw [w0, pk_un (by decide)], by rw [w0, pk_un (by decide)]⟩
      have f2 : mO M (nmM M k l2) := ⟨fun j k1 k2 => w j (by omega) (by omega) (by omega), fun j k1 k2 => by rw [w0, pk_un (by omega)]⟩
      have q : ∀ q, ¬ q = 4 → ¬ q = 6 → ¬ q = 7 → nmE S.1 k l2 q = S.1 q := fun q a b c => by unfold nmE; rw [va_up_n _ _ c, va_up_n _ _ b, va_up_n _ _ a]
      have q4 : ∀ x, ¬ x = 3 → nmE S.1 k l2 4 x = S.1 4 x := fun x hx => by unfold nmE; rw [va_up_n _ _ (by decide), va_up_n _ _ (by decide), va_up_s, pk_un hx]
      have q7 : nmE S.1 k l2 7 = upd (S.1 7) k (nI l2) := by unfold nmE; rw [va_up_s]
      refine ⟨rfl, ⟨⟨?_, ?_, ?_, ?_⟩, fun n hn => ?_, ⟨0, by omega, ?_, by rw [w0, pk_us]; rfl, fun y hy => by omega⟩, ⟨⟨fun b b1 b2 => ?_, fun b b1 b2 => ?_⟩, fun j hj => ?_⟩, hH.mf (GE.rf g) f1 f2, hD.mf (GE.rf g) (q4 11 (by decide)) f2, hC.mf (by show nmE S.1 k l2 58 9 = _; rw [q 58 (by decide) (by decide) (by decide)]) (by show nmE S.1 k l2 100 7 = _; rw [q 100 (by decide) (by decide) (by decide)]) (by show nmE S.1 k l2 100 8 = _; rw [q 100 (by decide) (by decide) (by decide)]) f2, hK.mf (fun x hx => q x (by omega) (by omega) (by omega)) (q4 14 (by decide)) f1⟩, Or.inr ⟨k, l2, rfl⟩⟩
      · show _ = nmE S.1 k l2 4 14
        rw [w0, pk_un (by decide), q4 14 (by decide)]; exact hA.1
      · show _ = nmE S.1 k l2 4 13
        rw [w0, pk_un (by decide), q4 13 (by decide)]; exact hA.2.1
      · show _ = nmE S.1 k l2 100 9
        rw [w0, pk_un (by decide), q 100 (by decide) (by decide) (by decide)]; exact hA.2.2.1
      · show _ = nmE S.1 k l2 100 10
        rw [w0, pk_un (by decide), q 100 (by decide) (by decide) (by decide)]; exact hA.2.2.2
      · rw [w0, pk_un (by decide)]; exact hU n hn
      · show nmE S.1 k l2 4 3 = _
        unfold nmE
        rw [va_up_n _ _ (by decide), va_up_n _ _ (by decide), va_up_s, pk_us]; rfl
      · have b1 : (nmE S.1 k l2 7 0).toNatClampNeg ≤ b := b1
        show nby (nmE S.1 k l2 6) (50 * 0) b = 0
        rw [nm_byt kl b2]
        rw [q7] at b1
        by_cases e : 0 = k
        · rw [if_pos e]
          rw [e, pk_us, nI_clamp (by omega)] at b1
          rw [if_neg (by omega)]
        · rw [if_neg e]
          rw [pk_un e] at b1
          exact n0.1 b b1 b2
      · have b1 : (nmE S.1 k l2 7 1).toNatClampNeg ≤ b := b1
        show nby (nmE S.1 k l2 6) (50 * 1) b = 0
        rw [nm_byt kl b2]
        rw [q7] at b1
        by_cases e : 1 = k
        · rw [if_pos e]
          rw [e, pk_us, nI_clamp (by omega)] at b1
          rw [if_neg (by omega)]
        · rw [if_neg e]
          rw [pk_un e] at b1
          exact n0.2 b b1 b2
      · show ∃ l, l ≤ 200 ∧ nmE S.1 k l2 7 j = nI l ∧ nmM M k l2 11 j = nI l ∧ ∀ y, y < l → rby (nmM M k l2 10) (200 * j) y = nby (nmE S.1 k l2 6) (50 * j) y
        by_cases e : j = k
        · subst e
          refine ⟨l2, kl, by rw [q7, pk_us], by rw [w11, pk_us], fun y hy => ?_⟩
          rw [nm_byt kl (by omega), if_pos rfl, if_pos hy, w10, rby_rg (by omega) (by omega), show 200 * j + y - 200 * j = y by omega]
          exact t4 y hy
        · obtain ⟨l, z1, z2, z3, z4⟩ := n1 j hj
          refine ⟨l, z1, by rw [q7, pk_un e]; exact z2, by rw [w11, pk_un e]; exact z3, fun y hy => ?_⟩
          rw [nm_byt kl (by omega), if_neg e, w10, rby_ro (by omega)]
          exact z4 y hy
/-- begin, where it begins -/
theorem SIM.bg {P : Pm} {g : Gh} {S S' : SS} {M : Nat → Nat → Int32} {kd a b0 : Int32} {l : Nat} {A : Mg} (hG : GO g) (hsn : g.sn ≤ g.bg) (h12 : ¬ 12 ≤ g.bg - g.sn) (hb5 : g.bg < 512) (hkd : inR 10 kd) (h : SIM P g S M) (e9 : M 0 9 = nI l) (hl : l ≤ 2048) (hE : S'.1 = opE (va_up S.1 100 (upd (S.1 100) 10 0)) kd g.bg) (hN : S'.2.2.2 = S.2.2.2) : SIM P (g.beg (opQ (va_up S.1 100 (upd (S.1 100) 10 0)) A kd a b0)) S' (bgM M (g.bg - g.sn) g.bg l kd a b0) := by
  obtain ⟨hA, hU, ⟨l', t1, t2, t3, t4⟩, ⟨n0, n1⟩, ⟨u1, u2, u3, u4, u5, _⟩, ⟨sc, d1, d2, d3, d4, d5, d6⟩, hC, _⟩ := h
  have : l' = l := nI_inj (by omega) (by omega) (t3.symm.trans e9)
  subst this
  have E100 : ∀ q, q ≠ 100 → va_up S.1 100 (upd (S.1 100) 10 0) q = S.1 q := fun q hq => va_up_n _ _ hq
  generalize hEE : va_up S.1 100 (upd (S.1 100) 10 0) = E at hE E100
  have EE : E 100 = upd (S.1 100) 10 0 := by rw [← hEE, va_up_s]
  obtain ⟨v1, v2, v3⟩ := opE_v E kd g.bg
  obtain ⟨o0, o1, o2, o3, o4, o5⟩ := opQ_v E A kd a b0
  have hw : ∀ x, x < 100 → (opQ E A kd a b0).2 x = S.1 6 x := fun x hx => by
    unfold opQ
    show (if kd = 1 ∨ kd = 2 then va_cpy (E 5) (va_cpy (E 6) A.2 0 0 100) 0 100 512 else va_cpy (E 6) A.2 0 0 100) x = _
    have hc : va_cpy (E 6) A.2 0 0 100 x = S.1 6 x := by
      rw [pk_cpy_in (by omega) (by omega), E100 6 (by decide)]
      refine congrArg _ ?_
      omega
    split
    · rw [pk_cpy_out (by omega)]; exact hc
    · exact hc
  have hw5 : kd = 1 ∨ kd = 2 → ∀ x, x < 512 → (opQ E A kd a b0).2 (100 + x) = S.1 5 x := fun hk x hx => by
    unfold opQ
    show (if kd = 1 ∨ kd = 2 then va_cpy (E 5) (va_cpy (E 6) A.2 0 0 100) 0 100 512 else va_cpy (E 6) A.2 0 0 100) (100 + x) = _
    rw [if_pos hk, pk_cpy_in (by omega) (by omega), E100 5 (by decide)]
    refine congrArg _ ?_
    omega
  generalize hm : opQ E A kd a b0 = m at o0 o1 o2 o3 o4 o5 hw hw5
  -- the reference
  generalize hwt : g.bg - g.sn = wt at h12 u2 u4
  have w : ∀ j, ¬ j = 0 → (j < 27 ∨ 33 < j) → bgM M wt g.bg l' kd a b0 j = M j := fun j a b => by
    unfold bgM
    rw [va_up_n _ _ (by omega), va_up_n _ _ (by omega), va_up_n _ _ (by omega), va_up_n _ _ (by omega), va_up_n _ _ (by omega), va_up_n _ _ (by omega), va_up_n _ _ (by omega), va_up_n _ _ a]
  have w0 : bgM M wt g.bg l' kd a b0 0 = upd (upd (upd (if kd = 1 ∨ kd = 2 then upd (M 0) 9 0 else M 0) 26 (nI (wt + 1))) 25 (nI (g.bg + 1))) 7 0 := rfl
  have w0k : ∀ k, ¬ k = 7 → ¬ k = 25 → ¬ k = 26 → ¬ k = 9 → bgM M wt g.bg l' kd a b0 0 k = M 0 k := fun k k7 k25 k26 k9 => by
    rw [w0, pk_un k7, pk_un k25, pk_un k26]
    split
    · exact pk_un k9
    · rfl
  have w27 : bgM M wt g.bg l' kd a b0 27 = upd (M 27) wt kd := rfl
  have w28 : bgM M wt g.bg l' kd a b0 28 = upd (M 28) wt a := rfl
  have w29 : bgM M wt g.bg l' kd a b0 29 = upd (M 29) wt b0 := rfl
  have w30 : bgM M wt g.bg l' kd a b0 30 = rgF (fun i => vp_nar .byte (M 10 i)) (400 * wt) 400 (M 30) := rfl
  have w31 : bgM M wt g.bg l' kd a b0 31 = upd (upd (M 31) (2 * wt) (M 11 0)) (2 * wt + 1) (M 11 1) := rfl
  have w32 : bgM M wt g.bg l' kd a b0 32 = rgF (fun i => vp_nar .byte (M 8 i)) (2048 * wt) l' (M 32) := rfl
  have w33 : bgM M wt g.bg l' kd a b0 33 = upd (M 33) wt (nI l') := rfl
  generalize bgM M wt g.bg l' kd a b0 = M' at w w0 w0k w27 w28 w29 w30 w31 w32 w33 ⊢
  have f1 : mF M M' := ⟨fun j k1 k2 => w j (by omega) (by omega), w0k 20 (by decide) (by decide) (by decide) (by decide), w0k 21 (by decide) (by decide) (by decide) (by decide)⟩
  have hle := g.beg_le m
  have hops : ∀ o, o < g.bg → (g.beg m).ops o = g.ops o ∧ tsp (g.beg m).ops o = tsp g.ops o := fun o ho => ⟨fup_n (by omega), hle.tspE (Nat.le_of_lt ho)⟩
  have hE4 : ∀ x, ¬ x = 3 → ¬ x = 8 → S'.1 4 x = S.1 4 x := fun x h3 h8 => by
    rw [hE]
    unfold opE
    rw [va_up_s]
    split
    · rw [pk_un h8, pk_un h3, E100 4 (by decide)]
    · rw [pk_un h8, E100 4 (by decide)]
  have hEq : ∀ q, ¬ q = 4 → ¬ q = 100 → S'.1 q = S.1 q := fun q h4 h1 => by rw [hE, v3 q h4, E100 q h1]
  have hE100 : S'.1 100 = upd (S.1 100) 10 0 := by rw [hE, v3 100 (by decide), EE]
  have hlen : ∀ k, k < 2 → ∃ lk, lk ≤ 200 ∧ S.1 7 k = nI lk ∧ M 11 k = nI lk ∧ ∀ y, y < lk → rby (M 10) (200 * k) y = nby (S.1 6) (50 * k) y := n1
  refine ⟨⟨?_, ?_, ?_, ?_⟩, fun n hn => ?_, ?_, ⟨?_, fun k hk => ?_⟩, ⟨?_, ?_, ?_, fun v hv => ?_, fun o ho => ?_, fun v hv => absurd hv (Nat.not_lt_zero _)⟩, ⟨sc, d1, d2, ?_, ?_, ?_, fun v hv => ?_⟩, ⟨?_, ?_, ?_⟩, Or.inl (by rw [hE100, pk_us])⟩
  · rw [w0k 4 (by decide) (by decide) (by decide) (by decide), hE4 14 (by decide) (by decide)]; exact hA.1
  · rw [w0k 5 (by decide) (by decide) (by decide) (by decide), hE4 13 (by decide) (by decide)]; exact hA.2.1
  · rw [w0k 6 (by decide) (by decide) (by decide) (by decide), hE100, pk_un (by decide)]; exact hA.2.2.1
  · rw [w0, pk_us, hE100, pk_us]
  · rw [w0k 3 (by decide) (by decide) (by decide) (by decide), hN]; exact hU n hn
  · by_cases c : kd = 1 ∨ kd = 2
    · refine ⟨0, by omega, ?_, ?_, fun y hy => by omega⟩
      · rw [hE]
        unfold opE
        rw [va_up_s, if_pos c, pk_un (by decide), pk_us]; rfl
      · rw [w0, if_pos c, pk_un (by decide), pk_un (by decide), pk_un (by decide), pk_us]; rfl
    · refine ⟨l', t1, ?_, ?_, fun y hy => ?_⟩
      · rw [hE]
        unfold opE
        rw [va_up_s, if_neg c, pk_un (by decide), E100 4 (by decide)]; exact t2
      · rw [w0, if_neg c, pk_un (by decide), pk_un (by decide), pk_un (by decide)]; exact t3
      · rw [hEq 5 (by decide) (by decide), w 8 (by decide) (by omega)]; exact t4 y hy
  · unfold EZn
    rw [hEq 6 (by decide) (by decide), hEq 7 (by decide) (by decide)]; exact n0
  · rw [hEq 6 (by decide) (by decide), hEq 7 (by decide) (by decide), w 10 (by decide) (by omega), w 11 (by decide) (by omega)]; exact n1 k hk
  · rw [w0, pk_un (by decide), pk_us]; rfl
  · rw [w0, pk_un (by decide), pk_un (by decide), pk_us]
    show _ = nI (g.bg + 1 - g.sn)
    congr 1; omega
  · show RF M' (tsp (g.beg m).ops (g.sn + 0))
    have : tsp (g.beg m).ops g.sn = tsp g.ops g.sn := hle.tspE hsn
    rw [Nat.add_zero, this]
    exact u3.mf f1
  · have hv : v < g.bg + 1 - g.sn := hv
    show OD M' v ((g.beg m).ops (g.sn + v))
    by_cases e : v = wt
    · have e2 : (g.beg m).ops (g.sn + v) = m := by
        rw [show g.sn + v = g.bg by omega]
        exact fup_s
      rw [e2, e]
      obtain ⟨la, a1, a2, a3, a4⟩ := hlen 0 (by decide)
      obtain ⟨lb, b1, b2, b3, b4⟩ := hlen 1 (by decide)
      have e3 : m.1 3 = nI la := by rw [o3, E100 7 (by decide)]; exact a2
      have e4 : m.1 4 = nI lb := by rw [o4, E100 7 (by decide)]; exact b2
      refine ⟨by rw [w27, pk_us, o0], by rw [w28, pk_us, o1], by rw [w29, pk_us, o2], ?_, ?_, fun hk => ?_, fun x hx => ?_, fun x hx => ?_⟩
      · have ez : 2 * wt + 0 = 2 * wt := rfl
        rw [w31, ez, pk_un (by omega), pk_us, e3]; exact a3
      · rw [w31, pk_us, e4]; exact b3
      · rw [o0] at hk
        have e5 : m.1 5 = nI l' := by
          rw [o5]
          unfold opL
          rw [if_pos hk, E100 4 (by decide)]; exact t2
        refine ⟨by rw [w33, pk_us, e5], fun x hx => ?_⟩
        rw [e5, nI_clamp (by omega)] at hx
        rw [w32, rby_rg (by omega) (by omega), show 2048 * wt + x - 2048 * wt = x by omega, t4 x hx]
        refine congrArg uN (byt_cg ?_ (by omega))
        rw [show (400 + x) / 4 = 100 + x / 4 by omega, hw5 hk (x / 4) (by omega)]
      · rw [e3, nI_clamp (by omega)] at hx
        rw [w30, rby_rg (by omega) (by omega), show 400 * wt + 200 * 0 + x - 400 * wt = x by omega]
        have := a4 x hx
        have this : rby (M 10) 0 x = nby (S.1 6) 0 x := this
        rw [this]
        exact nby_cg (p := 0) (q := 0) (fun x hx => by rw [Nat.zero_add]; exact (hw x (by omega)).symm) x (by omega)
      · rw [e4, nI_clamp (by omega)] at hx
        rw [w30, rby_rg (by omega) (by omega), show 400 * wt + 200 * 1 + x - 400 * wt = 200 * 1 + x by omega]
        have := b4 x hx
        unfold rby at this ⊢
        rw [Nat.zero_add, this]
        exact nby_cg (p := 50) (q := 50) (fun x hx => (hw (50 + x) (by omega)).symm) x (by omega)
    · have e2 : (g.beg m).ops (g.sn + v) = g.ops (g.sn + v) := (hops _ (by omega)).1
      rw [e2]
      have hq := hG.2 (g.sn + v) (by omega)
      obtain ⟨la, la1, la2⟩ := hq.2.2.2.1
      obtain ⟨lb, lb1, lb2⟩ := hq.2.2.2.2.1
      obtain ⟨lt, lt1, lt2⟩ := hq.2.2.2.2.2
      obtain ⟨x1, x2, x3, x4, x5, x6, x7, x8⟩ := u4 v (by omega)
      refine ⟨by rw [w27, pk_un e]; exact x1, by rw [w28, pk_un e]; exact x2, by rw [w29, pk_un e]; exact x3, by rw [w31, pk_un (by omega), pk_un (by omega)]; exact x4, by rw [w31, pk_un (by omega), pk_un (by omega)]; exact x5, fun hk => ?_, fun x hx => ?_, fun x hx => ?_⟩
      · obtain ⟨y1, y2⟩ := x6 hk
        refine ⟨by rw [w33, pk_un e]; exact y1, fun x hx => ?_⟩
        have hx2 := hx
        rw [lt2, nI_clamp (by omega)] at hx2
        rw [w32, rby_ro (by omega)]; exact y2 x hx
      · have hx2 := hx
        rw [la2, nI_clamp (by omega)] at hx2
        rw [w30, rby_ro (by omega)]; exact x7 x hx
      · have hx2 := hx
        rw [lb2, nI_clamp (by omega)] at hx2
        rw [w30, rby_ro (by omega)]; exact x8 x hx
  · have ho : o < g.sn + 0 := ho
    rw [w 34 (by decide) (by omega), (hops o (by omega)).1, (hops o (by omega)).2]
    exact u5 o (by omega)
  · rw [hE4 11 (by decide) (by decide)]; exact d3
  · rw [w0k 37 (by decide) (by decide) (by decide) (by decide)]; exact d4
  · rw [w0k 38 (by decide) (by decide) (by decide) (by decide)]; exact d5
  · have hv : v < g.sn - sc := hv
    rw [(hops (sc + v) (by omega)).1, (hops (sc + v) (by omega)).2]
    have := d6 v hv
    unfold TDw at this ⊢
    rw [w 35 (by decide) (by omega), w 36 (by decide) (by omega)]; exact this
  · rw [w0k 22 (by decide) (by decide) (by decide) (by decide), hEq 58 (by decide) (by decide)]; exact hC.1
  · rw [w0k 23 (by decide) (by decide) (by decide) (by decide), hE100, pk_un (by decide)]; exact hC.2.1
  · rw [w0k 24 (by decide) (by decide) (by decide) (by decide), hE100, pk_un (by decide)]; exact hC.2.2

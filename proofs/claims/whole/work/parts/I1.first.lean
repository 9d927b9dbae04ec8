/-! the ANSWER that the leader foretells -/
theorem isNx_cg {T : TS} {w w' : Nat → Int32} {l i : Nat} (hl : l ≤ 200) (h : ∀ b, b < 200 → nby w 0 b = nby w' 0 b) (hi : isNx T w l i) : isNx T w' l i := by
  have hc : ∀ j, nLt (nby w 0) l (nmP T j) (T.nl j) ↔ nLt (nby w' 0) l (nmP T j) (T.nl j) := fun j => ⟨fun z => z.cg (fun b hb => (h b (by omega)).symm) (fun _ _ => rfl), fun z => z.cg (fun b hb => h b (by omega)) (fun _ _ => rfl)⟩
  exact ⟨hi.1, hi.2.1, (hc i).mp hi.2.2.1, fun j hj hx hz => hi.2.2.2 j hj hx ((hc j).mpr hz)⟩
theorem nxN_cg {T : TS} {w w' : Nat → Int32} {l : Nat} (hl : l ≤ 200) (h : ∀ b, b < 200 → nby w 0 b = nby w' 0 b) : nxN T w l = nxN T w' l := by
  by_cases c : ∃ i, isNx T w l i
  · obtain ⟨i, hi⟩ := c
    rw [nxN_eq hi, nxN_eq (isNx_cg hl h hi)]
  · have c2 : ¬ ∃ i, isNx T w' l i := fun ⟨i, hi⟩ => c ⟨i, isNx_cg hl (fun b hb => (h b hb).symm) hi⟩
    unfold nxN
    rw [dif_neg c, dif_neg c2]
def FSi (T : TS) (jf w : Nat → Int32) (l i : Nat) (y : Int32) : Prop :=
  (y = -1 ∧ ∀ f j, f < i → j < 512 → jf f = nI j → ¬ nLt (nby w 0) l (nmP T j) (T.nl j)) ∨ (∃ fb jb, fb < 48 ∧ jb < 512 ∧ y = nI fb ∧ jf fb = nI jb ∧ nLt (nby w 0) l (nmP T jb) (T.nl jb) ∧ ∀ f j, f < i → j < 512 → jf f = nI j → nLt (nby w 0) l (nmP T j) (T.nl j) → j = jb ∨ nLt (nmP T jb) (T.nl jb) (nmP T j) (T.nl j))
theorem nm_uq {T : TS} {k i j : Nat} (hT : TOK T k) (hN : NZ T) (hi : T.ex i = true) (hj : T.ex j = true) (h : nEq (nmP T i) (T.nl i) (nmP T j) (T.nl j)) : i = j := by
  have hn := hT.n1 i hi
  refine hT.u1 i j hi hj h.1 (fun x hx => ?_)
  have := nby_w (f := T.nm i) (g := T.nm j) (p := 0) (q := 0) (fun b hb => ?_) x hx
  · rw [Nat.zero_add] at this; exact this
  · rcases Nat.lt_or_ge b (T.nl i) with z | z
    · exact h.2 b z
    · have e1 := hN i hi b z hb
      have e2 := hN j hj b (by have := h.1; omega) hb
      exact e1.trans e2.symm
theorem TK.nmb {T : TS} {fl : Int32} {jf zf nf mf fo vf : Nat → Int32} {K : Int64} (h : TK T fl jf zf nf mf fo vf K) {f j : Nat} (hf : f < 48) (hj : j < 512) (e : jf f = nI j) : nf f = nI (T.nl j) ∧ ∀ b, b < 200 → nby mf (f * 50) b = nmP T j b := by
  obtain ⟨_, a2, a3, _⟩ := h.at hf hj e
  exact ⟨a2, nby_cg (fun x hx => by rw [Nat.zero_add]; exact a3 x hx)⟩
theorem fsA_p {T : TS} {k l : Nat} {fl : Int32} {jf zf nf mf fo vf w : Nat → Int32} {K : Int64} (hT : TOK T k) (h : TK T fl jf zf nf mf fo vf K) (hN : NZ T) (hl : l ≤ 200) (hw : nzP (nby w 0) l) : ∀ (n i : Nat) (y : Int32), i + n = 48 → FSi T jf w l i y → FSi T jf w l 48 (fsA jf nf mf w (nI l) n i y)
  | 0, i, y, hi, hy => by
    have e : i = 48 := by omega
    rw [e] at hy
    exact hy
  | n + 1, i, y, hi, hy => by
    unfold fsA
    have hnm : ∀ f j, f < 48 → j < 512 → jf f = nI j → T.ex j = true ∧ T.nl j ≤ 200 ∧ nf f = nI (T.nl j) ∧ (∀ b, b < 200 → nby mf (f * 50) b = nmP T j b) ∧ nzP (nby mf (f * 50)) (T.nl j) := fun f j hf hj e => by
      obtain ⟨x1, _⟩ := h.1.jx hf hj e
      obtain ⟨a1, a2⟩ := h.nmb hf hj e
      exact ⟨x1, hT.n1 j x1, a1, a2, fun b h1 h2 => by rw [a2 b h2]; exact hN j x1 b h1 h2⟩
    by_cases c : jf i < 0
    · rw [if_pos c]
      refine fsA_p hT h hN hl hw n (i + 1) y (by omega) ?_
      have hno : ∀ j, j < 512 → ¬ jf i = nI j := fun j hj z => by rw [z] at c; exact nI_pos (by omega) c
      rcases hy with ⟨y1, y2⟩ | ⟨fb, jb, y1, y2, y3, y4, y5, y6⟩
      · refine Or.inl ⟨y1, fun f j hf hj e => ?_⟩
        by_cases z : f = i
        · rw [z] at e; exact absurd e (hno j hj)
        · exact y2 f j (by omega) hj e
      · refine Or.inr ⟨fb, jb, y1, y2, y3, y4, y5, fun f j hf hj e => ?_⟩
        by_cases z : f = i
        · rw [z] at e; exact absurd e (hno j hj)
        · exact y6 f j (by omega) hj e
    · rw [if_neg c]
      obtain ⟨j0, hj0, ej0⟩ : ∃ j0, j0 < 512 ∧ jf i = nI j0 := by
        rcases h.1.b2 i (by omega) with ⟨z, _⟩ | ⟨j0, z1, z2, _⟩
        · rw [z] at c; exact absurd (by decide) c
        · exact ⟨j0, z1, z2⟩
      obtain ⟨x1, x2, x3, x4, x5⟩ := hnm i j0 (by omega) hj0 ej0
      have heq : ∀ j, j < 512 → jf i = nI j → j = j0 := fun j hj e => nI_inj (by omega) (by omega) (e.symm.trans ej0)
      have hA : nEq (nby mf (i * 50)) (T.nl j0) (nmP T j0) (T.nl j0) := ⟨rfl, fun b hb => x4 b (by omega)⟩
      rw [x3]
      have htri := cmpW_n (f := mf) (g := w) (p := i * 50) (q := 0) x2 hl x5 hw
      by_cases d : cmpW mf w (i * 50) 0 (nI (T.nl j0)) (nI l) 50 0 ≤ 0
      · rw [if_pos d]
        have hn : ¬ nLt (nby w 0) l (nmP T j0) (T.nl j0) := fun z => by
          rcases htri with ⟨_, t⟩ | ⟨_, t⟩ | ⟨t, _⟩
          · exact z.as (nLt.el hA.sy t)
          · exact z.ne (hA.sy.tr t).sy
          · rw [t] at d; exact absurd d (by decide)
        refine fsA_p hT h hN hl hw n (i + 1) y (by omega) ?_
        rcases hy with ⟨y1, y2⟩ | ⟨fb, jb, y1, y2, y3, y4, y5, y6⟩
        · refine Or.inl ⟨y1, fun f j hf hj e => ?_⟩
          by_cases z : f = i
          · rw [z] at e; rw [heq j hj e]; exact hn
          · exact y2 f j (by omega) hj e
        · refine Or.inr ⟨fb, jb, y1, y2, y3, y4, y5, fun f j hf hj e hz => ?_⟩
          by_cases z : f = i
          · rw [z] at e; rw [heq j hj e] at hz; exact absurd hz hn
          · exact y6 f j (by omega) hj e hz
      · rw [if_neg d]
        have hn : nLt (nby w 0) l (nmP T j0) (T.nl j0) := by
          rcases htri with ⟨t, _⟩ | ⟨t, _⟩ | ⟨_, t⟩
          · rw [t] at d; exact absurd (by decide) d
          · rw [t] at d; exact absurd (by decide) d
          · exact t.er hA
        rcases hy with ⟨y1, y2⟩ | ⟨fb, jb, y1, y2, y3, y4, y5, y6⟩
        · rw [if_pos (by rw [y1]; decide)]
          refine fsA_p hT h hN hl hw n (i + 1) (nI i) (by omega) (Or.inr ⟨i, j0, by omega, hj0, rfl, ej0, hn, fun f j hf hj e hz => ?_⟩)
          by_cases z : f = i
          · rw [z] at e; exact Or.inl (heq j hj e)
          · exact absurd hz (y2 f j (by omega) hj e)
        · rw [if_neg (by rw [y3]; exact nI_pos (by omega)), y3, nI_clamp (by omega)]
          obtain ⟨b1, b2, b3, b4, b5⟩ := hnm fb jb y1 y2 y4
          rw [b3]
          have hB : nEq (nby mf (fb * 50)) (T.nl jb) (nmP T jb) (T.nl jb) := ⟨rfl, fun b hb => b4 b (by omega)⟩
          have htr2 := cmpW_n (f := mf) (g := mf) (p := i * 50) (q := fb * 50) x2 b2 x5 b5
          by_cases v : 0 ≤ cmpW mf mf (i * 50) (fb * 50) (nI (T.nl j0)) (nI (T.nl jb)) 50 0
          · rw [if_pos v]
            have hv : j0 = jb ∨ nLt (nmP T jb) (T.nl jb) (nmP T j0) (T.nl j0) := by
              rcases htr2 with ⟨t, _⟩ | ⟨_, t⟩ | ⟨_, t⟩
              · rw [t] at v; exact absurd v (by decide)
              · exact Or.inl (nm_uq hT hN x1 b1 ((hA.sy.tr t).tr hB))
              · exact Or.inr (nLt.el hB.sy (t.er hA))
            refine fsA_p hT h hN hl hw n (i + 1) (nI fb) (by omega) (Or.inr ⟨fb, jb, y1, y2, rfl, y4, y5, fun f j hf hj e hz => ?_⟩)
            by_cases z : f = i
            · rw [z] at e; rw [heq j hj e]; exact hv
            · exact y6 f j (by omega) hj e hz
          · rw [if_neg v]
            have hv : nLt (nmP T j0) (T.nl j0) (nmP T jb) (T.nl jb) := by
              rcases htr2 with ⟨_, t⟩ | ⟨t, _⟩ | ⟨t, _⟩
              · exact nLt.el hA.sy (t.er hB)
              · rw [t] at v; exact absurd (by decide) v
              · rw [t] at v; exact absurd (by decide) v
            refine fsA_p hT h hN hl hw n (i + 1) (nI i) (by omega) (Or.inr ⟨i, j0, by omega, hj0, rfl, ej0, hn, fun f j hf hj e hz => ?_⟩)
            by_cases z : f = i
            · rw [z] at e; exact Or.inl (heq j hj e)
            · rcases y6 f j (by omega) hj e hz with q | q
              · right; rw [q]; exact hv
              · exact Or.inr (hv.tr q)
theorem TK.first {T : TS} {k l : Nat} {fl : Int32} {jf zf nf mf fo vf w : Nat → Int32} {K : Int64} (hT : TOK T k) (h : TK T fl jf zf nf mf fo vf K) (hN : NZ T) (hl : l ≤ 200) (hw : nzP (nby w 0) l) : fdP jf (fsA jf nf mf w (nI l) 48 0 (-1)) (nxN T w l) := by
  rcases fsA_p hT h hN hl hw 48 0 (-1) rfl (Or.inl ⟨rfl, fun f j hf => absurd hf (by omega)⟩) with ⟨y1, y2⟩ | ⟨fb, jb, y1, y2, y3, y4, y5, y6⟩
  · refine Or.inl ⟨y1, nxN_no (fun i hi hx => ?_)⟩
    obtain ⟨f, f1, _, f3⟩ := h.1.fx hi hx
    exact y2 f i f1 hi f3
  · refine Or.inr ⟨fb, jb, y1, y2, y3, y4, nxN_eq ⟨y2, (h.1.jx y1 y2 y4).1, y5, fun j hj hx hz => ?_⟩⟩
    obtain ⟨f, f1, _, f3⟩ := h.1.fx hj hx
    exact y6 f j f1 hj f3 hz

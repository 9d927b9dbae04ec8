/-! mending in a drain: the ITEM that is sent -/
theorem CDv.sx {P : Pm} {g : Gh} {l n : Nat} {x : Mg} {Z : List Mg} {T S S' : SS} (hP : PmO P) (hl : l < P.nn) (h : RG P g l S) (hst : St1 P g l x Z S S') (hv : CDv P l g.ep T S) (hn : n < P.nn) : Xn P.gg (dN T l) S' n ≤ Xn P.gg (dN T l) S n := by
  have hnn := hP.nn
  obtain ⟨⟨d1, d1k⟩, d2, d3, d4, d5, d6, d7, d8, d9, d10, d11⟩ := hv
  have hL := h.lo hl
  have e15 : dN S l 15 = dN T l 15 := d1 15 (by decide)
  have e16 : dN S l 16 = dN T l 16 := d1 16 (by decide)
  have emk : ∀ a, mkA P.gg (dN S l) a = mkA P.gg (dN T l) a := fun a => by unfold mkA; rw [d1 8 (by decide), d1 11 (by decide)]
  have hsl := hst.sl hP hl h hn
  have nput : ∀ t, x.1 0 = 10 ∧ x.1 2 = nI n ∧ x.1 5 = t → ¬ Jk P.gg (dN T l) n t := fun t ⟨t1, t2, t3⟩ => by
    obtain ⟨k', a, k1, a1, k2, a2⟩ := d3 x hst.head (Or.inr t1)
    obtain ⟨e, n', k'', m1, m2, m3, m4, m5, m6, m7⟩ := hst.2.2.2.1.2.1 t1
    have hne : n' = n := nI_inj (by omega) (by omega) (m3.symm.trans t2)
    have hke : k'' = k' := nI_inj (by omega) (by omega) (m5.symm.trans k2)
    have hee : e = g.ep := by
      have := h.1.1.ep.1
      exact nI_inj (by omega) (by omega) (m1.symm.trans hst.2.2.1.ep.1)
    subst hne hke hee
    rw [← t3, k2]
    intro z
    have w := z.2 a a1 a2
    rw [← emk, mkA_ms hP.gg hL a1 k1 (by rw [e15, e16]; exact a2)] at w
    rw [w] at m7; cases m7
  refine Sm_mono (fun s hs => ?_)
  by_cases c : Jk P.gg (dN T l) n (dN S' n 6 s)
  · have c2 : Jk P.gg (dN T l) n (dN S n 6 s) := by
      rcases hsl s hs with ⟨q1, _⟩ | ⟨q1, _⟩ | ⟨_, q2⟩
      · rw [q1] at c; exact c
      · exact absurd q1 c.1
      · exact absurd c (nput _ q2)
    rw [ind_t c, ind_t c2]; exact Nat.le_refl _
  · rw [ind_f c]; exact Nat.zero_le _
theorem CDo.st {P : Pm} {g g' : Gh} {l a k : Nat} {x : Mg} {Z : List Mg} {T S S' : SS} (hP : PmO P) (hSL : SL P) (hl : l < P.nn) (hA : AV P g) (hsT : dN T l 18 3 = 0) (ha : a < 961) (hk : k < 5243392) (hf : fndI (dN T l 15) (dN T l 16) (nI k) = nI a) (h : RG P g l S) (hst : St1 P g l x Z S S') (hgs : Gs g g') (h' : RG P g' l S') (hq : GQ P l S) (hqn : QNs P l S) (hv : CDv P l g.ep T S) (ho : CDo P l a k T S) : CDo P l a k T S' := by
  have hnn := hP.nn
  have hv' := hv.st hP hl hA hsT h hst hgs h' hq hqn
  have hsx := fun n (hn : n < P.nn) => hv.sx hP hl h hst hn
  have hse := fun n (hn : n < P.nn) => hv.se hP hl hA hsT h hst hq hqn hn hk ha hf
  obtain ⟨⟨d1, d1k⟩, d2, d3, d4, d5, d6, d7, d8, d9, d10, d11⟩ := hv
  have e15 : dN S l 15 = dN T l 15 := d1 15 (by decide)
  have e16 : dN S l 16 = dN T l 16 := d1 16 (by decide)
  have emk : ∀ a, mkA P.gg (dN S l) a = mkA P.gg (dN T l) a := fun a => by unfold mkA; rw [d1 8 (by decide), d1 11 (by decide)]
  have hsS : dN S l 18 3 ≤ 2 := by rw [d1 18 (by decide), hsT]; decide
  have hlt128 := hst.lt h.2.1
  have ht0 : ¬ nI k < 0 := nI_pos (by omega)
  intro j hj hm hb
  have keepm : mem (dN S j) (nI k) → mem (dN S' j) (nI k) := fun w => by
    rcases (hst.dk hP hl h hj).2 (nI k) ht0 w with r | ⟨t1, t2, t3⟩
    · exact r
    · have := (d5 x hst.head t1 j k a hj t2 hk t3 ha hf).1
      rw [hm] at this; cases this
  rcases ho j hj hm hb with ⟨y, y1, y2, y3, y4, n, n1, n2, n3⟩ | ⟨y, y1, y2, y3, y4⟩ | q | q
  · rcases hst.old y1 with e | ⟨y', b1, b2⟩
    · subst e
      right
      rcases hst.cs hnn hl with ⟨c, _⟩ | ⟨i, i1, i2, i3, _, _, e1, _, _, _, hr, hF⟩ | ⟨_, c, _⟩ | ⟨_, _, c, _⟩
      · have := nI_inj (by omega) (by omega) (c.symm.trans n2)
        omega
      · have : i = n := nI_inj (by omega) (by omega) (i2.symm.trans n2)
        subst this
        rcases hr with ⟨c, _⟩ | ⟨c, _⟩ | ⟨c, _⟩ | ⟨_, _, z, z1, z2, z3, z4, z5, z6⟩ | ⟨c, _⟩ | ⟨c, _⟩
        · rw [y2] at c; exact absurd c (by decide)
        · rw [y2] at c; exact absurd c (by decide)
        · rw [y2] at c; exact absurd c (by decide)
        · rcases z6 with ⟨_, z7, z8⟩ | ⟨z6, _⟩
          · obtain ⟨w, w1, w2⟩ := hst.new (z := z) (by rw [z1]; exact psl_new hlt128)
            exact Or.inl ⟨w, w1, by rw [w2.1]; exact z7, by rw [w2.1, z8]; exact y4, by rw [w2.1, z5]; exact y3⟩
          · right; left
            rcases n3 with r | r
            · rw [y3] at z6; exact absurd r z6
            · obtain ⟨s, s1, s2, _⟩ := r j hj hm
              exact keepm ⟨s, s1, s2⟩
        · rw [y2] at c; exact absurd c (by decide)
        · rw [y2] at c; exact absurd c (by decide)
      · exact absurd (Or.inr (Or.inr (Or.inr (Or.inl y2)))) c
      · exact absurd (Or.inr (Or.inr (Or.inr (Or.inl y2)))) (c n n1 n2)
    · exact Or.inl ⟨y', b1, by rw [b2.1]; exact y2, by rw [b2.1]; exact y3, by rw [b2.1]; exact y4, n, n1, by rw [b2.1]; exact n2, hse n n1 n3⟩
  · right
    rcases hst.old y1 with e | ⟨y', b1, b2⟩
    · subst e
      right
      rcases hst.cs hnn hl with ⟨c, _⟩ | ⟨i, i1, i2, i3, _, _, e1, _, _, _, hr, hF⟩ | ⟨_, c, _⟩ | ⟨_, _, c, _⟩
      · have := nI_inj (by omega) (by omega) (c.symm.trans y3)
        omega
      · have : i = j := nI_inj (by omega) (by omega) (i2.symm.trans y3)
        subst this
        rcases hr with ⟨c, _⟩ | ⟨c, _⟩ | ⟨c, _⟩ | ⟨c, _⟩ | ⟨_, _, q, r⟩ | ⟨c, _⟩
        · rw [y2] at c; exact absurd c (by decide)
        · rw [y2] at c; exact absurd c (by decide)
        · rw [y2] at c; exact absurd c (by decide)
        · rw [y2] at c; exact absurd c (by decide)
        · rw [y4] at r
          rcases r with ⟨z, r1, r2, r3, r4⟩ | r | ⟨r1, r2⟩
          · left
            rw [r2]
            obtain ⟨s, s1, s2, _⟩ := r1
            exact ⟨s, s1, s2⟩
          · left
            obtain ⟨s, s1, s2, _⟩ := r
            exact ⟨s, s1, s2⟩
          · right
            obtain ⟨_, _, _, _, _, _, _, _, _, _, v11⟩ := hv'
            have w1 := (v11 i hj).1
            have w2 := hSL g' i g'.ep (dN S' i) (kN S' i) h'.1.1.go (SU.b12 h'.1.1) (h'.nu hj)
            have w3 : Yn P.gg (dN T l) S' i = Sm (fun s => ind (Jk P.gg (dN T l) i (dN S' i 6 s)) + (if dN S' i 6 s = -1 then 1 else 0)) 280 := Sm_cg (fun s hs => by
              by_cases c : dN S' i 6 s = -1
              · have c5 : ¬ dN S' i 5 s = -1 := by
                  rcases r2 s hs with w | w
                  · exact absurd c w
                  · exact w
                rw [ind_t (Or.inr ⟨c, c5⟩), if_pos c, ind_f (fun z => z.1 c)]
              · rw [if_neg c]
                by_cases cj : Jk P.gg (dN T l) i (dN S' i 6 s)
                · rw [ind_t (Or.inl cj), ind_t cj]
                · rw [ind_f cj, ind_f (fun z => by
                    rcases z with z | ⟨z, _⟩
                    · exact cj z
                    · exact c z)])
            rw [w3, Sm_two] at w1
            show Sm (fun s => ind (Jk P.gg (dN T l) i (dN S' i 6 s))) 280 + 14 ≤ _
            omega
        · rw [y2] at c; exact absurd c (by decide)
      · exact absurd (Or.inr (Or.inr (Or.inr (Or.inr (Or.inl y2))))) c
      · exact absurd (Or.inr (Or.inr (Or.inr (Or.inr (Or.inl y2))))) (c j hj y3)
    · exact Or.inl ⟨y', b1, by rw [b2.1]; exact y2, by rw [b2.1]; exact y3, by rw [b2.1]; exact y4⟩
  · exact Or.inr (Or.inr (Or.inl (keepm q)))
  · right; right; right
    have := hsx j hj
    omega

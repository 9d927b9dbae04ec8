/-! nothing is left to drop: the last two rounds -/
theorem rdD {P : Pm} {g : Gh} {l : Nat} {fl : Bool} {S T S' : SS} (hP : PmO P) (hSL : SL P) (hl : l < P.nn) (h : QDn P l g S) (hJ : noJ P l S) (hfl : fl = true → ∀ n, n < P.nn → dN S n 1 4 = 0) (htk : tkR P.nn P.gg P.C P.f S T) (hdr : drR P.nn P.gg P.C P.f T S') :
    (∃ g', Gs g g' ∧ QDn P l g' S') ∧ noJ P l S' ∧ (∀ n, n < P.nn → dN S' n 1 4 = 0) ∧ (fl = true → ∀ n, n < P.nn → bt (dN S' l 7 10) n = true) ∧ ∀ n, n < P.nn → bt (S'.1 4 15) n = true := by
  refine ⟨h.st hP hSL hl htk hdr, ?_⟩
  obtain ⟨hR, hc, hF, hp, hs⟩ := h
  obtain ⟨g1, Zs, hg1, hT, ht, hGQ, hA1, hqT, hvT0, e6, eK, e7⟩ := cdv_T hP hl hR hc htk
  have hnn := hP.nn
  have hs0 := hc.2.2.2.1
  have hsT : dN T l 18 3 = 0 := by rw [e6 18 (by decide)]; exact hs0
  have hJT : noJ P l T := fun n t hn hj hm => hJ n t hn (hj.cg (e6 8 (by decide)).symm (e6 11 (by decide)).symm (e6 15 (by decide)).symm (e6 16 (by decide)).symm) ((ht.st hn).2.1.mp hm)
  have hcT : ∀ n, n < P.nn → dN T n 1 4 = 0 := fun n hn => (ht.disk hn).2.2
  have hna := ht.na hl hR.1 hc.2.2.2.2
  obtain ⟨D1, D2, Zw, f2, wz, _, w4, wk⟩ := ht.wz hl
  have f18 : D1 18 = dN S l 18 := f2 18 (by decide) (by decide) (by decide)
  have h4w : ∀ z ∈ Zw, z.1 0 = 4 := fun z hz => by
    rcases wz.kd hz with ⟨j, _, _, _, q⟩ | ⟨_, q, _⟩ | ⟨o, j, q, _⟩ | ⟨a, m, a1, _, q, _⟩
    · rw [q]; rfl
    · rw [f18, hs0] at q; exact absurd q (by decide)
    · rw [f18, hs0] at q
      rcases q with ⟨_, q⟩ | ⟨_, q⟩ <;> exact absurd q (by decide)
    · refine absurd ?_ (hs a a1)
      unfold unS at q ⊢
      rw [f2 16 (by decide) (by decide) (by decide), f2 8 (by decide) (by decide) (by decide), f2 11 (by decide) (by decide) (by decide), f2 17 (by decide) (by decide) (by decide)] at q
      exact q
  have hkd : ∀ y ∈ T.2.2.1, y.1 0 = 0 ∨ y.1 0 = 4 ∨ (fl = false ∧ y.1 0 = 11) := fun y hy => by
    rcases wk y hy with q | q | q | ⟨z, z1, z2⟩
    · exact Or.inl q
    · exact absurd q (hna y hy)
    · cases hfe : fl with
      | false => exact Or.inr (Or.inr ⟨rfl, q⟩)
      | true =>
        exfalso
        obtain ⟨Zm, Za, h1, h2, h3, h4, h5, h6⟩ := ht
        rcases h1.2.2.2.2.1 y hy with ⟨y', y1, y2⟩ | ⟨n, _, n2, z, z1, z2⟩
        · have y1 : y' ∈ Zm ++ Za := y1
          rcases List.mem_append.mp y1 with w | w
          · rw [y2.1, (h2 y' w).1] at q; exact absurd q (by decide)
          · rw [y2.1, (h4 y' w).1] at q; exact absurd q (by decide)
        · rw [z2.1] at q
          obtain ⟨D3, Zf3, g1, g2⟩ := h1.1 n (Nat.zero_le _) n2
          have hzf : Zf3 = [] := by
            rcases g1.2.2.2 with ⟨_, _, e⟩ | ⟨e, _⟩
            · exact e
            · exact absurd (hfl hfe n (by omega)) e
          rcases g2 with ⟨_, _, _, e⟩ | ⟨_, D4, Zw4, _, _, w4, e, _⟩
          · rw [e, hzf] at z1; cases z1
          · rw [e, hzf, List.nil_append] at z1
            rcases w4.kd z1 with ⟨j, _, _, _, w⟩ | ⟨w, _⟩ | ⟨o, j, _, _, _, w⟩ | ⟨a, m, _, _, _, _, _, w, _⟩
            · rw [w] at q; exact absurd q (show ¬ (4 : Int32) = 11 by decide)
            · rw [w] at q; exact absurd q (by decide)
            · rw [w, mPU_0] at q; exact absurd q (by decide)
            · rw [w] at q; exact absurd q (by decide)
    · rw [z2.1]; exact Or.inr (Or.inl (h4w z z1))
  have hvT : DFv P l fl T T := by
    refine ⟨⟨fun _ _ => rfl, rfl⟩, fun y hy => ?_, fun _ _ _ _ => rfl, fun y hy h5 => ?_, fun _ n hn => ?_, fun n hn => ?_⟩
    · rcases hkd y hy with q | q | ⟨q1, q2⟩
      · exact Or.inl q
      · exact Or.inr (Or.inr (Or.inl q))
      · exact Or.inr (Or.inr (Or.inr (Or.inr ⟨q1, q2⟩)))
    · exfalso
      rcases hkd y hy with q | q | ⟨_, q⟩ <;> rw [h5] at q <;> exact absurd q (by decide)
    · rw [e7 10 (by decide) (by decide) (by decide)]
      cases hcl : bt (dN S l 7 10) n with
      | true => exact Or.inl rfl
      | false => exact Or.inr (Or.inl (ht.li hl (by rw [hs0]; decide) hn hcl))
    · rw [ht.e.1]
      cases hb : bt (S.1 4 15) n with
      | true => exact Or.inl rfl
      | false =>
        right; left
        obtain ⟨Zm, Za, h1, h2, h3, _⟩ := ht
        obtain ⟨z, z1, z2, z3, _⟩ := h3 n hn hb
        obtain ⟨y, y1, y2⟩ := h1.2.2.2.1 z (show z ∈ Zm ++ Za from List.mem_append_left _ z1)
        exact ⟨y, y1, by rw [y2.1]; exact z2, by rw [y2.1]; exact z3⟩
  obtain ⟨h0, g2, hg2, h2, hI2⟩ := RG.dr (I := fun _ S1 => GQ P l S1 ∧ DFv P l fl T S1) hP hl (fun g g' S1 S1' x Z h hi hst hgs h' => ⟨hi.1.st hP hl h hst h', hi.2.st hP hl hsT hJT hcT h hst h' hi.1⟩) hT ⟨hGQ, hvT⟩ hdr
  obtain ⟨_, ⟨d1, _⟩, _, d3, _, d5, d6⟩ := hI2
  refine ⟨fun n t hn hj ⟨s, s1, s2⟩ => ?_, fun n hn => ?_, fun hf n hn => ?_, fun n hn => ?_⟩
  · refine hJT n t hn (hj.cg (d1 8 (by decide)).symm (d1 11 (by decide)).symm (d1 15 (by decide)).symm (d1 16 (by decide)).symm) ⟨s, s1, ?_⟩
    rw [← d3 n 6 hn (by decide)]; exact s2
  · rw [d3 n 1 hn (by decide)]; exact hcT n hn
  · rcases d5 hf n hn with q | ⟨y, q, _⟩ | ⟨y, q, _⟩
    · exact q
    · rw [h0] at q; cases q
    · rw [h0] at q; cases q
  · rcases d6 n hn with q | ⟨y, q, _⟩ | ⟨y, q, _⟩
    · exact q
    · rw [h0] at q; cases q
    · rw [h0] at q; cases q
theorem allN_no : ∀ nn, nn < 7 → ∀ m, m < 32 → nn ≤ m → bt (allN nn) m = false := by decide +kernel
theorem clA_1 {gg : Nat} {D : Nat → Nat → Int32} : ∀ (k i : Nat), i + k ≤ 961 → (∀ a, a < 961 → ¬ unS gg D a) → clA gg D k i = 1
  | 0, _, _, _ => rfl
  | k + 1, i, hk, h => by
    unfold clA
    by_cases c : D 16 i < 0
    · rw [if_pos c]; exact clA_1 k (i + 1) (by omega) h
    · rw [if_neg c, if_pos (fun z => h i (by omega) ⟨c, z⟩)]; exact clA_1 k (i + 1) (by omega) h
theorem dn_ok {P : Pm} {g : Gh} {l : Nat} {S : SS} (hP : PmO P) (hl : l < P.nn) (h : QDn P l g S) (h1 : ∀ n, n < P.nn → dN S n 1 4 = 0) (h2 : ∀ n, n < P.nn → bt (dN S l 7 10) n = true) (h3 : ∀ n, n < P.nn → bt (S.1 4 15) n = true) : dnP P.nn P.gg P.f S := by
  have hnn := hP.nn
  obtain ⟨⟨hR, hms, _, hA⟩, hc, _, _, hs⟩ := h
  obtain ⟨hkn, _, _, hs0, hbg⟩ := hc
  obtain ⟨e1, e2, e3, e4, e5, _, _, _, e9, _⟩ := hR.he
  obtain ⟨R, rc, _, _, _, _, _, hmp, _⟩ := hA
  obtain ⟨he, ha⟩ := hR.1.1.as
  refine ⟨?_, ?_, hms, fun i hi => ?_, l, hl, ?_, ?_⟩
  · rw [e1, e5, hbg]; exact Int32.lt_irrefl
  · rw [e9, hmp]
    refine bt_ext (fun i hi => ?_)
    rcases Nat.lt_or_ge i P.nn with q | q
    · rw [h3 i q, allN_bt P.nn (by omega) i q]
    · rw [allN_no P.nn (by omega) i hi q]
      cases hb : bt (S.1 4 15) i with
      | false => rfl
      | true => have := (ha.mh i hi hb).1; omega
  · show dN S i 1 4 ≤ 0
    rw [h1 i hi]; decide
  · rw [e9]; exact lds_nof hR.2.2.1
  · have h710 : dN S l 7 10 = ((1 <<< ((nI P.nn) &&& 31)) - 1) := by
      show dN S l 7 10 = allN P.nn
      refine bt_ext (fun i hi => ?_)
      rcases Nat.lt_or_ge i P.nn with q | q
      · rw [h2 i q, allN_bt P.nn (by omega) i q]
      · rw [allN_no P.nn (by omega) i hi q]
        cases hb : bt (dN S l 7 10) i with
        | false => rfl
        | true => have := ((hR.gh hl).2.1 (by rw [hs0]; decide) i hi hb).2; omega
    unfold icB
    rw [if_neg (show ¬ ¬ acB (S.2.2.2.1 l 18 3) = 0 from fun z => z (by rw [show S.2.2.2.1 l 18 3 = 0 from hs0]; decide)), if_neg hkn, if_pos h710, show clA P.gg (S.2.2.2.1 l) 961 0 = 1 from clA_1 961 0 (by omega) hs]
    decide
theorem safe_end {P : Pm} {l : Nat} (hP : PmO P) (hSL : SL P) (hl : l < P.nn) (g : Gh) (S : SS) (h : QDn P l g S) : Ends P 3 S := by
  refine Ends.step (fun T S1 ht hd => ?_)
  obtain ⟨⟨g1, _, h1⟩, j1⟩ := rdD1 hP hSL hl h ht hd
  refine Ends.step (fun T2 S2 ht2 hd2 => ?_)
  obtain ⟨⟨g2, _, h2⟩, j2, c2, _⟩ := rdD (fl := false) hP hSL hl h1 j1 (fun z => by cases z) ht2 hd2
  refine Ends.step (fun T3 S3 ht3 hd3 => ?_)
  obtain ⟨⟨g3, _, h3⟩, j3, c3, c4, c5⟩ := rdD (fl := true) hP hSL hl h2 j2 (fun _ => c2) ht3 hd3
  exact Ends.done (dn_ok hP hl h3 c3 (c4 rfl) c5)
/-- from where on all OPERATIONS are done -/
theorem c_end {P : Pm} {l : Nat} (hP : PmO P) (hSL : SL P) (hl : l < P.nn) (hT : ∀ g S, RST P l g S → tbN (dN S l) ≤ 170) (g : Gh) (S : SS) (h : RST P l g S) (hc : CSt P l g S) : Ends P 464 S := by
  refine Ends.step (n := 463) (fun T S1 ht hd => ?_)
  obtain ⟨⟨g1, _, h1, hc1⟩, ⟨hF1, hp1⟩, _⟩ := rdC hP hSL hl h hc ht hd
  exact mend_end hP hSL hl (safe_end hP hSL hl) 460 g1 S1 h1 hc1 hF1 hp1 (by have := MC.top hP (hT g1 S1 h1); omega)
/-- a round after the other -/
theorem all_end {P : Pm} {l : Nat} (hP : PmO P) (hSL : SL P) (hl : l < P.nn) (hT : ∀ g S, RST P l g S → tbN (dN S l) ≤ 170) (m : Nat) : ∀ (g : Gh) (S : SS), RST P l g S → MuL P l g S m → Ends P (m + 465) S := by
  induction m using Nat.strongRecOn with
  | ind m ih =>
    intro g S h hm
    by_cases hc : CSt P l g S
    · exact (c_end hP hSL hl hT g S h hc).mono (by omega)
    · refine (Ends.step (n := m + 464) (fun T S1 ht hd => ?_))
      rcases rdAB hP hSL hl h hm ht hd with q | ⟨m', m1, g', _, h', hm'⟩
      · exact absurd q hc
      · exact (ih m' m1 g' S1 h' hm').mono (by omega)
theorem rst_end {P : Pm} {l : Nat} (hP : PmO P) (hSL : SL P) (hl : l < P.nn) (hT : ∀ g S, RST P l g S → tbN (dN S l) ≤ 170) (g : Gh) (S : SS) (h : RST P l g S) : Ends P 1932 S := all_end hP hSL hl hT 1467 g S h (MuL.top hP hl h.1)

/-! nothing is left to drop: all come to be clean -/
def DFv (P : Pm) (l : Nat) (fl : Bool) (T S : SS) : Prop :=
  ((∀ q, q = 8 ∨ q = 10 ∨ q = 11 ∨ q = 15 ∨ q = 16 ∨ q = 18 → dN S l q = dN T l q) ∧ kN S l = kN T l) ∧
  (∀ y ∈ S.2.2.1, y.1 0 = 0 ∨ y.1 0 = 1 ∨ y.1 0 = 4 ∨ y.1 0 = 5 ∨ (fl = false ∧ y.1 0 = 11)) ∧
  (∀ n q, n < P.nn → q < 7 → dN S n q = dN T n q) ∧
  (∀ y ∈ S.2.2.1, y.1 0 = 5 → ∃ n, n < P.nn ∧ y.1 1 = nI n ∧ y.1 6 = 0 ∧ ∀ t, hvT y t → ¬ t = -1 ∧ stb (dN T n) t) ∧
  (fl = true → ∀ n, n < P.nn → bt (dN S l 7 10) n = true ∨ (∃ y ∈ S.2.2.1, y.1 0 = 4 ∧ y.1 1 = nI l ∧ y.1 2 = nI n) ∨ ∃ y ∈ S.2.2.1, y.1 0 = 5 ∧ y.1 1 = nI n ∧ y.1 2 = nI l) ∧
  (∀ n, n < P.nn → bt (S.1 4 15) n = true ∨ (∃ y ∈ S.2.2.1, y.1 0 = 0 ∧ y.1 2 = nI n) ∨ ∃ y ∈ S.2.2.1, y.1 0 = 1 ∧ y.1 1 = nI n ∧ y.1 2 = nI P.nn)
theorem noJ.k {P : Pm} {l n : Nat} {T : SS} {t : Int32} (h : noJ P l T) (hn : n < P.nn) (ht : ¬ t = -1) (hs : stb (dN T n) t) : KPd P.gg (dN T l) n t := by
  apply Classical.byContradiction
  intro hk
  obtain ⟨s, s1, s2, _⟩ := hs
  refine h n t hn ⟨ht, fun a ha hf => ?_⟩ ⟨s, s1, s2⟩
  cases e : bt (mkA P.gg (dN T l) a) n with
  | false => rfl
  | true => exact absurd ⟨a, ha, hf, e⟩ hk
theorem KPd.nj {gg n : Nat} {D : Nat → Nat → Int32} {K : Int64} {t : Int32} (h : KPd gg D n t) : ¬ jS gg D K n t := fun hj => by
  obtain ⟨a, a1, a2, a3⟩ := h
  rcases hj with ⟨z, _⟩ | ⟨a', b1, b2, b3, _⟩
  · rw [z] at a2; exact absurd a2.symm (nIneg (by omega))
  · have : a' = a := nI_inj (by omega) (by omega) (b2.symm.trans a2)
    rw [this, a3] at b3; cases b3
theorem DFv.st {P : Pm} {g g' : Gh} {l : Nat} {fl : Bool} {x : Mg} {Z : List Mg} {T S S' : SS} (hP : PmO P) (hl : l < P.nn) (hsT : dN T l 18 3 = 0) (hJ : noJ P l T) (hcT : ∀ n, n < P.nn → dN T n 1 4 = 0) (h : RG P g l S) (hst : St1 P g l x Z S S') (h' : RG P g' l S') (hq : GQ P l S) (hv : DFv P l fl T S) : DFv P l fl T S' := by
  have hnn := hP.nn
  obtain ⟨⟨d1, d1k⟩, d2, d3, d4, d5, d6⟩ := hv
  have hL := h.lo hl
  have hG := h.1.1.go
  have hx := d2 x hst.head
  have hlt128 := hst.lt h.2.1
  have hs0 : dN S l 18 3 = 0 := by rw [d1 18 (by decide)]; exact hsT
  have hkT : ∀ n t, KPd P.gg (dN T l) n t → KPd P.gg (dN S l) n t := fun n t z => z.cg (d1 8 (by decide)) (d1 11 (by decide)) (d1 15 (by decide)) (d1 16 (by decide))
  have hn2 : ¬ x.1 0 = 2 := fun z => by rcases hx with q | q | q | q | ⟨_, q⟩ <;> rw [z] at q <;> exact absurd q (by decide)
  have hn7 : ¬ x.1 0 = 7 := fun z => by rcases hx with q | q | q | q | ⟨_, q⟩ <;> rw [z] at q <;> exact absurd q (by decide)
  have hn3 : ¬ x.1 0 = 3 := fun z => by rcases hx with q | q | q | q | ⟨_, q⟩ <;> rw [z] at q <;> exact absurd q (by decide)
  have hn8 : ¬ x.1 0 = 8 := fun z => by rcases hx with q | q | q | q | ⟨_, q⟩ <;> rw [z] at q <;> exact absurd q (by decide)
  -- a LISTED that is handed over
  have hls : x.1 0 = 5 → ∃ n, n < P.nn ∧ x.1 1 = nI n ∧ x.1 6 = 0 ∧ ∀ t, hvT x t → KPd P.gg (dN S l) n t := fun c5 => by
    obtain ⟨n, n1, n2, n3, n4⟩ := d4 x hst.head c5
    exact ⟨n, n1, n2, n3, fun t ht => hkT n t (hJ.k n1 (n4 t ht).1 (n4 t ht).2)⟩
  -- the leader
  have lead : ∀ (e : LDr P g l x.1 x.2 (dN S l) (kN S l) (aN S l) (dN S' l) (kN S' l) (aN S' l) (tkl S.2.2.1 0) Z), ((∀ q, q = 8 ∨ q = 10 ∨ q = 11 ∨ q = 15 ∨ q = 16 ∨ q = 18 → dN S' l q = dN T l q) ∧ kN S' l = kN T l) ∧ (∀ z, z ∈ psl (tkl S.2.2.1 0) Z → z ∈ S.2.2.1) ∧ (∀ q, q < 7 → dN S' l q = dN S l q) ∧ (fl = true → ∀ n, n < P.nn → bt (dN S l 7 10) n = true ∨ (x.1 0 = 5 ∧ x.1 1 = nI n) → bt (dN S' l 7 10) n = true) := fun e => by
    have e7 : ∀ q, q < 7 → dN S' l q = dN S l q := by
      obtain ⟨_, _, _, _, _, _, _, _, _, _, _, _, _, q, _⟩ := e
      exact q
    obtain ⟨r0, ⟨Z0, hX⟩, Z6, r1, r2, r3, r4⟩ := e.d0 hG (SU.b12 h.1.1) hP.gg hnn hL hst.2.2.1 hst.2.2.2.1 hq.1 (fun z k hk e => hq.2.2.2.1 x k hst.head z hk e) hs0 hn2 hn7
    have hZ6 : Z6 = [] := by
      rcases r2 with q | ⟨c5, n, d, bf, n1, n2, w1, w2, w3⟩
      · exact q
      · exfalso
        obtain ⟨t, _, t2, t3⟩ := w3 0 w1
        obtain ⟨n', b1, b2, _, b4⟩ := hls c5
        have : n' = n := nI_inj (by omega) (by omega) (b2.symm.trans n2)
        subst this
        exact (b4 t t2).nj t3
    have hfz : ∀ q, q = 8 ∨ q = 10 ∨ q = 11 ∨ q = 15 ∨ q = 16 ∨ q = 18 → dN S' l q = dN S l q := fun q hq' => by
      rcases hX with ⟨w, _⟩ | ⟨_, _, n, cnt, s2, s3, _, _, _, _, _, _, w, _⟩ | ⟨w, _⟩ | ⟨w, _⟩ | ⟨_, _, _, _, n, _, _, w, _⟩ | ⟨_, _, _, _, _, _, _, _, w⟩
      · exact absurd w hn2
      · rw [w.1 q (by omega) (by omega) (by omega), hrd_n (by omega)]
      · exact absurd w hn7
      · exact absurd w hn8
      · exact w q (by omega) (by omega)
      · rw [w, hrd_n (by omega)]
    refine ⟨⟨fun q hq' => by rw [hfz q hq']; exact d1 q hq', by rw [r0]; exact d1k⟩, fun z hz => ?_, e7, fun hfl n hn hc => ?_⟩
    · rw [r1, hZ6] at hz
      exact (tkl_perm hst.1).mem_iff.mp (List.mem_cons_of_mem _ hz)
    · rcases hX with ⟨w, _⟩ | ⟨c5, _⟩ | ⟨w, _⟩ | ⟨w, _⟩ | ⟨w, _⟩ | ⟨_, c5, _, _, _, _, _, _, w⟩
      · exact absurd w hn2
      · obtain ⟨n', b1, b2, b3, b4⟩ := hls c5
        have w := r4 c5 b3 (fun n2 t h1 h2 h3 => by
          have : n2 = n' := nI_inj (by omega) (by omega) (h2.symm.trans b2)
          subst this
          exact b4 t h3)
        rw [w]
        unfold scB
        rw [if_neg (by decide), hrd_7 (by decide), b2, bt_set _ (by omega) (by omega)]
        rcases hc with hc | ⟨_, hc⟩
        · rw [hc, Bool.true_or]
        · have : n' = n := nI_inj (by omega) (by omega) (b2.symm.trans hc)
          rw [this, decide_eq_true rfl, Bool.or_true]
      · exact absurd w hn7
      · exact absurd w hn8
      · exfalso
        rcases hx with q | q | q | q | ⟨q, _⟩
        · rw [w] at q; exact absurd q (by decide)
        · rw [w] at q; exact absurd q (by decide)
        · rw [w] at q; exact absurd q (by decide)
        · rw [w] at q; exact absurd q (by decide)
        · rw [hfl] at q; cases q
      · rcases hc with hc | ⟨hc, _⟩
        · rw [w, hrd_7 (by decide)]; exact hc
        · exact absurd hc c5
  -- a NODE
  have node : ∀ j, NRl P j x.1 x.2 (dN S j) (dN S' j) Z → dN S' j = dN S j ∧ ((x.1 0 = 0 ∧ Z = [mHD P.nn j (dN S j)]) ∨ (x.1 0 = 4 ∧ Z = [mLS j (dN S j) (x.1 1)])) := fun j hr => by
    rcases hr with ⟨a, b, c⟩ | ⟨a, b, c⟩ | ⟨a, _⟩ | ⟨a, _⟩ | ⟨a, _⟩ | ⟨a, _⟩
    · exact ⟨b, Or.inl ⟨a, c⟩⟩
    · exact ⟨b, Or.inr ⟨a, c⟩⟩
    · rcases hx with q | q | q | q | ⟨_, q⟩ <;> rw [a] at q <;> exact absurd q (by decide)
    · rcases hx with q | q | q | q | ⟨_, q⟩ <;> rw [a] at q <;> exact absurd q (by decide)
    · rcases hx with q | q | q | q | ⟨_, q⟩ <;> rw [a] at q <;> exact absurd q (by decide)
    · rcases hx with q | q | q | q | ⟨_, q⟩ <;> rw [a] at q <;> exact absurd q (by decide)
  -- where MESSAGES come from
  have src : ∀ y ∈ S'.2.2.1, (∃ y0 ∈ S.2.2.1, smM y y0) ∨ ∃ j, j < P.nn ∧ x.1 2 = nI j ∧ ((x.1 0 = 0 ∧ smM y (mHD P.nn j (dN S j))) ∨ (x.1 0 = 4 ∧ smM y (mLS j (dN S j) (x.1 1)))) := fun y hy => by
    rcases hst.src hP hl hy with q | ⟨c, q⟩ | ⟨j, z, j1, j2, _, hr, z1, z2⟩ | ⟨c, cN, e, z, z0, _, z2⟩
    · exact Or.inl q
    · left
      rcases hst.cs hnn hl with ⟨_, _, e⟩ | ⟨j, j1, j2, _⟩ | ⟨c2, _⟩ | ⟨c2, _⟩
      · have hsub : ∀ w, w ∈ tkl S.2.2.1 0 → w ∈ S.2.2.1 := fun w hw => (tkl_perm hst.1).mem_iff.mp (List.mem_cons_of_mem _ hw)
        rcases e with ⟨_, e⟩ | ⟨_, _, e⟩ | ⟨_, e, _⟩
        · rw [e] at hy; exact ⟨y, hsub y hy, smM.rf⟩
        · rw [e] at hy; exact ⟨y, hsub y hy, smM.rf⟩
        · exact absurd e.1 hn3
      · have := nI_inj (by omega) (by omega) (j2.symm.trans c)
        omega
      · have := nI_inj (by omega) (by omega) (c2.symm.trans c)
        omega
      · exact absurd c c2
    · right
      refine ⟨j, j1, j2, ?_⟩
      rcases (node j hr).2 with ⟨w1, w2⟩ | ⟨w1, w2⟩
      · rw [w2] at z1
        rw [List.mem_singleton.mp z1] at z2
        exact Or.inl ⟨w1, z2⟩
      · rw [w2] at z1
        rw [List.mem_singleton.mp z1] at z2
        exact Or.inr ⟨w1, z2⟩
    · exact Or.inl ⟨z, (lead e).2.1 z z0, z2⟩
  have hfix : ((∀ q, q = 8 ∨ q = 10 ∨ q = 11 ∨ q = 15 ∨ q = 16 ∨ q = 18 → dN S' l q = dN T l q) ∧ kN S' l = kN T l) ∧ (∀ n q, n < P.nn → q < 7 → dN S' n q = dN S n q) ∧ (fl = true → ∀ n, n < P.nn → bt (dN S l 7 10) n = true → bt (dN S' l 7 10) n = true) := by
    rcases hst.cs hnn hl with ⟨_, e, _⟩ | ⟨j, j1, j2, _, _, _, e1, eK, _, e3, hr, _⟩ | ⟨_, _, _, _, e1, e⟩ | ⟨_, _, _, _, _, e, _⟩
    · refine ⟨⟨fun q hq' => ?_, ?_⟩, fun n q _ _ => ?_, fun _ n _ hb => ?_⟩
      · show S'.2.2.2.1 l q = _; rw [e]; exact d1 q hq'
      · show S'.2.2.2.2.1 l = _; rw [e]; exact d1k
      · show S'.2.2.2.1 n q = _; rw [e]
      · show bt (S'.2.2.2.1 l 7 10) n = true; rw [e]; exact hb
    · have hall : ∀ n, dN S' n = dN S n := fun n => by
        by_cases c : n = j
        · rw [c]; exact (node j hr).1
        · exact e1 n c
      exact ⟨⟨fun q hq' => by rw [hall]; exact d1 q hq', by rw [eK]; exact d1k⟩, fun n q _ _ => by rw [hall], fun _ n _ hb => by rw [hall]; exact hb⟩
    · obtain ⟨l1, _, l3, l4⟩ := lead e
      refine ⟨l1, fun n q hn hq' => ?_, fun hf n hn hb => l4 hf n hn (Or.inl hb)⟩
      by_cases c : n = l
      · rw [c]; exact l3 q hq'
      · rw [(e1 n c).1]
    · refine ⟨⟨fun q hq' => ?_, ?_⟩, fun n q _ _ => ?_, fun _ n _ hb => ?_⟩
      · show S'.2.2.2.1 l q = _; rw [e]; exact d1 q hq'
      · show S'.2.2.2.2.1 l = _; rw [e]; exact d1k
      · show S'.2.2.2.1 n q = _; rw [e]
      · show bt (S'.2.2.2.1 l 7 10) n = true; rw [e]; exact hb
  obtain ⟨x1, x2, x3⟩ := hfix
  refine ⟨x1, fun y hy => ?_, fun n q hn hq' => by rw [x2 n q hn hq']; exact d3 n q hn hq', fun y hy h5 => ?_, fun hf n hn => ?_, fun n hn => ?_⟩
  · rcases src y hy with ⟨y0, q1, q2⟩ | ⟨j, j1, _, ⟨_, q⟩ | ⟨_, q⟩⟩
    · rw [q2.1]; exact d2 y0 q1
    · rw [q.1]; exact Or.inr (Or.inl rfl)
    · rw [q.1, (mLS_v (to := x.1 1) (h.nu j1)).1]; exact Or.inr (Or.inr (Or.inr (Or.inl rfl)))
  · rcases src y hy with ⟨y0, q1, q2⟩ | ⟨j, j1, _, ⟨_, q⟩ | ⟨_, q⟩⟩
    · obtain ⟨n, n1, n2, n3, n4⟩ := d4 y0 q1 (by rw [← q2.1]; exact h5)
      exact ⟨n, n1, by rw [q2.1]; exact n2, by rw [q2.1]; exact n3, fun t ht => n4 t (hvT_sy q2.sy (by rw [← q2.1]; exact Or.inl h5) ht)⟩
    · rw [q.1] at h5; exact absurd h5 (show ¬ (1 : Int32) = 5 by decide)
    · obtain ⟨u0, u1, u2, u3, u6, c', u7, u8, u9, u10, u11⟩ := mLS_v (to := x.1 1) (h.nu j1)
      refine ⟨j, j1, by rw [q.1]; exact u1, by rw [q.1, u6]; show dN S j 1 4 = 0; rw [d3 j 1 j1 (by decide)]; exact hcT j j1, fun t ht => ?_⟩
      obtain ⟨i, i1, i2⟩ := hvT_sy q.sy (by rw [u0]; exact Or.inl rfl) ht
      rw [u8, nI_clamp (by omega)] at i1
      obtain ⟨⟨k, k1, k2, _⟩, w2⟩ := u10 i i1
      rw [i2] at k2 w2
      exact ⟨by rw [k2]; exact nIneg (by omega), (stb_cg (d3 j 5 j1 (by decide)) (d3 j 6 j1 (by decide))).mp w2⟩
  · rcases d5 hf n hn with q | ⟨y, y1, y2, y3, y4⟩ | ⟨y, y1, y2, y3, y4⟩
    · exact Or.inl (x3 hf n hn q)
    · rcases hst.old y1 with e | ⟨y', c1, c2⟩
      · subst e
        right; right
        rcases hst.cs hnn hl with ⟨c, _⟩ | ⟨j, j1, j2, _, _, _, _, _, _, _, hr, _⟩ | ⟨_, c, _⟩ | ⟨_, _, c, _⟩
        · have := nI_inj (by omega) (by omega) (c.symm.trans y4)
          omega
        · have : j = n := nI_inj (by omega) (by omega) (j2.symm.trans y4)
          subst this
          rcases (node j hr).2 with ⟨c, _⟩ | ⟨_, e⟩
          · rw [y2] at c; exact absurd c (by decide)
          · obtain ⟨w, w1, w2⟩ := hst.new (z := mLS j (dN S j) (y.1 1)) (by rw [e]; exact psl_new hlt128)
            obtain ⟨u0, u1, u2, _⟩ := mLS_v (to := y.1 1) (h.nu hn)
            exact ⟨w, w1, by rw [w2.1]; exact u0, by rw [w2.1]; exact u1, by rw [w2.1, u2]; exact y3⟩
        · exact absurd (Or.inr (Or.inl y2)) c
        · exact absurd (Or.inr (Or.inl y2)) (c n hn y4)
      · exact Or.inr (Or.inl ⟨y', c1, by rw [c2.1]; exact y2, by rw [c2.1]; exact y3, by rw [c2.1]; exact y4⟩)
    · rcases hst.old y1 with e | ⟨y', c1, c2⟩
      · subst e
        left
        rcases hst.cs hnn hl with ⟨c, _⟩ | ⟨j, _, _, j3, _⟩ | ⟨_, _, _, _, _, e⟩ | ⟨_, c, _⟩
        · have := nI_inj (by omega) (by omega) (c.symm.trans y4)
          omega
        · rw [y2] at j3
          rcases j3 with z | z | z | z | z | z <;> exact absurd z (by decide)
        · exact (lead e).2.2.2 hf n hn (Or.inr ⟨y2, y3⟩)
        · exact absurd y4 c
      · exact Or.inr (Or.inr ⟨y', c1, by rw [c2.1]; exact y2, by rw [c2.1]; exact y3, by rw [c2.1]; exact y4⟩)
  · have hE : ¬ x.1 2 = nI P.nn → S'.1 = S.1 := (hst.he hP hl h h').2.2.2.1
    have hne : ∀ j, j < P.nn → ¬ nI j = nI P.nn := fun j hj z => by
      have := nI_inj (by omega) (by omega) z
      omega
    rcases d6 n hn with q | ⟨y, y1, y2, y3⟩ | ⟨y, y1, y2, y3, y4⟩
    · left
      by_cases c : x.1 2 = nI P.nn
      · rcases hst.cs hnn hl with ⟨_, _, e⟩ | ⟨j, j1, j2, _⟩ | ⟨c2, _⟩ | ⟨c2, _⟩
        · rcases e with ⟨_, e⟩ | ⟨_, _, e⟩ | ⟨_, e, _⟩
          · rw [e]
            show bt (va_up S.1 4 (upd (S.1 4) 15 ((S.1 4 15) ||| ((1 : Int32) <<< (x.1 1 &&& 31)))) 4 15) n = true
            rw [va_up_s, pk_us, b_or, q, Bool.true_or]
          · rw [e]; exact q
          · exact absurd e.1 hn3
        · exact absurd (j2.symm.trans c) (hne j j1)
        · exact absurd (c2.symm.trans c) (hne l hl)
        · exact absurd c c2
      · rw [hE c]; exact q
    · rcases hst.old y1 with e | ⟨y', c1, c2⟩
      · subst e
        right; right
        rcases hst.cs hnn hl with ⟨c, _⟩ | ⟨j, j1, j2, _, _, _, _, _, _, _, hr, _⟩ | ⟨_, c, _⟩ | ⟨_, _, c, _⟩
        · exact absurd (y3.symm.trans c) (hne n hn)
        · have : j = n := nI_inj (by omega) (by omega) (j2.symm.trans y3)
          subst this
          rcases (node j hr).2 with ⟨_, e⟩ | ⟨c, _⟩
          · obtain ⟨w, w1, w2⟩ := hst.new (z := mHD P.nn j (dN S j)) (by rw [e]; exact psl_new hlt128)
            exact ⟨w, w1, by rw [w2.1]; rfl, by rw [w2.1]; rfl, by rw [w2.1]; rfl⟩
          · rw [y2] at c; exact absurd c (by decide)
        · exact absurd (Or.inl y2) c
        · exact absurd (Or.inl y2) (c n hn y3)
      · exact Or.inr (Or.inl ⟨y', c1, by rw [c2.1]; exact y2, by rw [c2.1]; exact y3⟩)
    · rcases hst.old y1 with e | ⟨y', c1, c2⟩
      · subst e
        left
        rcases hst.cs hnn hl with ⟨_, _, e⟩ | ⟨j, j1, j2, _⟩ | ⟨c2, _⟩ | ⟨c2, _⟩
        · rcases e with ⟨_, e⟩ | ⟨e, _⟩ | ⟨_, e, _⟩
          · rw [e]
            show bt (va_up S.1 4 (upd (S.1 4) 15 ((S.1 4 15) ||| ((1 : Int32) <<< (y.1 1 &&& 31)))) 4 15) n = true
            rw [va_up_s, pk_us, y3, bt_set _ (by omega) (by omega), decide_eq_true rfl, Bool.or_true]
          · refine absurd ⟨y2, ?_⟩ e
            show y.1 3 = S.1 4 13
            obtain ⟨_, _, _, _, _, _, _, e8, _⟩ := h.he
            rw [h.2.2.2.2.1 y hst.head, e8]
          · exact absurd e.1 hn3
        · exact absurd (j2.symm.trans y4) (hne j j1)
        · exact absurd (c2.symm.trans y4) (hne l hl)
        · exact absurd y4 c2
      · exact Or.inr (Or.inr ⟨y', c1, by rw [c2.1]; exact y2, by rw [c2.1]; exact y3, by rw [c2.1]; exact y4⟩)

/-! a round in which an OPERATION is asked for -/
def AOI (P : Pm) (l h0 : Nat) (S0 : SS) (g : Gh) (S : SS) : Prop :=
  GQ P l S ∧ AKs h0 S ∧ HFu P (dN S l) ∧ RTn g h0 (dN S l) ∧ AV P g ∧
  (pgT g (dN S0 l) (kN S0 l) (dN S l) (kN S l) ∨ dnO P h0 S ∨ (smT (dN S0 l) (kN S0 l) (dN S l) (kN S l) ∧ heN S = h0 ∧ (pcd (dN S l) h0 ≤ 3 ∨ (dN S l 18 3 = 0 ∧ ∃ y ∈ S.2.2.1, y.1 0 = 2 ∧ y.1 2 = nI l ∧ y.1 5 = nI h0))))
theorem pcd3 {P : Pm} {g : Gh} {e h0 : Nat} {D : Nat → Nat → Int32} {K : Int64} (h : LO P g e D K) (h2 : 2 ≤ D 18 3) (ho : D 18 4 = nI h0) : pcd D h0 ≤ 3 := by
  unfold pcd
  rw [if_pos ho]
  rcases h.s5 with q | q | q | q | q
  · rw [q] at h2; exact absurd h2 (by decide)
  · rw [q] at h2; exact absurd h2 (by decide)
  · rw [q]; decide
  · rw [q]; decide
  · rw [q]; decide
/-- the leader takes it -/
theorem take_it {P : Pm} {g : Gh} {l h0 : Nat} {x : Mg} {Z : List Mg} {S S' : SS} (hP : PmO P) (hl : l < P.nn) (h : RG P g l S) (hst : St1 P g l x Z S S') (hq : GQ P l S) (hf : HFu P (dN S l)) (hrt : RTn g h0 (dN S l)) (hA : AV P g) (hh : heN S = h0) (hs0 : dN S l 18 3 = 0) (c2 : x.1 0 = 2) (c5 : x.1 5 = nI h0) (h05 : h0 < 512) (e : LDr P g l x.1 x.2 (dN S l) (kN S l) (aN S l) (dN S' l) (kN S' l) (aN S' l) (tkl S.2.2.1 0) Z) : dnO P h0 S' ∨ pcd (dN S' l) h0 ≤ 3 := by
  have hS := h.1
  have hG := hS.1.go
  have hb12 := SU.b12 hS.1
  have hnn := hP.nn
  have hL := h.lo hl
  have hm := hst.2.2.1
  have hs := hst.2.2.2.1
  obtain ⟨_, e2, _⟩ := h.he
  have hop := (h.gh hl).2.2.2
  unfold OPl at hop
  rw [← e2, hh] at hop
  obtain ⟨D1, Z6, Zt, Zp, ⟨Z0, hx⟩, q16, hstp, hZ6, _, hL1, hF, _, _, _, _, _, hL'⟩ := e.g hG hb12 hP.gg hnn hL hm hs hq.1 (fun z k hk e => hq.2.2.1 x k hst.head (Or.inr z) hk e) (fun z k hk e => hq.2.2.2.1 x k hst.head z hk e)
  have htk : D1 18 3 = 1 ∧ D1 18 4 = nI h0 ∧ ∀ q, q < 18 → D1 q = dN S l q := by
    rcases hx with ⟨_, _, _, _, a4, a5⟩ | ⟨c, _⟩ | ⟨c, _⟩ | ⟨c, _⟩ | ⟨c, _⟩ | ⟨c, _⟩
    · rcases a5 with ⟨_, w⟩ | ⟨_, w2, w3⟩
      · exfalso
        rcases w with w | ⟨_, w⟩ | w
        · rw [c5] at w
          rcases hop.1 with z | ⟨o, o1, o2⟩
          · rw [z] at w
            exact nI_pos (show h0 < 2 ^ 31 by omega) (Int32.lt_trans w (by decide))
          · rw [o2] at w
            have := (nI_ltI (by omega) (by omega)).mp w
            omega
        · exact w hs0
        · rw [hs0] at w; exact w (by decide)
      · exact ⟨w2, by rw [w3, c5], a4⟩
    · rw [c2] at c; exact absurd c (by decide)
    · rw [c2] at c; exact absurd c (by decide)
    · rw [c2] at c; exact absurd c (by decide)
    · rw [c2] at c; exact absurd c (by decide)
    · exact absurd c2 c
  obtain ⟨t1, t2, t3⟩ := htk
  have hZ : Z6 = [] := by
    rcases hZ6 with q | ⟨q, _⟩
    · exact q
    · rw [c2] at q; exact absurd q (by decide)
  rw [hZ] at hF
  rcases goon_pl (h0 := h0) hP hG hL1 t1 t2 h05 (by rw [t3 10 (by decide)]; exact hq.1) (by rw [t3 8 (by decide), t3 7 (by decide)]; exact rd_full hP hA hL hf hP.gg) (fun v hv he => by rw [t3 16 (by decide)]; exact hrt v hv he) (by rw [t3 16 (by decide)]; exact hop.2) hF with ⟨w1, w2⟩ | ⟨z, Zp', w1, w2, w3, w4⟩
  · exact Or.inr (pcd3 hL' w1 w2)
  · left
    obtain ⟨y, y1, y2⟩ := hst.new (z := z) (by
      rw [w1]
      exact psl_old Zp' (psl_new (hst.lt h.2.1)))
    exact Or.inr ⟨y, y1, by rw [y2.1]; exact w2, by rw [y2.1]; exact w3, by rw [y2.1]; exact w4⟩
theorem RTn.st {P : Pm} {g g' : Gh} {l h0 : Nat} {x : Mg} {Z : List Mg} {S S' : SS} (hP : PmO P) (hl : l < P.nn) (h : RG P g l S) (hst : St1 P g l x Z S S') (hgs : Gs g g') (h' : RG P g' l S') (hr : RTn g h0 (dN S l)) : RTn g' h0 (dN S' l) := fun v hv he => by
  rw [hgs.ops] at he
  exact Int32.le_trans (hr v hv he) (hst.rl hP hl h h')
theorem AOI.st {P : Pm} {g g' : Gh} {l h0 : Nat} {x : Mg} {Z : List Mg} {S0 S S' : SS} (hP : PmO P) (hl : l < P.nn) (h05 : h0 < 512) (h : RG P g l S) (hi : AOI P l h0 S0 g S) (hst : St1 P g l x Z S S') (hgs : Gs g g') (h' : RG P g' l S') : AOI P l h0 S0 g' S' := by
  obtain ⟨hq, ha, hf, hrt, hA, hi⟩ := hi
  have hnn := hP.nn
  refine ⟨hq.st hP hl h hst h', ha.st hP hl h hst h', fun n hn => hst.hf hP hl h (hf n hn), hrt.st hP hl h hst hgs h', hA.gs hgs, ?_⟩
  have lm := hst.lm hP hl h
  rcases hi with hi | hi | ⟨i1, i2, i3⟩
  · left
    apply pgT.gs hgs
    rcases lm with lm | lm
    · exact hi.sm (Or.inl lm)
    · exact hi.tr lm
  · exact Or.inr (Or.inl (hi.st hP hl h hst h' ha.1))
  · rcases lm with lm | lm
    case inr => exact Or.inl ((i1.pg lm).gs hgs)
    right
    obtain ⟨a1, a2, a3, a4, _⟩ := hst.he hP hl h h'
    have key : (dnO P h0 S' ∨ pcd (dN S' l) h0 ≤ 3 ∨ (dN S' l 18 3 = 0 ∧ ∃ y ∈ S'.2.2.1, y.1 0 = 2 ∧ y.1 2 = nI l ∧ y.1 5 = nI h0)) → dnO P h0 S' ∨ (smT (dN S0 l) (kN S0 l) (dN S' l) (kN S' l) ∧ heN S' = h0 ∧ (pcd (dN S' l) h0 ≤ 3 ∨ (dN S' l 18 3 = 0 ∧ ∃ y ∈ S'.2.2.1, y.1 0 = 2 ∧ y.1 2 = nI l ∧ y.1 5 = nI h0))) := fun z => by
      rcases z with z | z
      · exact Or.inl z
      · rcases Nat.lt_or_ge h0 (heN S') with q | q
        · exact Or.inl (Or.inl q)
        · exact Or.inr ⟨i1.tr lm, by omega, z⟩
    apply key
    rcases i3 with i3 | ⟨i3, y, y1, y2, y3, y4⟩
    · -- it was taken before
      have : dnO P h0 S' ∨ pcd (dN S' l) h0 ≤ pcd (dN S l) h0 := by
        rcases hst.cs hnn hl with ⟨_, e, _⟩ | ⟨j, _, _, _, _, _, _, _, _, e3, _⟩ | ⟨_, _, _, _, _, e⟩ | ⟨_, _, _, _, _, e, _⟩
        · right
          unfold pcd
          show (if S'.2.2.2.1 l 18 4 = nI h0 then pcA (S'.2.2.2.1 l 18 3) else pcB (S'.2.2.2.1 l 18 3)) ≤ _
          rw [e]; exact Nat.le_refl _
        · right
          unfold pcd
          rw [e3 l 18 (by omega)]; exact Nat.le_refl _
        · exact e.pc hP hl h hst hq ha i2
        · right
          unfold pcd
          show (if S'.2.2.2.1 l 18 4 = nI h0 then pcA (S'.2.2.2.1 l 18 3) else pcB (S'.2.2.2.1 l 18 3)) ≤ _
          rw [e]; exact Nat.le_refl _
      rcases this with z | z
      · exact Or.inl z
      · exact Or.inr (Or.inl (by omega))
    · have keep : dN S' l 18 3 = 0 → y ≠ x → dnO P h0 S' ∨ pcd (dN S' l) h0 ≤ 3 ∨ (dN S' l 18 3 = 0 ∧ ∃ y ∈ S'.2.2.1, y.1 0 = 2 ∧ y.1 2 = nI l ∧ y.1 5 = nI h0) := fun z1 z2 => by
        rcases hst.old y1 with q | ⟨y', b1, b2⟩
        · exact absurd q z2
        · exact Or.inr (Or.inr ⟨z1, y', b1, by rw [b2.1]; exact y2, by rw [b2.1]; exact y3, by rw [b2.1]; exact y4⟩)
      have hn2 : ∀ k : Int32, k = 2 → ¬ isN k := fun k hk z => by
        rw [hk] at z
        rcases z with z | z | z | z | z | z <;> exact absurd z (by decide)
      rcases hst.cs hnn hl with ⟨c, e, _⟩ | ⟨j, j1, j2, j3, _, _, _, _, _, e3, _⟩ | ⟨c, cN, _, _, _, e⟩ | ⟨c0, c1, _, _, _, e, _⟩
      · refine keep (by show S'.2.2.2.1 l 18 3 = 0; rw [e]; exact i3) (fun z => ?_)
        rw [z, c] at y3
        have := nI_inj (by omega) (by omega) y3
        omega
      · refine keep (by rw [e3 l 18 (by omega)]; exact i3) (fun z => ?_)
        rw [z] at y2
        exact hn2 _ y2 j3
      · by_cases c2 : x.1 0 = 2
        · have c5 : x.1 5 = nI h0 := by
            obtain ⟨o, o1, o2, o3⟩ := ha.2 x hst.head c2
            obtain ⟨o', ⟨_, _, p3⟩, p4, _⟩ := hst.2.2.1.ak c2
            obtain ⟨_, e2, _⟩ := h.he
            have : o' = o := nI_inj (by omega) (by omega) (p4.symm.trans o3)
            have ho : o = h0 := by omega
            rw [o3, ho]
          rcases take_it hP hl h hst hq hf hrt hA i2 i3 c2 c5 h05 e with w | w
          · exact Or.inl w
          · exact Or.inr (Or.inl w)
        · refine keep ?_ (fun z => c2 (by rw [← z]; exact y2))
          have hS := h.1
          obtain ⟨D1, Z6, Zt, Zp, _, _, hstp, _, _, hL1, hF, _, _, _, _, _, hL'⟩ := e.g hS.1.go (SU.b12 hS.1) hP.gg hnn (h.lo hl) hst.2.2.1 hst.2.2.2.1 hq.1 (fun z k hk e => hq.2.2.1 x k hst.head (Or.inr z) hk e) (fun z k hk e => hq.2.2.2.1 x k hst.head z hk e)
          obtain ⟨_, _, t3, _⟩ := goon_t hS.1.go hP.gg hnn hL1 hF
          rcases hstp with ⟨w, _⟩ | ⟨w, _⟩
          · exact t3 (w.trans i3)
          · exact absurd w c2
      · refine keep (by show S'.2.2.2.1 l 18 3 = 0; rw [e]; exact i3) (fun z => ?_)
        rw [z] at y3
        exact c1 y3
/-- the round -/
theorem rdK {P : Pm} {g : Gh} {l : Nat} {S T S' : SS} (hP : PmO P) (hl : l < P.nn) (hA : AV P g) (h : RG P g l S) (hms : S.2.2.1 = []) (hkn : ¬ knA (kN S l) (dN S l 10 9) = 0) (hq : ∀ n k, n < P.nn → k < 5243392 → mem (dN S n) (nI k) → ¬ nwO (dN S l 16 960) (nI k)) (hf : HFu P (dN S l)) (hs : dN S l 18 3 = 0) (hne : ¬ heN S = g.bg) (htk : tkR P.nn P.gg P.C P.f S T) (hdr : drR P.nn P.gg P.C P.f T S') : pgT g (dN S l) (kN S l) (dN S' l) (kN S' l) ∨ heN S < heN S' ∨ (smT (dN S l) (kN S l) (dN S' l) (kN S' l) ∧ heN S' = heN S ∧ pcd (dN S' l) (heN S) ≤ 3) := by
  obtain ⟨g1, Zs, hg1, hT, ht⟩ := h.tk hP hl hms htk
  obtain ⟨e1, e2, e3, e4, e5, _, eK, _, _⟩ := ht.ld hl
  obtain ⟨_, _, he3, he4, _⟩ := h.he
  have hsm : smT (dN S l) (kN S l) (dN T l) (kN T l) := smT.of (e1 16 (by decide) (by decide)) (e1 10 (by decide) (by decide)) (e1 15 (by decide) (by decide)) eK
  have hheT : heN T = heN S := by unfold heN; rw [ht.e.1]
  obtain ⟨ak1, ak2⟩ := ht.ak hl hP.nn h
  have hA1 := hA.gs hg1
  have hI : AOI P l (heN S) T g1 T := by
    refine ⟨ht.gq hP hl h hkn (Or.inr hq), ak1, fun n hn => ?_, fun v hv he => ?_, hA1, Or.inr (Or.inr ⟨smT.rf _ _, hheT, Or.inr ⟨by rw [e3]; exact hs, ak2 hne⟩⟩)⟩
    · rw [e2 9 (by decide) (by decide) (by decide)]; exact hf n hn
    · rw [hg1.ops] at he
      rw [e1 16 (by decide) (by decide)]
      exact quiet_rt hP hA h hq v hv he
  obtain ⟨h0, g2, hg2, h2, hI2⟩ := RG.dr (I := AOI P l (heN S) T) hP hl (fun g g' S1 S1' x Z h hi hst hgs h' => hi.st hP hl (by omega) h hst hgs h') hT hI hdr
  obtain ⟨_, _, _, _, _, hI3⟩ := hI2
  have cv : pgT g2 (dN T l) (kN T l) (dN S' l) (kN S' l) → pgT g (dN S l) (kN S l) (dN S' l) (kN S' l) := fun z => by
    apply hsm.pg
    unfold pgT at z ⊢
    rw [Nn_gs hg2, Nn_gs hg1] at z
    exact z
  rcases hI3 with z | z | ⟨z1, z2, z3⟩
  · exact Or.inl (cv z)
  · exact Or.inr (Or.inl (z.e h0))
  · rcases z3 with z3 | ⟨_, y, y1, _⟩
    · exact Or.inr (Or.inr ⟨hsm.tr z1, z2, z3⟩)
    · rw [h0] at y1; cases y1

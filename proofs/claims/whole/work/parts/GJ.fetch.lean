/-! FETCH in a drain -/
theorem LO.tgu {P : Pm} {g : Gh} {e k k' a : Nat} {D : Nat → Nat → Int32} {K : Int64} (hgg : 0 < P.gg) (h : LO P g e D K) (hk : k < 5243392) (hk' : k' < 5243392) (ha : a < 961) (e1 : fndI (D 15) (D 16) (nI k) = nI a) (e2 : fndI (D 15) (D 16) (nI k') = nI a) : k = k' := by
  have key : ∀ k, k < 5243392 → fndI (D 15) (D 16) (nI k) = nI a → tgA (D 11) (D 16) a = nI k := fun k hk e1 => by
    rcases h.find hgg hk with ⟨z, _⟩ | ⟨a', b1, b2, _, _, b5, _⟩
    · rw [z] at e1; exact absurd e1.symm (nIneg (by omega))
    · have : a' = a := nI_inj (by omega) (by omega) (b2.symm.trans e1)
      rw [← this]; exact b5
  exact nI_inj (by omega) (by omega) ((key k hk e1).symm.trans (key k' hk' e2))
def FRf (DT D : Nat → Nat → Int32) : Prop := (∀ q, q = 8 ∨ q = 11 ∨ q = 15 ∨ q = 16 → D q = DT q) ∧ (∀ y, y ≠ 12 → D 18 y = DT 18 y) ∧ ∀ m, m < 32 → bt (D 18 12) m = true → bt (DT 18 12) m = true
/-- a FLUSHED ITEM of the table is known to be there, or a MESSAGE about it is under way -/
def FBo (l ep : Nat) (S : SS) (n k a : Nat) : Prop := bt (dN S l 17 a) n = true ∨ (∃ y ∈ S.2.2.1, y.1 0 = 4 ∧ y.1 1 = nI l ∧ y.1 2 = nI n) ∨ (∃ y ∈ S.2.2.1, y.1 0 = 5 ∧ y.1 1 = nI n ∧ y.1 2 = nI l ∧ hvT y (nI k)) ∨ ∃ y ∈ S.2.2.1, isHW ep l n (nI k) y
/-- a STRIPE comes, or one NODE is known not to have it -/
def OBf (P : Pm) (l : Nat) (T S : SS) (i a k : Nat) : Prop := bt (dN S l 18 12) i = false ∨ ∃ m, m < P.nn ∧ bt (dN T l 17 a) m = true ∧ ((∃ y ∈ S.2.2.1, y.1 0 = 6 ∧ y.1 1 = nI l ∧ y.1 2 = nI m ∧ y.1 5 = nI k) ∨ (∃ y ∈ S.2.2.1, y.1 0 = 7 ∧ y.1 2 = nI l ∧ y.1 5 = nI k) ∨ (∃ y ∈ S.2.2.1, y.1 0 = 8 ∧ y.1 1 = nI m ∧ y.1 2 = nI l ∧ y.1 5 = nI k) ∨ (bt (dN S l 17 a) m = false ∧ ¬ stb (dN T m) (nI k)))
def FTv (P : Pm) (l ep : Nat) (fb : Bool) (T S : SS) : Prop :=
  FRf (dN T l) (dN S l) ∧
  (∀ n, n < P.nn → dN S n 5 = dN T n 5 ∧ dN S n 6 = dN T n 6) ∧
  (∀ y ∈ S.2.2.1, ¬ y.1 0 = 9 ∧ ¬ y.1 0 = 10 ∧ ¬ y.1 0 = 12) ∧
  (∀ y n k, y ∈ S.2.2.1 → (y.1 0 = 5 ∨ y.1 0 = 11) → n < P.nn → y.1 1 = nI n → k < 5243392 → hvT y (nI k) → stb (dN T n) (nI k)) ∧
  (∀ y ∈ S.2.2.1, y.1 0 = 8 → ∃ k, k < 5243392 ∧ y.1 5 = nI k ∧ ∀ n, n < P.nn → y.1 1 = nI n → ¬ stb (dN T n) (nI k)) ∧
  (∀ n k a, n < P.nn → k < 5243392 → a < 961 → fndI (dN T l 15) (dN T l 16) (nI k) = nI a → stb (dN T n) (nI k) → FBo l ep S n k a) ∧
  (∀ a m k, a < 961 → m < P.nn → k < 5243392 → fndI (dN T l 15) (dN T l 16) (nI k) = nI a → bt (dN S l 17 a) m = true → bt (dN T l 17 a) m = true ∨ stb (dN T m) (nI k)) ∧
  (fb = true → ∀ i a k, i < 6 → a < 960 → ¬ a % 20 = 19 → k < 5243392 → ndB (dN T l 18) i = nI a → fndI (dN T l 15) (dN T l 16) (nI k) = nI a → OBf P l T S i a k)
def FTx (P : Pm) (l h0 c0 : Nat) (fb : Bool) (T : SS) (g : Gh) (S : SS) : Prop :=
  pgT g (dN T l) (kN T l) (dN S l) (kN S l) ∨ dnO P h0 S ∨ (smT (dN T l) (kN T l) (dN S l) (kN S l) ∧ heN S = h0 ∧ (pcd (dN S l) h0 < c0 ∨ FTv P l g.ep fb T S))
theorem pc_eq2 {s' : Int32} (h' : s' = 0 ∨ s' = 1 ∨ s' = 2 ∨ s' = 3 ∨ s' = 4) : (pcA s' = pcA 2 → s' = 2) ∧ (pcB s' = pcB 2 → s' = 2) := by
  rcases h' with h' | h' | h' | h' | h' <;> subst h' <;> decide
theorem stb_cg {D D' : Nat → Nat → Int32} {t : Int32} (e5 : D' 5 = D 5) (e6 : D' 6 = D 6) : stb D' t ↔ stb D t := by
  unfold stb
  rw [e5, e6]
/-- the calm leader hears and goes on, with what F_67 says -/
theorem LDr.g2 {P : Pm} {g : Gh} {l : Nat} {u b : Nat → Int32} {D D' : Nat → Nat → Int32} {K A K' A' : Int64} {Y Z : List Mg} (hG : GO g) (hb12 : g.bg ≤ g.sn + 12) (hgg : 0 < P.gg) (hnn : P.nn ≤ 6) (hL : LO P g g.ep D K) (hm : MO P g g.ep (u, b)) (hs : MS P g (u, b)) (hkn : ¬ knA K (D 10 9) = 0) (h7 : u 0 = 7 → ∀ k, k < 5243392 → u 5 = nI k → ¬ nwO (D 16 960) (nI k)) (h5 : u 0 = 5 → ∀ k, k < 5243392 → hvT (u, b) (nI k) → ¬ nwO (D 16 960) (nI k)) (h : LDr P g l u b D K A D' K' A' Y Z) :
    ∃ (D1 : Nat → Nat → Int32) (Z1 Z6 : List Mg), (∀ Y, F_67 P.nn P.gg P.C (nI l) P.f u b D K A Y = (D1, K, A', psl Y Z1)) ∧ (∃ Z0, HX P g (nI l) u b D K A D1 K A' Z0) ∧ (∀ q, 7 < q → q < 17 → q ≠ 9 → D1 q = D q) ∧ ((D1 18 3 = D 18 3 ∧ D1 18 4 = D 18 4) ∨ (u 0 = 2 ∧ D 18 3 ≤ 1 ∧ D1 18 3 = 1 ∧ D1 18 4 = u 5)) ∧ (Z6 = [] ∨ (u 0 = 5 ∧ D 18 3 ≤ 1 ∧ ∃ z, Z6 = [z] ∧ z.1 0 = 12)) ∧ (¬ u 0 = 2 → ¬ u 0 = 7 → ∀ q, 17 < q → D1 q = D q) ∧ LO P g g.ep D1 K ∧ F_91 P.nn P.gg P.C (nI l) P.f u b D1 K A' (psl Y Z6) = (D', K', A', psl Y Z) ∧ LO P g g.ep D' K' := by
  obtain ⟨_, D1, K1, Z1, Z2, Z0, e1, e2, e3, e4, e5, e6, e7, _, _, e9, _, e11⟩ := h.m hG hb12 hgg hnn hL hm hs
  obtain ⟨a1, a2, a3, ⟨Z6, a4, a5⟩, a6⟩ := e3.g hgg hL hkn hs h7 h5
  subst a1
  have eZ : psl Y Z1 = psl Y Z6 := by rw [e2 Y, a4 Y]
  refine ⟨D1, Z1, Z6, e11, ⟨Z0, e3⟩, a2, a3, a5, a6, e4, ?_, e6⟩
  rw [← eZ, e1, psl_app]; exact e5
theorem FTx.st {P : Pm} {g g' : Gh} {l h0 c0 : Nat} {fb : Bool} {x : Mg} {Z : List Mg} {T S S' : SS} (hP : PmO P) (hl : l < P.nn) (hsT : dN T l 18 3 = 2) (hc0 : pcd (dN T l) h0 = c0) (h : RG P g l S) (hst : St1 P g l x Z S S') (hgs : Gs g g') (h' : RG P g' l S') (hq : GQ P l S) (ha : AKs h0 S) (hi : FTx P l h0 c0 fb T g S) : FTx P l h0 c0 fb T g' S' := by
  have hnn := hP.nn
  have lm := hst.lm hP hl h
  rcases hi with hi | hi | ⟨i1, i2, i3⟩
  · left
    apply pgT.gs hgs
    rcases lm with lm | lm
    · exact hi.sm (Or.inl lm)
    · exact hi.tr lm
  · exact Or.inr (Or.inl (hi.st hP hl h hst h' ha.1))
  rcases lm with lm | lm
  case inr => exact Or.inl ((i1.pg lm).gs hgs)
  obtain ⟨a1, a2, a3, a4, _⟩ := hst.he hP hl h h'
  rcases Nat.lt_or_ge h0 (heN S') with hh | hh
  · exact Or.inr (Or.inl (Or.inl hh))
  have hpc : dnO P h0 S' ∨ pcd (dN S' l) h0 ≤ pcd (dN S l) h0 := by
    rcases hst.cs hnn hl with ⟨_, e, _⟩ | ⟨j, _, _, _, _, _, _, _, _, e3, _⟩ | ⟨_, _, _, _, _, e⟩ | ⟨_, _, _, _, _, e, _⟩
    · right
      unfold pcd
      show (if S'.2.2.2.1 l 18 4 = nI h0 then pcA (S'.2.2.2.1 l 18 3) else pcB (S'.2.2.2.1 l 18 3)) ≤ _
      rw [e]; exact Nat.le_refl _
    · right
      unfold pcd
      rw [e3 l 18 (by omega)]; exact Nat.le_refl _
    · exact e.pc hP hl h hst hq ha i2
    · right
      unfold pcd
      show (if S'.2.2.2.1 l 18 4 = nI h0 then pcA (S'.2.2.2.1 l 18 3) else pcB (S'.2.2.2.1 l 18 3)) ≤ _
      rw [e]; exact Nat.le_refl _
  rcases hpc with hpc | hpc
  · exact Or.inr (Or.inl hpc)
  refine Or.inr (Or.inr ⟨i1.tr lm, by omega, ?_⟩)
  rcases i3 with i3 | hv
  · exact Or.inl (by omega)
  obtain ⟨v1, v2, v3, v4, v5, v6, v7, v8⟩ := hv
  have hpcS : pcd (dN S l) h0 = c0 := by
    rw [← hc0]
    unfold pcd
    rw [v1.2.1 3 (by decide), v1.2.1 4 (by decide)]
  rcases Nat.lt_or_ge (pcd (dN S' l) h0) c0 with hlt | hge
  · exact Or.inl hlt
  right
  have hpe : pcd (dN S' l) h0 = pcd (dN S l) h0 := by omega
  have hep : g'.ep = g.ep := hgs.ep
  rw [hep]
  have hlt128 := hst.lt h.2.1
  have hL := h.lo hl
  have hG := h.1.1.go
  have hx := v3 x hst.head
  have hsS : dN S l 18 3 = 2 := (v1.2.1 3 (by decide)).trans hsT
  have hstS : ∀ n, n < P.nn → ∀ t, stb (dN S n) t ↔ stb (dN T n) t := fun n hn t => stb_cg (v2 n hn).1 (v2 n hn).2
  -- DISKS
  have hdisk : ∀ n, n < P.nn → dN S' n 5 = dN T n 5 ∧ dN S' n 6 = dN T n 6 := fun n hn => by
    rcases hst.cs hnn hl with ⟨_, e, _⟩ | ⟨j, j1, j2, j3, _, _, e1, _, _, _, hr, hF⟩ | ⟨_, _, _, _, e1, e⟩ | ⟨_, _, _, _, _, e, _⟩
    · show S'.2.2.2.1 n 5 = _ ∧ S'.2.2.2.1 n 6 = _
      rw [e]; exact v2 n hn
    · by_cases c : n = j
      · subst c
        have e : dN S' n = dN S n := by
          rcases hr with ⟨_, e, _⟩ | ⟨_, e, _⟩ | ⟨_, e, _⟩ | ⟨_, e, _⟩ | ⟨c, _⟩ | ⟨c, _⟩
          · exact e
          · exact e
          · exact e
          · exact e
          · exact absurd c hx.2.1
          · exact absurd c hx.2.2
        rw [e]; exact v2 n hn
      · rw [e1 n c]; exact v2 n hn
    · by_cases c : n = l
      · subst c
        obtain ⟨_, _, _, _, _, _, _, _, _, _, _, _, _, q, _⟩ := e
        rw [q 5 (by decide), q 6 (by decide)]; exact v2 n hn
      · rw [(e1 n c).1]; exact v2 n hn
    · show S'.2.2.2.1 n 5 = _ ∧ S'.2.2.2.1 n 6 = _
      rw [e]; exact v2 n hn
  -- the leader, where it hears nothing
  have quietL : (∀ q, 6 < q → dN S' l q = dN S l q) → FRf (dN T l) (dN S' l) ∧ (∀ a m, bt (dN S' l 17 a) m = bt (dN S l 17 a) m) ∧ dN S' l 18 12 = dN S l 18 12 := fun e => ⟨⟨fun q hq => by rw [e q (by omega)]; exact v1.1 q hq, fun y hy => by rw [e 18 (by decide)]; exact v1.2.1 y hy, fun m hm hb => v1.2.2 m hm (by rw [← e 18 (by decide)]; exact hb)⟩, fun a m => by rw [e 17 (by decide)], by rw [e 18 (by decide)]⟩
  -- where it hears
  have hearL : x.1 2 = nI l → ¬ isN (x.1 0) → LDr P g l x.1 x.2 (dN S l) (kN S l) (aN S l) (dN S' l) (kN S' l) (aN S' l) (tkl S.2.2.1 0) Z → FRf (dN T l) (dN S' l) ∧ (∀ z, z ∈ psl (tkl S.2.2.1 0) Z → z ∈ S.2.2.1) ∧
      (∀ a m k, a < 961 → m < P.nn → k < 5243392 → fndI (dN T l 15) (dN T l 16) (nI k) = nI a → bt (dN S' l 17 a) m = true → bt (dN S l 17 a) m = true ∨ stb (dN T m) (nI k)) ∧
      (∀ a m k, a < 961 → m < P.nn → k < 5243392 → fndI (dN T l 15) (dN T l 16) (nI k) = nI a → stb (dN T m) (nI k) → bt (dN S l 17 a) m = true → bt (dN S' l 17 a) m = true) ∧
      (∀ n k a, n < P.nn → k < 5243392 → a < 961 → fndI (dN T l 15) (dN T l 16) (nI k) = nI a → ((x.1 0 = 5 ∧ x.1 1 = nI n ∧ hvT x (nI k)) ∨ isHW g.ep l n (nI k) x) → bt (dN S' l 17 a) n = true) ∧
      (∀ i, i < 32 → bt (dN S l 18 12) i = false → bt (dN S' l 18 12) i = false) ∧
      (∀ i a k, i < 6 → a < 960 → ¬ a % 20 = 19 → k < 5243392 → ndB (dN T l 18) i = nI a → fndI (dN T l 15) (dN T l 16) (nI k) = nI a → x.1 0 = 7 → x.1 5 = nI k → bt (dN S' l 18 12) i = false) ∧
      (∀ m a k, m < P.nn → a < 961 → k < 5243392 → fndI (dN T l 15) (dN T l 16) (nI k) = nI a → x.1 0 = 8 → x.1 1 = nI m → x.1 5 = nI k → bt (dN S' l 17 a) m = false) := fun c cN e => by
    have hS := h.1
    have hm := hst.2.2.1
    obtain ⟨D1, Z1, Z6, hF67, ⟨Z0, hX⟩, q16, hstp, hZ6, q18, hL1, hF, hL'⟩ := e.g2 hG (SU.b12 hS.1) hP.gg hnn hL hm hst.2.2.2.1 hq.1 (fun z k hk e => hq.2.2.1 x k hst.head (Or.inr z) hk e) (fun z k hk e => hq.2.2.2.1 x k hst.head z hk e)
    obtain ⟨t1, _⟩ := goon_t hG hP.gg hnn hL1 hF
    have h2S : 2 ≤ dN S l 18 3 := by rw [hsS]; decide
    have hnle : ¬ dN S l 18 3 ≤ 1 := fun z => absurd (Int32.le_trans h2S z) (by decide)
    rcases hstp with ⟨s1, s2⟩ | ⟨_, s0, _⟩
    case inr => exact absurd s0 hnle
    have hs' : dN S' l 18 3 = dN S l 18 3 := by
      have hq := pc_eq2 hL'.s5
      unfold pcd at hpe
      rw [t1, s2, hsS] at hpe
      rw [hsS]
      by_cases c : dN S l 18 4 = nI h0
      · rw [if_pos c, if_pos c] at hpe; exact hq.1 hpe
      · rw [if_neg c, if_neg c] at hpe; exact hq.2 hpe
    obtain ⟨g1, g2, g3⟩ := goon_s hG hP.gg hnn hL1 (by rw [s1]; exact h2S) hF (by rw [hs', s1])
    have hZ : Z6 = [] := by
      rcases hZ6 with q | ⟨_, q, _⟩
      · exact q
      · exact absurd q hnle
    have e15 : dN S l 15 = dN T l 15 := v1.1 15 (by decide)
    have e16 : dN S l 16 = dN T l 16 := v1.1 16 (by decide)
    -- bits
    have hb1 : ∀ a m k, a < 961 → m < P.nn → k < 5243392 → fndI (dN T l 15) (dN T l 16) (nI k) = nI a → bt (D1 17 a) m = true → bt (dN S l 17 a) m = true ∨ stb (dN T m) (nI k) := fun a m k ha hm' hk hf hb => by
      by_cases c5 : x.1 0 = 5 ∨ x.1 0 = 11
      · obtain ⟨n, n1, n2, n3⟩ := hear_b hP.gg hnn hL hm c5 hF67
        rcases n3 a m (by omega) hb with q | ⟨q, _, j, q1, q2⟩
        · exact Or.inl q
        · right
          subst q
          obtain ⟨n', w1, w2, w3⟩ := hm.ls c5
          obtain ⟨k', k1, k2, _⟩ := w3 j q1
          have k1 : x.2 j = nI k' := k1
          rw [k1, e15, e16] at q2
          have : k' = k := by
            rw [← e15, ← e16] at q2 hf
            exact hL.tgu hP.gg k2 hk ha q2 hf
          subst this
          exact v4 x m k' hst.head c5 n1 n2 hk ⟨j, q1, k1⟩
      · left
        rcases hX with ⟨_, _, _, _, w, _⟩ | ⟨w, _⟩ | ⟨c7, n, k0, _, _, k01, k02, w⟩ | ⟨c8, _, _, _, n, n1, _, _, _, _, _, w6, w7, w8, _⟩ | ⟨w, _⟩ | ⟨_, _, _, _, _, _, _, _, w⟩
        · rw [w 17 (by decide)] at hb; exact hb
        · exact absurd (Or.inl w) c5
        · rcases w with ⟨w, _⟩ | ⟨_, ⟨w, _⟩ | ⟨fx, _, _, _, w, _⟩ | ⟨a', _, _, _, _, _, _, w, _⟩⟩
          · rw [hrd_n (by decide)] at w
            exact absurd w (hq.2.2.1 x k0 hst.head (Or.inr c7) k01 k02)
          · rw [w, hrd_n (by decide)] at hb; exact hb
          · rw [hrd_n (by decide)] at w; exact absurd w hq.1
          · rw [w 17 (by decide) (by decide), hrd_n (by decide)] at hb; exact hb
        · obtain ⟨k0, k01, k02, _⟩ := v5 x hst.head c8
          by_cases cm : m = n
          · by_cases cf : fndI (dN S l 15) (dN S l 16) (x.1 5) = nI a
            · rw [cm, w7 a cf ha] at hb; cases hb
            · rw [w8 a cf ha (by rw [k02]; exact (hL.fdO hP.gg k01).1)] at hb; exact hb
          · rw [w6 a m (by omega) cm] at hb; exact hb
        · exact absurd (Or.inr w) c5
        · rw [w, hrd_n (by decide)] at hb; exact hb
    have hb2 : ∀ a m k, a < 961 → m < P.nn → k < 5243392 → fndI (dN T l 15) (dN T l 16) (nI k) = nI a → stb (dN T m) (nI k) → bt (dN S l 17 a) m = true → bt (D1 17 a) m = true := fun a m k ha hm' hk hf hsb hb => by
      rcases hX with ⟨_, _, _, _, w, _⟩ | ⟨_, _, n, cnt, s2, s3, _, _, _, _, _, _, w, _⟩ | ⟨c7, n, k0, _, _, k01, k02, w⟩ | ⟨c8, _, _, _, n, n1, n2, _, _, _, _, w6, w7, w8, _⟩ | ⟨_, _, _, _, n, _, _, _, _, _, _, w, _⟩ | ⟨_, _, _, _, _, _, _, _, w⟩
      · rw [w 17 (by decide)]; exact hb
      · exact w.2.2.2.2.2.2.1 a m (by omega) (by rw [hrd_n (by decide)]; exact hb)
      · rcases w with ⟨w, _⟩ | ⟨_, ⟨w, _⟩ | ⟨fx, _, _, _, w, _⟩ | ⟨a', _, _, _, _, _, _, w, _⟩⟩
        · rw [hrd_n (by decide)] at w
          exact absurd w (hq.2.2.1 x k0 hst.head (Or.inr c7) k01 k02)
        · rw [w, hrd_n (by decide)]; exact hb
        · rw [hrd_n (by decide)] at w; exact absurd w hq.1
        · rw [w 17 (by decide) (by decide), hrd_n (by decide)]; exact hb
      · obtain ⟨k0, k01, k02, k03⟩ := v5 x hst.head c8
        by_cases cm : m = n
        · by_cases cf : fndI (dN S l 15) (dN S l 16) (x.1 5) = nI a
          · exfalso
            rw [k02, e15, e16] at cf
            have : k0 = k := by
              rw [← e15, ← e16] at cf hf
              exact hL.tgu hP.gg k01 hk ha cf hf
            subst this
            exact k03 m hm' (by rw [cm]; exact n2) hsb
          · rw [w8 a cf ha (by rw [k02]; exact (hL.fdO hP.gg k01).1)]; exact hb
        · rw [w6 a m (by omega) cm]; exact hb
      · exact w a m (by omega) hb
      · rw [w, hrd_n (by decide)]; exact hb
    have h18y : ∀ y, y ≠ 12 → D1 18 y = dN S l 18 y := fun y hy => by
      rcases hX with ⟨_, _, _, _, _, w⟩ | ⟨_, _, n, cnt, s2, s3, _, _, _, _, _, _, w, _⟩ | ⟨c7, n, k0, _, _, k01, k02, w⟩ | ⟨_, _, _, _, n, _, _, w, _⟩ | ⟨_, _, _, _, n, _, _, w, _⟩ | ⟨_, _, _, _, _, _, _, _, w⟩
      · rcases w with ⟨w, _⟩ | ⟨w, _⟩
        · rw [w]
        · exact absurd w hnle
      · rw [w.1 18 (by decide) (by decide) (by decide), hrd_n (by decide)]
      · rcases w with ⟨w, _⟩ | ⟨_, ⟨w, _⟩ | ⟨fx, _, _, _, w, _⟩ | ⟨a', _, _, _, _, _, _, _, w, _⟩⟩
        · rw [hrd_n (by decide)] at w
          exact absurd w (hq.2.2.1 x k0 hst.head (Or.inr c7) k01 k02)
        · rw [w, hrd_n (by decide)]
        · rw [hrd_n (by decide)] at w; exact absurd w hq.1
        · rw [w y hy, hrd_n (by decide)]
      · rw [w 18 (by decide) (by decide)]
      · rw [w 18 (by decide) (by decide)]
      · rw [w, hrd_n (by decide)]
    have h1812 : ∀ m, m < 32 → bt (D1 18 12) m = true → bt (dN S l 18 12) m = true := fun m hm' hb => by
      rcases hX with ⟨_, _, _, _, _, w⟩ | ⟨_, _, n, cnt, s2, s3, _, _, _, _, _, _, w, _⟩ | ⟨c7, n, k0, _, _, k01, k02, w⟩ | ⟨_, _, _, _, n, _, _, w, _⟩ | ⟨_, _, _, _, n, _, _, w, _⟩ | ⟨_, _, _, _, _, _, _, _, w⟩
      · rcases w with ⟨w, _⟩ | ⟨w, _⟩
        · rw [w] at hb; exact hb
        · exact absurd w hnle
      · rw [w.1 18 (by decide) (by decide) (by decide), hrd_n (by decide)] at hb; exact hb
      · rcases w with ⟨w, _⟩ | ⟨_, ⟨w, _⟩ | ⟨fx, _, _, _, w, _⟩ | ⟨a', _, _, _, _, _, _, _, _, w⟩⟩
        · rw [hrd_n (by decide)] at w
          exact absurd w (hq.2.2.1 x k0 hst.head (Or.inr c7) k01 k02)
        · rw [w, hrd_n (by decide)] at hb; exact hb
        · rw [hrd_n (by decide)] at w; exact absurd w hq.1
        · rw [w m hm', hrd_n (by decide)] at hb
          simp only [Bool.and_eq_true] at hb
          exact hb.1
      · rw [w 18 (by decide) (by decide)] at hb; exact hb
      · rw [w 18 (by decide) (by decide)] at hb; exact hb
      · rw [w, hrd_n (by decide)] at hb; exact hb
    rw [g1]
    refine ⟨⟨fun q hq => ?_, fun y hy => by rw [h18y y hy]; exact v1.2.1 y hy, fun m hm' hb => v1.2.2 m hm' (h1812 m hm' hb)⟩, fun z hz => ?_, hb1, hb2, fun n k a hn hk ha hf hw => ?_, fun i hi hb => ?_, fun i a k hi ha ha19 hk hnd hf c7 c5 => ?_, fun m a k hm' ha hk hf c8 c1 c5 => ?_⟩
    · rcases hq with hq | hq | hq | hq
      · rw [hq, q16 8 (by decide) (by decide) (by decide)]; exact v1.1 8 (by decide)
      · rw [hq, q16 11 (by decide) (by decide) (by decide)]; exact v1.1 11 (by decide)
      · rw [hq, q16 15 (by decide) (by decide) (by decide)]; exact v1.1 15 (by decide)
      · rw [hq, q16 16 (by decide) (by decide) (by decide)]; exact v1.1 16 (by decide)
    · rw [g3, hZ] at hz
      exact (tkl_perm hst.1).mem_iff.mp (List.mem_cons_of_mem _ hz)
    · rw [← e15, ← e16] at hf
      rcases hw with ⟨c5, c1, j, j1, j2⟩ | hw
      · rcases hX with ⟨w, _⟩ | ⟨_, _, n', cnt, s2, s3, n1', n2', n3', n4', _, _, w, _⟩ | ⟨w, _⟩ | ⟨w, _⟩ | ⟨w, _⟩ | ⟨_, w, _⟩
        · rw [c5] at w; exact absurd w (by decide)
        · have : n' = n := nI_inj (by omega) (by omega) (n2'.symm.trans c1)
          subst this
          refine w.2.2.2.2.2.2.2.1 j a (Nat.zero_le _) ?_ ha (by rw [hrd_n (by decide), hrd_n (by decide), j2]; exact hf)
          rw [n3', nI_clamp (by omega)] at j1
          omega
        · rw [c5] at w; exact absurd w (by decide)
        · rw [c5] at w; exact absurd w (by decide)
        · rw [c5] at w; exact absurd w (by decide)
        · exact absurd c5 w
      · obtain ⟨c11, c1, _, _, j, j1, j2⟩ := hw
        rcases hX with ⟨w, _⟩ | ⟨w, _⟩ | ⟨w, _⟩ | ⟨w, _⟩ | ⟨_, _, _, _, n', n1', n2', _, _, _, _, _, w⟩ | ⟨_, _, _, _, w, _⟩
        · rw [c11] at w; exact absurd w (by decide)
        · rw [c11] at w; exact absurd w (by decide)
        · rw [c11] at w; exact absurd w (by decide)
        · rw [c11] at w; exact absurd w (by decide)
        · have : n' = n := nI_inj (by omega) (by omega) (n2'.symm.trans c1)
          subst this
          exact w j a j1 ha (by rw [j2]; exact hf)
        · exact absurd c11 w
    · cases q : bt (D1 18 12) i with
      | false => rfl
      | true => rw [h1812 i hi q] at hb; cases hb
    · rcases hX with ⟨w, _⟩ | ⟨w, _⟩ | ⟨_, n, k0, _, _, k01, k02, w⟩ | ⟨w, _⟩ | ⟨w, _⟩ | ⟨_, _, w, _⟩
      · rw [c7] at w; exact absurd w (by decide)
      · rw [c7] at w; exact absurd w (by decide)
      · have : k0 = k := nI_inj (by omega) (by omega) (k02.symm.trans c5)
        subst this
        rw [← e15, ← e16] at hf
        rcases w with ⟨w, _⟩ | ⟨_, ⟨_, _, _, _, _, w⟩ | ⟨fx, _, _, _, w, _⟩ | ⟨a', a1', a2', a3', _, _, _, _, _, w⟩⟩
        · rw [hrd_n (by decide)] at w
          exact absurd w (hq.2.2.1 x k0 hst.head (Or.inr c7) k01 k02)
        · rw [hrd_n (by decide), hrd_n (by decide)] at w
          exact absurd hf (w a ha ha19)
        · rw [hrd_n (by decide)] at w; exact absurd w hq.1
        · rw [hrd_n (by decide), hrd_n (by decide)] at a3'
          have : a' = a := nI_inj (by omega) (by omega) (a3'.symm.trans hf)
          subst this
          rw [w i (by omega), hrd_n (by decide)]
          cases qb : bt (dN S l 18 12) i with
          | false => rfl
          | true =>
            have hnS : ndB (dN S l 18) i = nI a' := by
              rw [← hnd]
              have hbT := v1.2.2 i (by omega) qb
              unfold ndB
              rw [v1.2.1 11 (by decide), v1.2.1 7 (by decide), v1.2.1 10 (by decide)]
              have c1 : ¬ ((dN S l 18 12) >>> (nI i &&& 31)) &&& 1 = 0 := fun z => by
                rw [(bitz _ (by omega)).mp z] at qb; cases qb
              have c2 : ¬ ((dN T l 18 12) >>> (nI i &&& 31)) &&& 1 = 0 := fun z => by
                rw [(bitz _ (by omega)).mp z] at hbT; cases hbT
              simp only [c1, c2]
            rw [decide_eq_true ⟨hsS, hnS⟩]; rfl
      · rw [c7] at w; exact absurd w (by decide)
      · rw [c7] at w; exact absurd w (by decide)
      · exact absurd c7 w
    · rcases hX with ⟨w, _⟩ | ⟨w, _⟩ | ⟨w, _⟩ | ⟨_, _, _, _, n, n1, n2, _, _, _, _, w6, w7, w8, _⟩ | ⟨w, _⟩ | ⟨_, _, _, w, _⟩
      · rw [c8] at w; exact absurd w (by decide)
      · rw [c8] at w; exact absurd w (by decide)
      · rw [c8] at w; exact absurd w (by decide)
      · have : n = m := nI_inj (by omega) (by omega) (n2.symm.trans c1)
        subst this
        exact w7 a (by rw [c5, e15, e16]; exact hf) ha
      · rw [c8] at w; exact absurd w (by decide)
      · exact absurd c8 w
  have isNo : ∀ k : Int32, isN k → k = 5 ∨ k = 7 ∨ k = 8 ∨ k = 11 → False := fun k z w => by
    rcases w with w | w | w | w <;> rw [w] at z <;> rcases z with z | z | z | z | z | z <;> exact absurd z (by decide)
  -- all cases in one
  have big : FRf (dN T l) (dN S' l) ∧ (∀ y ∈ S'.2.2.1, (∃ y0 ∈ S.2.2.1, smM y y0) ∨ y.1 0 = 2 ∨ y.1 0 = 1 ∨ (∃ j, j < P.nn ∧ x.1 2 = nI j ∧ x.1 0 = 4 ∧ smM y (mLS j (dN S j) (x.1 1))) ∨ (∃ j, j < P.nn ∧ x.1 2 = nI j ∧ x.1 0 = 6 ∧ y.1 1 = nI j ∧ y.1 5 = x.1 5 ∧ (y.1 0 = 7 ∨ (¬ stb (dN S j) (x.1 5) ∧ y.1 0 = 8)))) ∧
      (∀ a m k, a < 961 → m < P.nn → k < 5243392 → fndI (dN T l 15) (dN T l 16) (nI k) = nI a → bt (dN S' l 17 a) m = true → bt (dN S l 17 a) m = true ∨ stb (dN T m) (nI k)) ∧
      (∀ a m k, a < 961 → m < P.nn → k < 5243392 → fndI (dN T l 15) (dN T l 16) (nI k) = nI a → stb (dN T m) (nI k) → bt (dN S l 17 a) m = true → bt (dN S' l 17 a) m = true) ∧
      (∀ n k a, n < P.nn → k < 5243392 → a < 961 → fndI (dN T l 15) (dN T l 16) (nI k) = nI a → ((x.1 0 = 5 ∧ x.1 1 = nI n ∧ x.1 2 = nI l ∧ hvT x (nI k)) ∨ isHW g.ep l n (nI k) x) → bt (dN S' l 17 a) n = true) ∧
      (∀ i, i < 32 → bt (dN S l 18 12) i = false → bt (dN S' l 18 12) i = false) ∧
      (∀ i a k, i < 6 → a < 960 → ¬ a % 20 = 19 → k < 5243392 → ndB (dN T l 18) i = nI a → fndI (dN T l 15) (dN T l 16) (nI k) = nI a → x.1 0 = 7 → x.1 2 = nI l → x.1 5 = nI k → bt (dN S' l 18 12) i = false) ∧
      (∀ m a k, m < P.nn → a < 961 → k < 5243392 → fndI (dN T l 15) (dN T l 16) (nI k) = nI a → x.1 0 = 8 → x.1 1 = nI m → x.1 2 = nI l → x.1 5 = nI k → bt (dN S' l 17 a) m = false) := by
    rcases hst.cs hnn hl with ⟨c, e, _⟩ | ⟨j, j1, j2, j3, _, _, e1, _, _, e3, hr, _⟩ | ⟨c, cN, _, _, _, e⟩ | ⟨c0, c1, c2, _, _, e, _⟩
    · obtain ⟨w1, w2, w3⟩ := quietL (fun q _ => by show S'.2.2.2.1 l q = _; rw [e])
      have nol : ¬ x.1 2 = nI l := fun z => by
        have := nI_inj (by omega) (by omega) (c.symm.trans z)
        omega
      refine ⟨w1, fun y hy => ?_, fun a m k _ _ _ _ hb => Or.inl (by rw [← w2]; exact hb), fun a m k _ _ _ _ _ hb => by rw [w2]; exact hb, fun n k a _ _ _ _ hw => ?_, fun i _ hb => by rw [w3]; exact hb, fun _ _ _ _ _ _ _ _ _ _ z _ => absurd z nol, fun _ _ _ _ _ _ _ _ _ z _ => absurd z nol⟩
      · rcases hst.src hP hl hy with q | ⟨_, q⟩ | ⟨j, z, j1, j2, _⟩ | ⟨q, _⟩
        · exact Or.inl q
        · exact Or.inr (Or.inl q)
        · have := nI_inj (by omega) (by omega) (c.symm.trans j2)
          omega
        · exact absurd q nol
      · rcases hw with ⟨_, _, z, _⟩ | z
        · exact absurd z nol
        · exact absurd z.2.2.1 nol
    · obtain ⟨w1, w2, w3⟩ := quietL (fun q hq => e3 l q (by omega))
      have no : ∀ k : Int32, x.1 0 = k → k = 5 ∨ k = 7 ∨ k = 8 ∨ k = 11 → False := fun k z w => isNo k (by rw [← z]; exact j3) w
      refine ⟨w1, fun y hy => ?_, fun a m k _ _ _ _ hb => Or.inl (by rw [← w2]; exact hb), fun a m k _ _ _ _ _ hb => by rw [w2]; exact hb, fun n k a _ _ _ _ hw => ?_, fun i _ hb => by rw [w3]; exact hb, fun _ _ _ _ _ _ _ _ _ z _ _ => absurd z (fun z => no 7 z (Or.inr (Or.inl rfl))), fun _ _ _ _ _ _ _ z _ _ _ => absurd z (fun z => no 8 z (Or.inr (Or.inr (Or.inl rfl))))⟩
      · rcases hst.src hP hl hy with q | ⟨_, q⟩ | ⟨j', z, j1', j2', _, hr', z1, z2⟩ | ⟨_, q, _⟩
        · exact Or.inl q
        · exact Or.inr (Or.inl q)
        · right; right
          rcases hr' with ⟨_, _, q⟩ | ⟨q4, _, q⟩ | ⟨q6, _, z', q, q1, _, _, q5, _, q7⟩ | ⟨q, _⟩ | ⟨q, _⟩ | ⟨q, _⟩
          · rw [q] at z1
            exact Or.inl (by rw [z2.1, List.mem_singleton.mp z1]; rfl)
          · rw [q] at z1
            exact Or.inr (Or.inl ⟨j', j1', j2', q4, by rw [← List.mem_singleton.mp z1]; exact z2⟩)
          · rw [q] at z1
            have z1 := List.mem_singleton.mp z1
            refine Or.inr (Or.inr ⟨j', j1', j2', q6, by rw [z2.1, z1]; exact q1, by rw [z2.1, z1]; exact q5, ?_⟩)
            rw [z2.1, z1]
            rcases q7 with ⟨_, q7⟩ | q7
            · exact Or.inl q7
            · exact Or.inr q7
          · exact absurd q hx.1
          · exact absurd q hx.2.1
          · exact absurd q hx.2.2
        · exact absurd j3 q
      · rcases hw with ⟨z, _⟩ | z
        · exact absurd z (fun z => no 5 z (Or.inl rfl))
        · exact absurd z.1 (fun z => no 11 z (Or.inr (Or.inr (Or.inr rfl))))
    · obtain ⟨w1, w2, w3, w4, w5, w6, w7, w8⟩ := hearL c cN e
      refine ⟨w1, fun y hy => ?_, w3, w4, fun n k a hn hk ha hf hw => w5 n k a hn hk ha hf ?_, w6, fun i a k h1 h2 h3 h4 h5 h6 h7 _ h8 => w7 i a k h1 h2 h3 h4 h5 h6 h7 h8, fun m a k h1 h2 h3 h4 h5 h6 _ h7 => w8 m a k h1 h2 h3 h4 h5 h6 h7⟩
      · rcases hst.in hy with q | ⟨z, z0, _, z2⟩
        · exact Or.inl q
        · exact Or.inl ⟨z, w2 z z0, z2⟩
      · rcases hw with ⟨z1, z2, _, z4⟩ | z
        · exact Or.inl ⟨z1, z2, z4⟩
        · exact Or.inr z
    · obtain ⟨w1, w2, w3⟩ := quietL (fun q _ => by show S'.2.2.2.1 l q = _; rw [e])
      refine ⟨w1, fun y hy => ?_, fun a m k _ _ _ _ hb => Or.inl (by rw [← w2]; exact hb), fun a m k _ _ _ _ _ hb => by rw [w2]; exact hb, fun n k a _ _ _ _ hw => ?_, fun i _ hb => by rw [w3]; exact hb, fun _ _ _ _ _ _ _ _ _ _ z _ => absurd z c1, fun _ _ _ _ _ _ _ _ _ z _ => absurd z c1⟩
      · rcases hst.src hP hl hy with q | ⟨q, _⟩ | ⟨j, z, j1, j2, j3, _⟩ | ⟨q, _⟩
        · exact Or.inl q
        · exact absurd q c0
        · exact absurd j3 (c2 j j1 j2)
        · exact absurd q c1
      · rcases hw with ⟨_, _, z, _⟩ | z
        · exact absurd z c1
        · exact absurd z.2.2.1 c1
  obtain ⟨b1, b2, b3, b4, b5, b6, b7, b8⟩ := big
  -- what a NODE answers at once
  have first : ∀ z Z', Z = z :: Z' → ∃ y ∈ S'.2.2.1, smM y z := fun z Z' e => hst.new (by rw [e]; exact psl_new hlt128)
  have nodeR : ∀ m, m < P.nn → x.1 2 = nI m → isN (x.1 0) → NRl P m x.1 x.2 (dN S m) (dN S' m) Z := fun m hm c cN => by
    rcases hst.cs hnn hl with ⟨c', _⟩ | ⟨j, j1, j2, _, _, _, _, _, _, _, hr, _⟩ | ⟨_, c', _⟩ | ⟨_, _, c', _⟩
    · have := nI_inj (by omega) (by omega) (c'.symm.trans c)
      omega
    · have : j = m := nI_inj (by omega) (by omega) (j2.symm.trans c)
      rw [← this]; exact hr
    · exact absurd cN c'
    · exact absurd cN (c' m hm c)
  refine ⟨b1, hdisk, fun y hy => ?_, fun y n k hy hk5 hn h1 hk hv => ?_, fun y hy h8 => ?_, fun n k a hn hk ha hf hsb => ?_, fun a m k ha hm hk hf hb => ?_, fun hfb i a k hi ha ha19 hk hnd hf => ?_⟩
  · rcases b2 y hy with ⟨y0, q1, q2⟩ | q | q | ⟨j, _, _, _, q⟩ | ⟨j, _, _, _, _, _, q | ⟨_, q⟩⟩
    · rw [q2.1]; exact v3 y0 q1
    · rw [q]; decide
    · rw [q]; decide
    · rw [q.1]
      have : (mLS j (dN S j) (x.1 1)).1 0 = 5 := (mLS_v (to := x.1 1) (h.nu (by assumption))).1
      rw [this]; decide
    · rw [q]; decide
    · rw [q]; decide
  · rcases b2 y hy with ⟨y0, q1, q2⟩ | q | q | ⟨j, j1, _, _, q⟩ | ⟨j, _, _, _, _, _, q | ⟨_, q⟩⟩
    · exact v4 y0 n k q1 (by rw [← q2.1]; exact hk5) hn (by rw [← q2.1]; exact h1) hk (hvT_sy q2.sy (by rw [← q2.1]; rcases hk5 with w | w; exact Or.inl w; exact Or.inr (Or.inl w)) hv)
    · rw [q] at hk5; rcases hk5 with w | w <;> exact absurd w (by decide)
    · rw [q] at hk5; rcases hk5 with w | w <;> exact absurd w (by decide)
    · obtain ⟨u0, u1, u2, u3, u6, c', u7, u8, u9, u10, u11⟩ := mLS_v (to := x.1 1) (h.nu j1)
      have : j = n := nI_inj (by omega) (by omega) (by rw [← u1, ← q.1]; exact h1)
      subst this
      obtain ⟨i, i1', i2'⟩ := hvT_sy q.sy (by rw [u0]; exact Or.inl rfl) hv
      rw [u8, nI_clamp (by omega)] at i1'
      have := (u10 i i1').2
      rw [i2'] at this
      exact (hstS j hn _).mp this
    · rw [q] at hk5; rcases hk5 with w | w <;> exact absurd w (by decide)
    · rw [q] at hk5; rcases hk5 with w | w <;> exact absurd w (by decide)
  · rcases b2 y hy with ⟨y0, q1, q2⟩ | q | q | ⟨j, j1, _, _, q⟩ | ⟨j, j1, _, j3, j4, j5, q | ⟨q0, q⟩⟩
    · obtain ⟨k, k1, k2, k3⟩ := v5 y0 q1 (by rw [← q2.1]; exact h8)
      exact ⟨k, k1, by rw [q2.1]; exact k2, fun n hn h1 => k3 n hn (by rw [← q2.1]; exact h1)⟩
    · rw [q] at h8; exact absurd h8 (by decide)
    · rw [q] at h8; exact absurd h8 (by decide)
    · rw [q.1, (mLS_v (to := x.1 1) (h.nu j1)).1] at h8; exact absurd h8 (by decide)
    · rw [q] at h8; exact absurd h8 (by decide)
    · obtain ⟨k, k1, k2⟩ := hst.2.2.1.gt (Or.inl j3)
      refine ⟨k, k1, by rw [j5]; exact k2, fun n hn h1 => ?_⟩
      have : j = n := nI_inj (by omega) (by omega) (j4.symm.trans h1)
      subst this
      rw [k2] at q0
      exact fun z => q0 ((hstS j hn _).mpr z)
  · rcases v6 n k a hn hk ha hf hsb with q | ⟨y, y1, y2, y3, y4⟩ | ⟨y, y1, y2, y3, y4, y5⟩ | ⟨y, y1, y2⟩
    · exact Or.inl (b4 a n k ha hn hk hf hsb q)
    · rcases hst.old y1 with e | ⟨y', c1, c2⟩
      · subst e
        right; right; left
        rcases nodeR n hn y4 (by rw [y2]; exact Or.inr (Or.inl rfl)) with ⟨c, _⟩ | ⟨_, _, e⟩ | ⟨c, _⟩ | ⟨c, _⟩ | ⟨c, _⟩ | ⟨c, _⟩
        · rw [y2] at c; exact absurd c (by decide)
        · obtain ⟨w, w1, w2⟩ := first _ [] e
          obtain ⟨u0, u1, u2, u3, u6, c', u7, u8, u9, u10, u11⟩ := mLS_v (to := y.1 1) (h.nu hn)
          obtain ⟨i, i1', i2'⟩ := u11 (nI k) (nI_pos (by omega)) ((hstS n hn _).mpr hsb)
          have hw5 : w.1 0 = 5 := by rw [w2.1]; exact u0
          exact ⟨w, w1, hw5, by rw [w2.1]; exact u1, by rw [w2.1, u2]; exact y3, hvT_sy w2 (Or.inl hw5) ⟨i, by rw [u8, nI_clamp (by omega)]; exact i1', i2'⟩⟩
        · rw [y2] at c; exact absurd c (by decide)
        · rw [y2] at c; exact absurd c (by decide)
        · rw [y2] at c; exact absurd c (by decide)
        · rw [y2] at c; exact absurd c (by decide)
      · exact Or.inr (Or.inl ⟨y', c1, by rw [c2.1]; exact y2, by rw [c2.1]; exact y3, by rw [c2.1]; exact y4⟩)
    · rcases hst.old y1 with e | ⟨y', c1, c2⟩
      · subst e
        exact Or.inl (b5 n k a hn hk ha hf (Or.inl ⟨y2, y3, y4, y5⟩))
      · exact Or.inr (Or.inr (Or.inl ⟨y', c1, by rw [c2.1]; exact y2, by rw [c2.1]; exact y3, by rw [c2.1]; exact y4, hvT_sy c2 (by rw [c2.1]; exact Or.inl y2) y5⟩))
    · rcases hst.old y1 with e | ⟨y', c1, c2⟩
      · subst e
        exact Or.inl (b5 n k a hn hk ha hf (Or.inr y2))
      · exact Or.inr (Or.inr (Or.inr ⟨y', c1, y2.sm c2⟩))
  · rcases b3 a m k ha hm hk hf hb with q | q
    · exact v7 a m k ha hm hk hf q
    · exact Or.inr q
  · rcases v8 hfb i a k hi ha ha19 hk hnd hf with q | ⟨m, m1, m2, q⟩
    · exact Or.inl (b6 i (by omega) q)
    · rcases q with ⟨y, y1, y2, y3, y4, y5⟩ | ⟨y, y1, y2, y3, y4⟩ | ⟨y, y1, y2, y3, y4, y5⟩ | ⟨q1, q2⟩
      · rcases hst.old y1 with e | ⟨y', c1, c2⟩
        · subst e
          right
          refine ⟨m, m1, m2, ?_⟩
          rcases nodeR m m1 y4 (by rw [y2]; exact Or.inr (Or.inr (Or.inl rfl))) with ⟨c, _⟩ | ⟨c, _⟩ | ⟨_, _, z, e, q1, _, _, q5, q6, q7⟩ | ⟨c, _⟩ | ⟨c, _⟩ | ⟨c, _⟩
          · rw [y2] at c; exact absurd c (by decide)
          · rw [y2] at c; exact absurd c (by decide)
          · obtain ⟨w, w1, w2⟩ := first z [] e
            rcases q7 with ⟨_, q7⟩ | ⟨_, q7⟩
            · exact Or.inr (Or.inl ⟨w, w1, by rw [w2.1]; exact q7, by rw [w2.1, q6]; exact y3, by rw [w2.1, q5]; exact y5⟩)
            · exact Or.inr (Or.inr (Or.inl ⟨w, w1, by rw [w2.1]; exact q7, by rw [w2.1]; exact q1, by rw [w2.1, q6]; exact y3, by rw [w2.1, q5]; exact y5⟩))
          · rw [y2] at c; exact absurd c (by decide)
          · rw [y2] at c; exact absurd c (by decide)
          · rw [y2] at c; exact absurd c (by decide)
        · exact Or.inr ⟨m, m1, m2, Or.inl ⟨y', c1, by rw [c2.1]; exact y2, by rw [c2.1]; exact y3, by rw [c2.1]; exact y4, by rw [c2.1]; exact y5⟩⟩
      · rcases hst.old y1 with e | ⟨y', c1, c2⟩
        · subst e
          exact Or.inl (b7 i a k hi ha ha19 hk hnd hf y2 y3 y4)
        · exact Or.inr ⟨m, m1, m2, Or.inr (Or.inl ⟨y', c1, by rw [c2.1]; exact y2, by rw [c2.1]; exact y3, by rw [c2.1]; exact y4⟩)⟩
      · rcases hst.old y1 with e | ⟨y', c1, c2⟩
        · subst e
          right
          refine ⟨m, m1, m2, Or.inr (Or.inr (Or.inr ⟨b8 m a k m1 (by omega) hk hf y2 y3 y4 y5, ?_⟩))⟩
          obtain ⟨k', k1, k2, k3⟩ := v5 y hst.head y2
          have : k' = k := nI_inj (by omega) (by omega) (k2.symm.trans y5)
          subst this
          exact k3 m m1 y3
        · exact Or.inr ⟨m, m1, m2, Or.inr (Or.inr (Or.inl ⟨y', c1, by rw [c2.1]; exact y2, by rw [c2.1]; exact y3, by rw [c2.1]; exact y4, by rw [c2.1]; exact y5⟩))⟩
      · right
        refine ⟨m, m1, m2, Or.inr (Or.inr (Or.inr ⟨?_, q2⟩))⟩
        cases qb : bt (dN S' l 17 a) m with
        | false => rfl
        | true =>
          rcases b3 a m k (by omega) m1 hk hf qb with w | w
          · rw [q1] at w; cases w
          · exact absurd w q2

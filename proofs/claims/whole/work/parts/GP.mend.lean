/-! mending in a drain -/
def mkA (gg : Nat) (D : Nat → Nat → Int32) (a : Nat) : Int32 := D 8 (grp (D 11) gg a)
/-- a COPY that is not wanted where it is -/
def Jk (gg : Nat) (D : Nat → Nat → Int32) (n : Nat) (t : Int32) : Prop := ¬ t = -1 ∧ ∀ a, a < 961 → fndI (D 15) (D 16) t = nI a → bt (mkA gg D a) n = false
noncomputable def Xn (gg : Nat) (DT : Nat → Nat → Int32) (S : SS) (n : Nat) : Nat := Sm (fun s => ind (Jk gg DT n (dN S n 6 s))) 280
noncomputable def Yn (gg : Nat) (DT : Nat → Nat → Int32) (S : SS) (n : Nat) : Nat := Sm (fun s => ind (Jk gg DT n (dN S n 6 s) ∨ (dN S n 6 s = -1 ∧ ¬ dN S n 5 s = -1))) 280
theorem bit_st {P : Pm} {g : Gh} {l a k n : Nat} {S : SS} (hP : PmO P) (hl : l < P.nn) (hA : AV P g) (h : RG P g l S) (hq : QNs P l S) (hkn : ¬ knA (kN S l) (dN S l 10 9) = 0) (hs : dN S l 18 3 ≤ 2) (ha : a < 961) (hk : k < 5243392) (hf : fndI (dN S l 15) (dN S l 16) (nI k) = nI a) (hn : n < P.nn) (hm : bt (mkA P.gg (dN S l) a) n = true) (hb : bt (dN S l 17 a) n = true) : stb (dN S n) (nI k) := by
  have hL := h.lo hl
  have hG := h.1.1.go
  have hv : ¬ dN S l 16 a < 0 := by
    rcases hL.find hP.gg hk with ⟨z, _⟩ | ⟨a', b1, b2, _, b4, _⟩
    · rw [z] at hf; exact absurd hf.symm (nIneg (by omega))
    · have : a' = a := nI_inj (by omega) (by omega) (b2.symm.trans hf)
      rw [← this, b4]; exact nI_pos (by omega)
  obtain ⟨k', v, k1, v5, k2, k3, k4, k5, hev, hrt, hit, _⟩ := hL.it2 hG hP.gg hs hkn ha hv
  have : k' = k := hL.tgu hP.gg k1 hk ha k3 hf
  subst this
  have hrep := hL.hd a k' ha hv k2 hk n hn hb
  obtain ⟨R, rc, _, _, _, _, _, _, her⟩ := hA
  rcases (h.nu hn).rp g.ep k' hrep ⟨hk, her n⟩ with q | q | ⟨e', q1, q2, q3⟩
  · exact absurd q (quiet_nd hP ⟨R, rc, by assumption, by assumption, by assumption, by assumption, by assumption, by assumption, her⟩ h hq hk hev hrt hit)
  · exact q
  · exfalso
    have : e' = g.ep := by have := q3.1; omega
    subst this
    unfold mkA at hm
    rw [k5, q2] at hm
    cases hm
theorem mkA_ms {P : Pm} {g : Gh} {D : Nat → Nat → Int32} {K : Int64} {a k : Nat} (hgg : 0 < P.gg) (h : LO P g g.ep D K) (ha : a < 961) (hk : k < 5243392) (hf : fndI (D 15) (D 16) (nI k) = nI a) : mkA P.gg D a = msk P g g.ep k := by
  rcases h.find hgg hk with ⟨z, _⟩ | ⟨a', b1, b2, _, _, _, b6⟩
  · rw [z] at hf; exact absurd hf.symm (nIneg (by omega))
  · have : a' = a := nI_inj (by omega) (by omega) (b2.symm.trans hf)
    rw [← this]; exact b6
/-- nobody sends it, and nobody that is asked to has it -/
def NP (P : Pm) (k : Nat) (S : SS) : Prop := (∀ y ∈ S.2.2.1, y.1 0 = 10 → ¬ y.1 5 = nI k) ∧ ∀ y ∈ S.2.2.1, y.1 0 = 9 → y.1 5 = nI k → ∀ n, n < P.nn → y.1 2 = nI n → ¬ mem (dN S n) (nI k)
/-- NODE n has it, or all that should have it do -/
def SEo (P : Pm) (l a k n : Nat) (T S : SS) : Prop := stb (dN S n) (nI k) ∨ ∀ m, m < P.nn → bt (mkA P.gg (dN T l) a) m = true → stb (dN S m) (nI k)
def CDv (P : Pm) (l ep : Nat) (T S : SS) : Prop :=
  ((∀ q, q = 8 ∨ q = 10 ∨ q = 11 ∨ q = 15 ∨ q = 16 ∨ q = 18 → dN S l q = dN T l q) ∧ kN S l = kN T l) ∧
  (∀ y ∈ S.2.2.1, y.1 0 = 0 ∨ y.1 0 = 1 ∨ y.1 0 = 4 ∨ y.1 0 = 5 ∨ y.1 0 = 8 ∨ y.1 0 = 9 ∨ y.1 0 = 10 ∨ y.1 0 = 11 ∨ y.1 0 = 12) ∧
  (∀ y ∈ S.2.2.1, (y.1 0 = 9 ∨ y.1 0 = 10) → ∃ k a, k < 5243392 ∧ a < 961 ∧ y.1 5 = nI k ∧ fndI (dN T l 15) (dN T l 16) (nI k) = nI a) ∧
  (∀ n k, n < P.nn → k < 5243392 → pnd (dN S n) (nI k) → ∃ a, a < 961 ∧ fndI (dN T l 15) (dN T l 16) (nI k) = nI a ∧ bt (mkA P.gg (dN T l) a) n = true) ∧
  (∀ y ∈ S.2.2.1, y.1 0 = 12 → ∀ n k a, n < P.nn → y.1 2 = nI n → k < 5243392 → hvT y (nI k) → a < 961 → fndI (dN T l 15) (dN T l 16) (nI k) = nI a → bt (mkA P.gg (dN T l) a) n = false ∧ ∀ m, m < 32 → bt (mkA P.gg (dN T l) a) m = true → bt (dN S l 17 a) m = true) ∧
  (∀ y ∈ S.2.2.1, y.1 0 = 9 → ∃ n, n < P.nn ∧ y.1 2 = nI n ∧ ∀ k a, k < 5243392 → a < 961 → y.1 5 = nI k → fndI (dN T l 15) (dN T l 16) (nI k) = nI a → SEo P l a k n T S ∨ NP P k S) ∧
  (∀ y ∈ S.2.2.1, y.1 0 = 8 → ∃ k, k < 5243392 ∧ y.1 5 = nI k ∧ ∀ n a, n < P.nn → y.1 1 = nI n → a < 961 → fndI (dN T l 15) (dN T l 16) (nI k) = nI a → ¬ mem (dN S n) (nI k) ∧ (bt (mkA P.gg (dN T l) a) n = false ∨ NP P k S)) ∧
  (∀ a m, a < 961 → m < 32 → bt (mkA P.gg (dN T l) a) m = true → bt (dN T l 17 a) m = true → bt (dN S l 17 a) m = true) ∧
  (∀ n k a, n < P.nn → k < 5243392 → a < 961 → fndI (dN T l 15) (dN T l 16) (nI k) = nI a → stb (dN S n) (nI k) → FBo l ep S n k a) ∧
  (∀ n k a, n < P.nn → k < 5243392 → a < 961 → fndI (dN T l 15) (dN T l 16) (nI k) = nI a → bt (mkA P.gg (dN T l) a) n = true → (mem (dN T n) (nI k) → mem (dN S n) (nI k)) ∧ (stb (dN T n) (nI k) → stb (dN S n) (nI k))) ∧
  (∀ n, n < P.nn → Yn P.gg (dN T l) S n ≤ Xn P.gg (dN T l) T n ∧ Xn P.gg (dN T l) S n ≤ Xn P.gg (dN T l) T n)
/-- the ITEM that is sent: it comes to all its NODES -/
def CDo (P : Pm) (l a k : Nat) (T S : SS) : Prop := ∀ j, j < P.nn → bt (mkA P.gg (dN T l) a) j = true → bt (dN T l 17 a) j = false → (∃ y ∈ S.2.2.1, y.1 0 = 9 ∧ y.1 5 = nI k ∧ y.1 6 = nI j ∧ ∃ n, n < P.nn ∧ y.1 2 = nI n ∧ SEo P l a k n T S) ∨ PUm S j (nI k) ∨ mem (dN S j) (nI k) ∨ Xn P.gg (dN T l) S j + 14 ≤ Xn P.gg (dN T l) T j
/-- one hand-over: the leader's part -/
theorem CDv.ld {P : Pm} {g g' : Gh} {l : Nat} {x : Mg} {Z : List Mg} {T S S' : SS} (hP : PmO P) (hl : l < P.nn) (hA : AV P g) (hqn : QNs P l S) (hsT : dN T l 18 3 = 0) (h : RG P g l S) (hst : St1 P g l x Z S S') (h' : RG P g' l S') (hq : GQ P l S) (hv : CDv P l g.ep T S) :
    ((∀ q, q = 8 ∨ q = 10 ∨ q = 11 ∨ q = 15 ∨ q = 16 ∨ q = 18 → dN S' l q = dN T l q) ∧ kN S' l = kN T l) ∧
    (∀ a m, a < 961 → m < 32 → bt (mkA P.gg (dN T l) a) m = true → bt (dN S l 17 a) m = true → bt (dN S' l 17 a) m = true) ∧
    (∀ a m k, a < 961 → m < P.nn → k < 5243392 → fndI (dN T l 15) (dN T l 16) (nI k) = nI a → stb (dN S m) (nI k) → bt (dN S l 17 a) m = true → bt (dN S' l 17 a) m = true) ∧
    (∀ n k a, n < P.nn → k < 5243392 → a < 961 → fndI (dN T l 15) (dN T l 16) (nI k) = nI a → ((x.1 0 = 5 ∧ x.1 1 = nI n ∧ x.1 2 = nI l ∧ hvT x (nI k)) ∨ isHW g.ep l n (nI k) x) → bt (dN S' l 17 a) n = true) ∧
    (x.1 2 = nI l → ¬ isN (x.1 0) → ∀ z, z ∈ psl (tkl S.2.2.1 0) Z → z ∈ S.2.2.1 ∨ (z.1 0 = 12 ∧ ∀ n k a, n < P.nn → z.1 2 = nI n → k < 5243392 → hvT z (nI k) → a < 961 → fndI (dN T l 15) (dN T l 16) (nI k) = nI a → bt (mkA P.gg (dN T l) a) n = false ∧ ∀ m, m < 32 → bt (mkA P.gg (dN T l) a) m = true → bt (dN S' l 17 a) m = true)) := by
  have hnn := hP.nn
  obtain ⟨⟨d1, d1k⟩, d2, d3, d4, d5, d6, d7, d8, d9, d10, d11⟩ := hv
  have hx := d2 x hst.head
  have quiet : (∀ q, 6 < q → dN S' l q = dN S l q) → kN S' l = kN S l → ((∀ q, q = 8 ∨ q = 10 ∨ q = 11 ∨ q = 15 ∨ q = 16 ∨ q = 18 → dN S' l q = dN T l q) ∧ kN S' l = kN T l) ∧ (∀ a m, bt (dN S' l 17 a) m = bt (dN S l 17 a) m) := fun e eK => ⟨⟨fun q hq => by rw [e q (by omega)]; exact d1 q hq, by rw [eK]; exact d1k⟩, fun a m => by rw [e 17 (by decide)]⟩
  rcases hst.cs hnn hl with ⟨c, e, _⟩ | ⟨j, j1, j2, j3, _, _, e1, eK, _, e3, hr, _⟩ | ⟨c, cN, _, _, _, e⟩ | ⟨c0, c1, c2, _, _, e, _⟩
  · obtain ⟨w1, w2⟩ := quiet (fun q _ => by show S'.2.2.2.1 l q = _; rw [e]) (by show S'.2.2.2.2.1 l = _; rw [e])
    have nol : ¬ x.1 2 = nI l := fun z => by
      have := nI_inj (by omega) (by omega) (c.symm.trans z)
      omega
    refine ⟨w1, fun a m _ _ _ hb => by rw [w2]; exact hb, fun a m k _ _ _ _ _ hb => by rw [w2]; exact hb, fun n k a _ _ _ _ hw => ?_, fun z => absurd z nol⟩
    rcases hw with ⟨_, _, z, _⟩ | z
    · exact absurd z nol
    · exact absurd z.2.2.1 nol
  · obtain ⟨w1, w2⟩ := quiet (fun q hq => e3 l q (by omega)) (eK l)
    refine ⟨w1, fun a m _ _ _ hb => by rw [w2]; exact hb, fun a m k _ _ _ _ _ hb => by rw [w2]; exact hb, fun n k a _ _ _ _ hw => ?_, fun _ z => absurd j3 z⟩
    exfalso
    rcases hw with ⟨z, _⟩ | z
    · rw [z] at j3; rcases j3 with z | z | z | z | z | z <;> exact absurd z (by decide)
    · rw [z.1] at j3; rcases j3 with z | z | z | z | z | z <;> exact absurd z (by decide)
  · have hS := h.1
    have hG := hS.1.go
    have hL := h.lo hl
    have hm := hst.2.2.1
    have e15 : dN S l 15 = dN T l 15 := d1 15 (by decide)
    have e16 : dN S l 16 = dN T l 16 := d1 16 (by decide)
    have e8 : dN S l 8 = dN T l 8 := d1 8 (by decide)
    have e11 : dN S l 11 = dN T l 11 := d1 11 (by decide)
    have hs0 : dN S l 18 3 = 0 := by rw [d1 18 (by decide)]; exact hsT
    have hn2 : ¬ x.1 0 = 2 := fun z => by rcases hx with q | q | q | q | q | q | q | q | q <;> rw [z] at q <;> exact absurd q (by decide)
    have hn7 : ¬ x.1 0 = 7 := fun z => by rcases hx with q | q | q | q | q | q | q | q | q <;> rw [z] at q <;> exact absurd q (by decide)
    obtain ⟨D1, Z1, Z6, hF67, ⟨Z0, hX⟩, q16, hstp, hZ6, q18, hL1, hF, hL'⟩ := e.g2 hG (SU.b12 hS.1) hP.gg hnn hL hm hst.2.2.2.1 hq.1 (fun z k hk e => hq.2.2.1 x k hst.head (Or.inr z) hk e) (fun z k hk e => hq.2.2.2.1 x k hst.head z hk e)
    have h18 := q18 hn2 hn7
    have hs1 : D1 18 3 = 0 := by rw [h18 18 (by decide)]; exact hs0
    obtain ⟨D4, f1, _, _, _, _, f6⟩ := goon_gd (P := P) (me := nI l) (u := x.1) (b := x.2) (K := kN S l) (A := aN S' l) (GD.st hs1 (by decide) (by decide) (by decide) (by decide)) hL1.no5
    have hD4 := f6 (by rw [hs1]; decide)
    subst hD4
    rw [f1] at hF
    rw [Prod.mk.injEq, Prod.mk.injEq, Prod.mk.injEq] at hF
    obtain ⟨g1, g2, _, g4⟩ := hF
    have hb2 : ∀ a m, a < 961 → m < 32 → bt (mkA P.gg (dN T l) a) m = true → bt (dN S l 17 a) m = true → bt (D4 17 a) m = true := fun a m ha hm' hmk hb => by
      rcases hX with ⟨w, _⟩ | ⟨_, _, n, cnt, s2, s3, _, _, _, _, _, _, w, _⟩ | ⟨w, _⟩ | ⟨c8, _, _, _, n, n1, n2, _, _, _, _, w6, w7, w8, _⟩ | ⟨_, _, _, _, n, _, _, _, _, _, _, w, _⟩ | ⟨_, _, _, _, _, _, _, _, w⟩
      · exact absurd w hn2
      · exact w.2.2.2.2.2.2.1 a m hm' (by rw [hrd_n (by decide)]; exact hb)
      · exact absurd w hn7
      · obtain ⟨k0, k01, k02, k03⟩ := d7 x hst.head c8
        by_cases cm : m = n
        · by_cases cf : fndI (dN S l 15) (dN S l 16) (x.1 5) = nI a
          · exfalso
            rw [k02] at cf
            obtain ⟨sx, sx1, sx2, _⟩ := bit_st hP hl hA h hqn hq.1 (by rw [hs0]; decide) ha k01 cf n1 (by unfold mkA; rw [e8, e11, ← cm]; exact hmk) (by rw [← cm]; exact hb)
            rw [e15, e16] at cf
            exact (k03 n a n1 n2 ha cf).1 ⟨sx, sx1, sx2⟩
          · rw [w8 a cf ha (by rw [k02]; exact (hL.fdO hP.gg k01).1)]; exact hb
        · rw [w6 a m hm' cm]; exact hb
      · exact w a m hm' hb
      · rw [w, hrd_n (by decide)]; exact hb
    rw [← g1, ← g2]
    refine ⟨⟨fun q hq' => ?_, d1k⟩, hb2, fun a m k ha hm' hk hf hsb hb => ?_, fun n k a hn hk ha hf hw => ?_, fun _ _ z hz => ?_⟩
    · rcases hq' with hq' | hq' | hq' | hq' | hq' | hq'
      · rw [hq', q16 8 (by decide) (by decide) (by decide)]; exact e8
      · rw [hq', q16 10 (by decide) (by decide) (by decide)]; exact d1 10 (by decide)
      · rw [hq', q16 11 (by decide) (by decide) (by decide)]; exact e11
      · rw [hq', q16 15 (by decide) (by decide) (by decide)]; exact e15
      · rw [hq', q16 16 (by decide) (by decide) (by decide)]; exact e16
      · rw [hq', h18 18 (by decide)]; exact d1 18 (by decide)
    · rcases hX with ⟨w, _⟩ | ⟨_, _, n, cnt, s2, s3, _, _, _, _, _, _, w, _⟩ | ⟨w, _⟩ | ⟨c8, _, _, _, n, n1, n2, _, _, _, _, w6, w7, w8, _⟩ | ⟨_, _, _, _, n, _, _, _, _, _, _, w, _⟩ | ⟨_, _, _, _, _, _, _, _, w⟩
      · exact absurd w hn2
      · exact w.2.2.2.2.2.2.1 a m (by omega) (by rw [hrd_n (by decide)]; exact hb)
      · exact absurd w hn7
      · obtain ⟨k0, k01, k02, k03⟩ := d7 x hst.head c8
        by_cases cm : m = n
        · by_cases cf : fndI (dN S l 15) (dN S l 16) (x.1 5) = nI a
          · exfalso
            rw [k02, e15, e16] at cf
            have hkk : k0 = k := by
              have cf' := cf
              rw [← e15, ← e16] at cf' hf
              exact hL.tgu hP.gg k01 hk ha cf' hf
            subst hkk
            obtain ⟨s, s1, s2, _⟩ := hsb
            exact (k03 n a n1 n2 ha cf).1 ⟨s, s1, by rw [← cm]; exact s2⟩
          · rw [w8 a cf ha (by rw [k02]; exact (hL.fdO hP.gg k01).1)]; exact hb
        · rw [w6 a m (by omega) cm]; exact hb
      · exact w a m (by omega) hb
      · rw [w, hrd_n (by decide)]; exact hb
    · rw [← e15, ← e16] at hf
      rcases hw with ⟨c5, c1, _, j, j1, j2⟩ | hw
      · rcases hX with ⟨w, _⟩ | ⟨_, _, n', cnt, s2, s3, n1', n2', n3', n4', _, _, w, _⟩ | ⟨w, _⟩ | ⟨w, _⟩ | ⟨w, _⟩ | ⟨_, w, _⟩
        · rw [c5] at w; exact absurd w (by decide)
        · have : n' = n := nI_inj (by omega) (by omega) (n2'.symm.trans c1)
          subst this
          refine w.2.2.2.2.2.2.2.1 j a (Nat.zero_le _) ?_ ha (by rw [hrd_n (by decide), hrd_n (by decide), j2]; exact hf)
          rw [n3', nI_clamp (by omega)] at j1
          omega
        · rw [c5] at w; exact absurd w (by decide)
        · rw [c5] at w; exact absurd w (by decide)
        · rw [c5] at w; exact absurd w (by decide)
        · exact absurd c5 w
      · obtain ⟨c11, c1, _, _, j, j1, j2⟩ := hw
        rcases hX with ⟨w, _⟩ | ⟨w, _⟩ | ⟨w, _⟩ | ⟨w, _⟩ | ⟨_, _, _, _, n', n1', n2', _, _, _, _, _, w⟩ | ⟨_, _, _, _, w, _⟩
        · rw [c11] at w; exact absurd w (by decide)
        · rw [c11] at w; exact absurd w (by decide)
        · rw [c11] at w; exact absurd w (by decide)
        · rw [c11] at w; exact absurd w (by decide)
        · have : n' = n := nI_inj (by omega) (by omega) (n2'.symm.trans c1)
          subst this
          exact w j a j1 ha (by rw [j2]; exact hf)
        · exact absurd c11 w
    · rw [← g4] at hz
      rcases psl_in Z6 hz with q | q
      · exact Or.inl ((tkl_perm hst.1).mem_iff.mp (List.mem_cons_of_mem _ q))
      · right
        rcases hZ6 with w | ⟨_, _, z', w, w2⟩
        · rw [w] at q; cases q
        · rw [w] at q
          have hz12 : z.1 0 = 12 := by rw [List.mem_singleton.mp q]; exact w2
          refine ⟨hz12, fun n k a hn h2 hk hv' ha hf => ?_⟩
          rcases e.dr hG (SU.b12 hS.1) hP.gg hnn hL hm hst.2.2.2.1 (by rw [← g4]; exact hz) hz12 with r | ⟨n', r1, _, _, r4, _, _, _, r8⟩
          · have := d5 z ((tkl_perm hst.1).mem_iff.mp (List.mem_cons_of_mem _ r)) hz12 n k a hn h2 hk hv' ha hf
            exact ⟨this.1, fun m hm' hmk => hb2 a m ha hm' hmk (this.2 m hm' hmk)⟩
          · have : n' = n := nI_inj (by omega) (by omega) (r4.symm.trans h2)
            subst this
            obtain ⟨_, hj⟩ := r8 _ hv'
            rw [← e15, ← e16] at hf
            rcases hj with ⟨j1, _⟩ | ⟨a', a1, a2, a3, a4, a5⟩
            · rw [j1] at hf; exact absurd hf.symm (nIneg (by omega))
            · have : a' = a := nI_inj (by omega) (by omega) (a2.symm.trans hf)
              subst this
              unfold mkA
              rw [← e8, ← e11]
              refine ⟨a3, fun m hm' hmk => hb2 a' m a1 hm' (by unfold mkA; rw [← e8, ← e11]; exact hmk) (a5 m hm' hmk)⟩
  · obtain ⟨w1, w2⟩ := quiet (fun q _ => by show S'.2.2.2.1 l q = _; rw [e]) (by show S'.2.2.2.2.1 l = _; rw [e])
    refine ⟨w1, fun a m _ _ _ hb => by rw [w2]; exact hb, fun a m k _ _ _ _ _ hb => by rw [w2]; exact hb, fun n k a _ _ _ _ hw => ?_, fun z => absurd z c1⟩
    rcases hw with ⟨_, _, z, _⟩ | z
    · exact absurd z c1
    · exact absurd z.2.2.1 c1

/-! calm: no news are under way -/
theorem nwT_kn {P : Pm} {g : Gh} {e k : Nat} {D : Nat → Nat → Int32} {K : Int64} (hgg : 0 < P.gg) (hk : k < 5243392) (h : LO P g e D K) (hkn : ¬ knA K (D 10 9) = 0) (hn : nwT D K (nI k)) : nwO (D 16 960) (nI k) := by
  rcases hn with hn | ⟨a, a1, _, a3, a4⟩
  · exact hn
  · exact absurd (h.unk hgg hk a1 a3 a4) hkn
/-- what a calm leader hears -/
theorem HX.g {P : Pm} {g : Gh} {e : Nat} {me : Int32} {u b : Nat → Int32} {D D1 : Nat → Nat → Int32} {K A K1 A1 : Int64} {Z : List Mg} (hgg : 0 < P.gg) (hL : LO P g e D K) (hkn : ¬ knA K (D 10 9) = 0) (hs : MS P g (u, b)) (h7 : u 0 = 7 → ∀ k, k < 5243392 → u 5 = nI k → ¬ nwO (D 16 960) (nI k)) (h5 : u 0 = 5 → ∀ k, k < 5243392 → hvT (u, b) (nI k) → ¬ nwO (D 16 960) (nI k)) (h : HX P g me u b D K A D1 K1 A1 Z) :
    K1 = K ∧ (∀ q, 7 < q → q < 17 → q ≠ 9 → D1 q = D q) ∧ ((D1 18 3 = D 18 3 ∧ D1 18 4 = D 18 4) ∨ (u 0 = 2 ∧ D 18 3 ≤ 1 ∧ D1 18 3 = 1 ∧ D1 18 4 = u 5)) ∧ (∃ Z6, psE Z Z6 ∧ (Z6 = [] ∨ (u 0 = 5 ∧ D 18 3 ≤ 1 ∧ ∃ z, Z6 = [z] ∧ z.1 0 = 12))) ∧ (¬ u 0 = 2 → ¬ u 0 = 7 → ∀ q, 17 < q → D1 q = D q) := by
  have hr : ∀ q, q ≠ 7 → hrd u D q = D q := fun q hq => hrd_n hq
  rcases h with ⟨c, a1, _, a3, a4, a5⟩ | ⟨c, a1, n, cnt, s2, s3, n1, n2, n3, n4, s2e, s3e, a8, Z6, a9, a10⟩ | ⟨c, n, k, _, _, k1, k2, a5⟩ | ⟨c, a1, _, a3, n, _, _, a6, _⟩ | ⟨c, a1, _, a3, n, _, _, a6, _⟩ | ⟨c, c5, c7, _, _, a1, _, a3, a4⟩
  · refine ⟨a1, fun q _ hq _ => a4 q (by omega), ?_, ⟨Z, fun _ => rfl, Or.inl a3⟩, fun z => absurd c z⟩
    rcases a5 with ⟨q, _⟩ | ⟨q1, q2, q3⟩
    · rw [q]; exact Or.inl ⟨rfl, rfl⟩
    · exact Or.inr ⟨c, q1, q2, q3⟩
  · have e18 : D1 18 = D 18 := by rw [a8.1 18 (by decide) (by decide) (by decide), hr 18 (by decide)]
    refine ⟨a1, fun q q1 q2 q3 => by rw [a8.1 q (by omega) q3 (by omega), hr q (by omega)], Or.inl ⟨by rw [e18], by rw [e18]⟩, ⟨Z6, a9, ?_⟩, fun _ _ q hq => by rw [a8.1 q (by omega) (by omega) (by omega), hr q (by omega)]⟩
    obtain ⟨_, ⟨Zg, Zd, d', bf, g1, g2, g3, g4, g5, g6, g7, g8⟩, _⟩ := a10
    have hZg : Zg = [] := by
      cases Zg with
      | nil => rfl
      | cons z Zg' =>
        exfalso
        obtain ⟨j, _, j2, _, j4⟩ := g2 z List.mem_cons_self
        obtain ⟨cnt', k1, k2, k3, k4⟩ := hs.1 c
        have k2 : u 7 = nI cnt' := k2
        have : cnt' = cnt := nI_inj (by omega) (by omega) (k2.symm.trans n3)
        subst this
        obtain ⟨k, b1, b2, _⟩ := k4 j (by omega)
        have b2 : b j = nI k := b2
        rw [b2, nwT.hr] at j4
        refine h5 c k b1 ⟨j, ?_, b2⟩ (nwT_kn hgg b1 hL hkn j4)
        show j < (u 7).toNatClampNeg
        rw [n3, nI_clamp (by omega)]; omega
    rcases g5 with ⟨_, y⟩ | ⟨y1, y2⟩
    · left; rw [g1, hZg, y]; rfl
    · right
      obtain ⟨s3n, _⟩ := g7 0 (Nat.zero_le _) y1
      have hn0 : ¬ s2 = 0 := fun y => s3n (s3e.mpr (Or.inl y))
      refine ⟨c, ?_, mDR me u (hrd u D) d' bf, by rw [g1, hZg, y2]; rfl, ?_⟩
      · by_cases q : D 18 3 ≤ 1 ∧ ¬ knA K (D 10 9) = 0
        · exact q.1
        · exact absurd (s2e.mpr q) hn0
      · show va_up (mg 12 me (u 1) (hrd u D 7 7) (hrd u D 7 8)) 7 (nI d') 0 = 12
        rw [va_up_n _ _ (by decide)]; rfl
  · unfold IX at a5
    rw [hr 16 (by decide), hr 15 (by decide), hr 10 (by decide), hr 18 (by decide)] at a5
    rcases a5 with ⟨b1, _⟩ | ⟨_, ⟨b1, b2, _, b4, _⟩ | ⟨fx, _, _, _, b4, _⟩ | ⟨a, _, _, _, b4, _, b6, b7, b8, _⟩⟩
    · exact absurd b1 (h7 c k k1 k2)
    · refine ⟨b2, fun q q1 _ _ => by rw [b1, hr q (by omega)], Or.inl ⟨by rw [b1, hr 18 (by decide)], by rw [b1, hr 18 (by decide)]⟩, ⟨Z, fun _ => rfl, Or.inl b4⟩, fun _ z => absurd c z⟩
    · exact absurd b4 hkn
    · exact ⟨b4, fun q q1 q2 _ => by rw [b7 q (by omega) (by omega), hr q (by omega)], Or.inl ⟨b8 3 (by decide), b8 4 (by decide)⟩, ⟨Z, fun _ => rfl, Or.inl b6⟩, fun _ z => absurd c z⟩
  · exact ⟨a1, fun q q1 q2 _ => a6 q (by omega) (by omega), Or.inl ⟨by rw [a6 18 (by decide) (by decide)], by rw [a6 18 (by decide) (by decide)]⟩, ⟨Z, fun _ => rfl, Or.inl a3⟩, fun _ _ q hq => a6 q (by omega) (by omega)⟩
  · exact ⟨a1, fun q q1 q2 _ => a6 q (by omega) (by omega), Or.inl ⟨by rw [a6 18 (by decide) (by decide)], by rw [a6 18 (by decide) (by decide)]⟩, ⟨Z, fun _ => rfl, Or.inl a3⟩, fun _ _ q hq => a6 q (by omega) (by omega)⟩
  · exact ⟨a1, fun q q1 q2 _ => by rw [a4, hr q (by omega)], Or.inl ⟨by rw [a4, hr 18 (by decide)], by rw [a4, hr 18 (by decide)]⟩, ⟨Z, fun _ => rfl, Or.inl a3⟩, fun _ _ q hq => by rw [a4, hr q (by omega)]⟩
theorem mGE_v (nn : Nat) (me : Int32) (D : Nat → Nat → Int32) (a : Nat) : (mGE nn me D a).1 1 = me ∧ (mGE nn me D a).1 2 = nI (oneO ((D 17) a) nn nn ((D 7 13)).toNatClampNeg) ∧ (mGE nn me D a).1 5 = tgA (D 11) (D 16) a := by
  have w : ∀ x, x ≠ 5 → (mGE nn me D a).1 x = mg 6 me (nI (oneO ((D 17) a) nn nn ((D 7 13)).toNatClampNeg)) (D 7 7) (D 7 8) x := fun x hx => by
    unfold mGE
    exact va_up_n _ _ hx
  refine ⟨w 1 (by decide), w 2 (by decide), ?_⟩
  show va_up (mg 6 me (nI (oneO (D 17 a) nn nn (D 7 13).toNatClampNeg)) (D 7 7) (D 7 8)) 5 (tgA (D 11) (D 16) a) 5 = _
  exact va_up_s _ _ _
theorem FE.nd {ops : Nat → Mg} {G : (Nat → Int32) → Prop} {o : Nat} {D : Nat → Nat → Int32} {K : Int64} {i : Nat} (h : FE ops G o D K) (hi : i < 32) (hn : ¬ ndB (D 18) i < 0) : ∃ a, a < 961 ∧ ndB (D 18) i = nI a ∧ ¬ D 16 a < 0 ∧ a < 960 ∧ ¬ a % 20 = 19 ∧ bt (D 18 12) i = true := by
  obtain ⟨sp, c, a, s1, s2, s3, s4, s5, s6, _⟩ := h.sp
  by_cases q : nI i < D 18 11 ∧ ¬ (D 18 12 >>> (nI i &&& 31)) &&& 1 = 0
  · have hb : bt (D 18 12) i = true := by
      cases z : bt (D 18 12) i with
      | true => rfl
      | false => exact absurd ((bitz _ hi).mpr z) q.2
    obtain ⟨hic, fx, f1, f2, f3⟩ := s6 i hi hb
    have h0 : 0 < sp := by
      rcases Nat.eq_zero_or_pos sp with z | z
      · have := s4 z; omega
      · exact z
    obtain ⟨_, b2, b3, b4⟩ := s5 h0
    have hb18 : a / 448 + i ≤ 18 := by omega
    refine ⟨fx * 20 + a / 448 + i, by omega, ?_, f3, by omega, by omega, hb⟩
    unfold ndB
    rw [if_pos q, f2, b3, show (20 : Int32) = nI 20 from rfl, nI_mul, nI_add, nI_add]
  · unfold ndB at hn
    rw [if_neg q] at hn
    exact absurd (by decide) hn
/-- calm -/
def GQ (P : Pm) (l : Nat) (S : SS) : Prop :=
  (¬ knA (kN S l) (dN S l 10 9) = 0) ∧ PNs l S ∧
  (∀ x k, x ∈ S.2.2.1 → (x.1 0 = 6 ∨ x.1 0 = 7) → k < 5243392 → x.1 5 = nI k → ¬ nwO (dN S l 16 960) (nI k)) ∧
  (∀ x k, x ∈ S.2.2.1 → x.1 0 = 5 → k < 5243392 → hvT x (nI k) → ¬ nwO (dN S l 16 960) (nI k)) ∧
  (∀ x n k, x ∈ S.2.2.1 → x.1 0 = 4 → n < P.nn → x.1 2 = nI n → k < 5243392 → mem (dN S n) (nI k) → ¬ nwO (dN S l 16 960) (nI k))
theorem St1.mm {P : Pm} {g : Gh} {l n : Nat} {x : Mg} {Z : List Mg} {S S' : SS} {t : Int32} (hP : PmO P) (hl : l < P.nn) (hst : St1 P g l x Z S S') (ht : ¬ t < 0) (hp : mem (dN S' n) t) : mem (dN S n) t ∨ (x.1 0 = 10 ∧ x.1 2 = nI n ∧ x.1 5 = t) := by
  have same : dN S' n 6 = dN S n 6 → mem (dN S n) t := fun e6 => by
    obtain ⟨s, s1, s2⟩ := hp
    exact ⟨s, s1, by rw [← e6]; exact s2⟩
  have ms : stb (dN S n) t ∨ pnd (dN S n) t → mem (dN S n) t := fun z => by
    rcases z with ⟨s, s1, s2, _⟩ | ⟨s, s1, s2, _⟩
    · exact ⟨s, s1, s2⟩
    · exact ⟨s, s1, s2⟩
  have sp : stb (dN S' n) t ∨ pnd (dN S' n) t := by
    obtain ⟨s, s1, s2⟩ := hp
    by_cases c : dN S' n 5 s = -1
    · exact Or.inl ⟨s, s1, s2, c⟩
    · exact Or.inr ⟨s, s1, s2, c⟩
  rcases hst.cs hP.nn hl with ⟨_, e, _⟩ | ⟨j, j1, j2, j3, _, _, e1, _, _, _, hr, _⟩ | ⟨_, _, _, _, e1, e⟩ | ⟨_, _, _, _, _, e, _⟩
  · exact Or.inl (same (by show S'.2.2.2.1 n 6 = _; rw [e]))
  · by_cases c : n = j
    · subst c
      rcases hr with ⟨_, e, _⟩ | ⟨_, e, _⟩ | ⟨_, e, _⟩ | ⟨_, e, _⟩ | ⟨c10, _, q, _⟩ | ⟨_, _, q, _⟩
      · rw [e] at hp; exact Or.inl hp
      · rw [e] at hp; exact Or.inl hp
      · rw [e] at hp; exact Or.inl hp
      · rw [e] at hp; exact Or.inl hp
      · rcases sp with w | w
        · rcases q.2.2.1 t ht w with y | ⟨y, _⟩
          · exact Or.inl (ms (Or.inl y))
          · exact Or.inl (ms (Or.inr y))
        · rcases q.2.2.2 t ht w with y | y
          · exact Or.inl (ms (Or.inr y))
          · exact Or.inr ⟨c10, j2, y.symm⟩
      · rcases sp with w | w
        · rcases q.2.2.1 t ht w with y | ⟨y, _⟩
          · exact Or.inl (ms (Or.inl y))
          · exact Or.inl (ms (Or.inr y))
        · rcases q.2.2.2 t ht w with y | y
          · exact Or.inl (ms (Or.inr y))
          · rw [y] at ht; exact absurd (by decide) ht
    · rw [e1 n c] at hp; exact Or.inl hp
  · by_cases c : n = l
    · subst c
      obtain ⟨_, _, _, _, _, _, _, _, _, _, _, _, _, q, _⟩ := e
      exact Or.inl (same (q 6 (by decide)))
    · rw [(e1 n c).1] at hp; exact Or.inl hp
  · exact Or.inl (same (by show S'.2.2.2.1 n 6 = _; rw [e]))
/-- the calm leader hears and goes on -/
theorem LDr.g {P : Pm} {g : Gh} {l : Nat} {u b : Nat → Int32} {D D' : Nat → Nat → Int32} {K A K' A' : Int64} {Y Z : List Mg} (hG : GO g) (hb12 : g.bg ≤ g.sn + 12) (hgg : 0 < P.gg) (hnn : P.nn ≤ 6) (hL : LO P g g.ep D K) (hm : MO P g g.ep (u, b)) (hs : MS P g (u, b)) (hkn : ¬ knA K (D 10 9) = 0) (h7 : u 0 = 7 → ∀ k, k < 5243392 → u 5 = nI k → ¬ nwO (D 16 960) (nI k)) (h5 : u 0 = 5 → ∀ k, k < 5243392 → hvT (u, b) (nI k) → ¬ nwO (D 16 960) (nI k)) (h : LDr P g l u b D K A D' K' A' Y Z) :
    ∃ (D1 : Nat → Nat → Int32) (Z6 Zt Zp : List Mg), (∃ Z0, HX P g (nI l) u b D K A D1 K A' Z0) ∧ (∀ q, 7 < q → q < 17 → q ≠ 9 → D1 q = D q) ∧ ((D1 18 3 = D 18 3 ∧ D1 18 4 = D 18 4) ∨ (u 0 = 2 ∧ D 18 3 ≤ 1 ∧ D1 18 3 = 1 ∧ D1 18 4 = u 5)) ∧ (Z6 = [] ∨ (u 0 = 5 ∧ D 18 3 ≤ 1 ∧ ∃ z, Z6 = [z] ∧ z.1 0 = 12)) ∧ (¬ u 0 = 2 → ¬ u 0 = 7 → ∀ q, 17 < q → D1 q = D q) ∧
      LO P g g.ep D1 K ∧ F_91 P.nn P.gg P.C (nI l) P.f u b D1 K A' (psl Y Z6) = (D', K', A', psl Y Z) ∧ psl Y Z = psl (psl (psl Y Z6) Zt) Zp ∧ (∀ z ∈ Zt, z.1 0 = 3) ∧ ((D' 18 3 = D1 18 3 ∧ Zp = []) ∨ (¬ D' 18 3 = D1 18 3 ∧ PZ P.nn P.gg (nI l) D' Zp)) ∧ (¬ knA K' (D' 10 9) = 0) ∧ (smT D1 K D' K' ∨ Nn g (D' 16 960) < Nn g (D1 16 960)) ∧ LO P g g.ep D' K' := by
  obtain ⟨_, D1, K1, Z1, Z2, Z0, e1, e2, e3, e4, e5, e6, e7, _, _, e9, _⟩ := h.m hG hb12 hgg hnn hL hm hs
  obtain ⟨a1, a2, a3, ⟨Z6, a4, a5⟩, a6⟩ := e3.g hgg hL hkn hs h7 h5
  subst a1
  obtain ⟨Zt, Zp, w1, w2, w3⟩ := goon_p hG hgg hnn e4 e5
  have eZ : psl Y Z1 = psl Y Z6 := by rw [e2 Y, a4 Y]
  refine ⟨D1, Z6, Zt, Zp, ⟨Z0, e3⟩, a2, a3, a5, a6, e4, ?_, ?_, w2, w3, fun z => ?_, e9, e6⟩
  · rw [← eZ, e1, psl_app]; exact e5
  · rw [e1, psl_app, w1, eZ]
  · obtain ⟨b1, b2, _⟩ := e7.2.2.1 z
    rw [b1, b2, a2 10 (by decide) (by decide) (by decide)] at z
    exact hkn z
theorem GQ.st {P : Pm} {g g' : Gh} {l : Nat} {x : Mg} {Z : List Mg} {S S' : SS} (hP : PmO P) (hl : l < P.nn) (h : RG P g l S) (hi : GQ P l S) (hst : St1 P g l x Z S S') (h' : RG P g' l S') : GQ P l S' := by
  have hr := hst.rl hP hl h h'
  have hS := h.1
  have hG := hS.1.go
  have hb12 := SU.b12 hS.1
  have hnn := hP.nn
  have hL := h.lo hl
  have hL' := h'.lo hl
  have hm := hst.2.2.1
  have hs := hst.2.2.2.1
  obtain ⟨i1, i2, i3, i4, i5⟩ := hi
  have hx7 : x.1 0 = 7 → ∀ k, k < 5243392 → x.1 5 = nI k → ¬ nwO (dN S l 16 960) (nI k) := fun z k hk e => i3 x k hst.head (Or.inr z) hk e
  have hx5 : x.1 0 = 5 → ∀ k, k < 5243392 → hvT (x.1, x.2) (nI k) → ¬ nwO (dN S l 16 960) (nI k) := fun z k hk e => i4 x k hst.head z hk e
  have hPN : PNs l S' := by
    intro y k hy hkd hk h5
    rcases hst.src hP hl hy with ⟨y0, q1, q2⟩ | ⟨_, q⟩ | ⟨j, z, j1, j2, j3, hq, z1, z2⟩ | ⟨_, _, e, z, z0, z1, z2⟩
    · exact nwO_le hr (i2 y0 k q1 (by rw [← q2.1]; exact hkd) hk (by rw [← q2.1]; exact h5))
    · rw [q] at hkd
      rcases hkd with c | c <;> exact absurd c (by decide)
    · rw [z2.1] at hkd h5
      rcases hq.k z1 with ⟨_, c⟩ | ⟨_, _, c, _⟩ | ⟨_, c | c⟩ | ⟨c9, c | c⟩ | ⟨_, c⟩
      · rw [c] at hkd; rcases hkd with w | w <;> exact absurd w (by decide)
      · rw [c, (mLS_v (to := x.1 1) (h.nu j1)).1] at hkd; rcases hkd with w | w <;> exact absurd w (by decide)
      · rw [c] at hkd; rcases hkd with w | w <;> exact absurd w (by decide)
      · rw [c] at hkd; rcases hkd with w | w <;> exact absurd w (by decide)
      · have ht : z.1 5 = x.1 5 := by
          rcases hq with ⟨d, _⟩ | ⟨d, _⟩ | ⟨d, _⟩ | ⟨_, _, z', e', _, _, _, q5, _⟩ | ⟨d, _⟩ | ⟨d, _⟩
          · rw [c9] at d; exact absurd d (by decide)
          · rw [c9] at d; exact absurd d (by decide)
          · rw [c9] at d; exact absurd d (by decide)
          · rw [e'] at z1
            rw [List.mem_singleton.mp z1]; exact q5
          · rw [c9] at d; exact absurd d (by decide)
          · rw [c9] at d; exact absurd d (by decide)
        exact nwO_le hr (i2 x k hst.head (Or.inr c9) hk (by rw [← ht]; exact h5))
      · rw [c] at hkd; rcases hkd with w | w <;> exact absurd w (by decide)
      · rw [c] at hkd; rcases hkd with w | w <;> exact absurd w (by decide)
    · rw [z2.1] at hkd h5
      have c10 : z.1 0 = 10 := by
        rcases hkd with w | w
        · exact w
        · rcases e.kd z1 with c | c | c | c | c <;> rw [w] at c <;> exact absurd c (by decide)
      rcases e.pu hG hP.gg hnn z0 c10 with q | ⟨o, j, _, _, q3, q4⟩
      · exact nwO_le hr (i2 z k ((tkl_perm hst.1).mem_iff.mp (List.mem_cons_of_mem _ q)) hkd hk h5)
      · rw [q4, (mPU_5 _ _ _ _).1] at h5
        have := (msO_f q3).2
        rw [h5] at this
        exact fnd_nw hP.gg hL' hk this
  -- what the leader posts
  have hld : ∀ z, z ∈ psl (tkl S.2.2.1 0) Z → LDr P g l x.1 x.2 (dN S l) (kN S l) (aN S l) (dN S' l) (kN S' l) (aN S' l) (tkl S.2.2.1 0) Z → z ∈ S.2.2.1 ∨ z.1 0 = 12 ∨ z.1 0 = 3 ∨ z.1 0 = 10 ∨ (z.1 0 = 6 ∧ ∃ a, a < 961 ∧ ¬ dN S' l 16 a < 0 ∧ z.1 5 = tgA (dN S' l 11) (dN S' l 16) a) := fun z hz e => by
    obtain ⟨D1, Z6, Zt, Zp, _, _, _, b4, _, _, _, b8, b9, b10, _⟩ := e.g hG hb12 hP.gg hnn hL hm hs i1 hx7 hx5
    rw [b8] at hz
    rcases psl_in Zp hz with q | q
    · rcases psl_in Zt q with q | q
      · rcases psl_in Z6 q with q | q
        · exact Or.inl ((tkl_perm hst.1).mem_iff.mp (List.mem_cons_of_mem _ q))
        · rcases b4 with w | ⟨_, _, z', w, w2⟩
          · rw [w] at q; cases q
          · rw [w] at q
            exact Or.inr (Or.inl (by rw [List.mem_singleton.mp q]; exact w2))
      · exact Or.inr (Or.inr (Or.inl (b9 z q)))
    · rcases b10 with ⟨_, w⟩ | ⟨_, w⟩
      · rw [w] at q; cases q
      · rcases w with ⟨s, _, m, _⟩ | ⟨s, _, m, _⟩ | ⟨s, _, m, _⟩ | ⟨_, _, _, s⟩
        · obtain ⟨j, j1, j2, y⟩ := m z q
          refine Or.inr (Or.inr (Or.inr (Or.inr ⟨by rw [y, mGE_0], ?_⟩)))
          obtain ⟨nd1, nd2, _⟩ := j2
          have hnd : ∃ a, a < 961 ∧ ndB (dN S' l 18) j = nI a ∧ ¬ dN S' l 16 a < 0 := by
            rcases hL'.st with ⟨z, _⟩ | ⟨z, _⟩ | ⟨_, o, _, zo, _⟩ | ⟨z, _⟩ | ⟨z, _⟩
            · rw [s] at z; exact absurd z (by decide)
            · rw [s] at z; exact absurd z (by decide)
            · obtain ⟨a, a1, a2, a3, _⟩ := FE.nd zo (show j < 32 by omega) nd1
              exact ⟨a, a1, a2, a3⟩
            · rw [s] at z; exact absurd z (by decide)
            · rw [s] at z; exact absurd z (by decide)
          obtain ⟨a, a1, a2, a3⟩ := hnd
          refine ⟨a, a1, a3, ?_⟩
          rw [y, (mGE_v P.nn (nI l) (dN S' l) _).2.2, a2, nI_clamp (by omega)]
        · obtain ⟨o, j, _, _, _, y⟩ := m z q
          exact Or.inr (Or.inr (Or.inr (Or.inl (by rw [y, mPU_0]))))
        · obtain ⟨j, _, _, y⟩ := m z q
          exact Or.inr (Or.inr (Or.inr (Or.inl (by rw [y, mPU_0]))))
        · rw [s] at q; cases q
  refine ⟨?_, hPN, fun y k hy hkd hk e5 => ?_, fun y k hy hkd hk hv => ?_, fun y n k hy hkd hn e2 hk hmm => ?_⟩
  · rcases hst.cs hnn hl with ⟨_, e, _⟩ | ⟨j, _, _, _, _, _, _, e2, _, e3, _⟩ | ⟨_, _, _, _, _, e⟩ | ⟨_, _, _, _, _, e, _⟩
    · show ¬ knA (S'.2.2.2.2.1 l) (S'.2.2.2.1 l 10 9) = 0
      rw [e]; exact i1
    · rw [e2 l, e3 l 10 (by omega)]; exact i1
    · obtain ⟨_, _, _, _, _, _, _, _, _, _, _, _, _, _, b11, _⟩ := e.g hG hb12 hP.gg hnn hL hm hs i1 hx7 hx5
      exact b11
    · show ¬ knA (S'.2.2.2.2.1 l) (S'.2.2.2.1 l 10 9) = 0
      rw [e]; exact i1
  · rcases hst.src hP hl hy with ⟨y0, q1, q2⟩ | ⟨_, q⟩ | ⟨j, z, j1, j2, j3, hq, z1, z2⟩ | ⟨_, _, e, z, z0, z1, z2⟩
    · exact nwO_le hr (i3 y0 k q1 (by rw [← q2.1]; exact hkd) hk (by rw [← q2.1]; exact e5))
    · rw [q] at hkd
      rcases hkd with c | c <;> exact absurd c (by decide)
    · rw [z2.1] at hkd e5
      rcases hq.k z1 with ⟨_, c⟩ | ⟨_, _, c, _⟩ | ⟨c6, c⟩ | ⟨_, c | c⟩ | ⟨_, c⟩
      · rw [c] at hkd; rcases hkd with w | w <;> exact absurd w (by decide)
      · rw [c, (mLS_v (to := x.1 1) (h.nu j1)).1] at hkd; rcases hkd with w | w <;> exact absurd w (by decide)
      · have ht : z.1 5 = x.1 5 := by
          rcases hq with ⟨d, _⟩ | ⟨d, _⟩ | ⟨_, _, z', e', _, _, _, q5, _⟩ | ⟨d, _⟩ | ⟨d, _⟩ | ⟨d, _⟩
          · rw [c6] at d; exact absurd d (by decide)
          · rw [c6] at d; exact absurd d (by decide)
          · rw [e'] at z1
            rw [List.mem_singleton.mp z1]; exact q5
          · rw [c6] at d; exact absurd d (by decide)
          · rw [c6] at d; exact absurd d (by decide)
          · rw [c6] at d; exact absurd d (by decide)
        exact nwO_le hr (i3 x k hst.head (Or.inl c6) hk (by rw [← ht]; exact e5))
      · rw [c] at hkd; rcases hkd with w | w <;> exact absurd w (by decide)
      · rw [c] at hkd; rcases hkd with w | w <;> exact absurd w (by decide)
      · rw [c] at hkd; rcases hkd with w | w <;> exact absurd w (by decide)
    · rw [z2.1] at hkd e5
      rcases hld z z0 e with q | q | q | q | ⟨_, a, a1, a2, a3⟩
      · exact nwO_le hr (i3 z k q hkd hk e5)
      · rw [q] at hkd; rcases hkd with w | w <;> exact absurd w (by decide)
      · rw [q] at hkd; rcases hkd with w | w <;> exact absurd w (by decide)
      · rw [q] at hkd; rcases hkd with w | w <;> exact absurd w (by decide)
      · obtain ⟨k', k1, k2, k3, _⟩ := hL'.tgf h'.1.1.go hP.gg a1 a2
        have : k' = k := nI_inj (by omega) (by omega) (k2.symm.trans (a3.symm.trans e5))
        subst this
        exact fnd_nw hP.gg hL' hk (by rw [k3]; exact nIneg (by omega))
  · rcases hst.src hP hl hy with ⟨y0, q1, q2⟩ | ⟨_, q⟩ | ⟨j, z, j1, j2, j3, hq, z1, z2⟩ | ⟨_, _, e, z, z0, z1, z2⟩
    · exact nwO_le hr (i4 y0 k q1 (by rw [← q2.1]; exact hkd) hk (hvT_sy q2.sy (by rw [← q2.1]; exact Or.inl hkd) hv))
    · rw [q] at hkd; exact absurd hkd (by decide)
    · have hz5 : z.1 0 = 5 := by rw [← z2.1]; exact hkd
      rcases hq.k z1 with ⟨_, c⟩ | ⟨c4, _, c, _⟩ | ⟨_, c | c⟩ | ⟨_, c | c⟩ | ⟨_, c⟩
      · rw [hz5] at c; exact absurd c (by decide)
      · obtain ⟨v0, v1, v2, v3, v6, c', v7, v8, v9, v10, v11⟩ := mLS_v (to := x.1 1) (h.nu j1)
        obtain ⟨i, a1, a2⟩ := hvT_sy z2.sy (by rw [hz5]; exact Or.inl rfl) hv
        rw [c, v8, nI_clamp (by omega)] at a1
        obtain ⟨s, s1, s2, _⟩ := (v10 i a1).2
        rw [← c, a2] at s2
        exact nwO_le hr (i5 x j k hst.head c4 j1 j2 hk ⟨s, s1, s2⟩)
      · rw [hz5] at c; exact absurd c (by decide)
      · rw [hz5] at c; exact absurd c (by decide)
      · rw [hz5] at c; exact absurd c (by decide)
      · rw [hz5] at c; exact absurd c (by decide)
      · rw [hz5] at c; exact absurd c (by decide)
    · have hz5 : z.1 0 = 5 := by rw [← z2.1]; exact hkd
      rcases e.kd z1 with c | c | c | c | c <;> rw [hz5] at c <;> exact absurd c (by decide)
  · have old : ∀ y0, y0 ∈ S.2.2.1 → y0.1 0 = 4 → y0.1 2 = nI n → ¬ nwO (dN S' l 16 960) (nI k) := fun y0 q1 q4 q2 => by
      rcases hst.mm hP hl (nI_pos (by omega)) hmm with w | ⟨w1, _, w3⟩
      · exact nwO_le hr (i5 y0 n k q1 q4 hn q2 hk w)
      · exact nwO_le hr (i2 x k hst.head (Or.inl w1) hk w3)
    rcases hst.src hP hl hy with ⟨y0, q1, q2⟩ | ⟨_, q⟩ | ⟨j, z, j1, j2, j3, hq, z1, z2⟩ | ⟨_, _, e, z, z0, z1, z2⟩
    · exact old y0 q1 (by rw [← q2.1]; exact hkd) (by rw [← q2.1]; exact e2)
    · rw [q] at hkd; exact absurd hkd (by decide)
    · have hz4 : z.1 0 = 4 := by rw [← z2.1]; exact hkd
      rcases hq.k z1 with ⟨_, c⟩ | ⟨_, _, c, _⟩ | ⟨_, c | c⟩ | ⟨_, c | c⟩ | ⟨_, c⟩
      · rw [hz4] at c; exact absurd c (by decide)
      · rw [c, (mLS_v (to := x.1 1) (h.nu j1)).1] at hz4; exact absurd hz4 (by decide)
      · rw [hz4] at c; exact absurd c (by decide)
      · rw [hz4] at c; exact absurd c (by decide)
      · rw [hz4] at c; exact absurd c (by decide)
      · rw [hz4] at c; exact absurd c (by decide)
      · rw [hz4] at c; exact absurd c (by decide)
    · have hz4 : z.1 0 = 4 := by rw [← z2.1]; exact hkd
      rcases hld z z0 e with q | q | q | q | ⟨q, _⟩
      · exact old z q hz4 (by rw [← z2.1]; exact e2)
      · rw [hz4] at q; exact absurd q (by decide)
      · rw [hz4] at q; exact absurd q (by decide)
      · rw [hz4] at q; exact absurd q (by decide)
      · rw [hz4] at q; exact absurd q (by decide)

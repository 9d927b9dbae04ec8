/-! goOn: what it tells is the ANSWER -/
def tlD (D : Nat → Nat → Int32) : Nat := (if ¬ D 18 5 < 0 ∧ (D 19 0 = 4 ∨ D 19 0 = 9) then D 18 5 else 0).toNatClampNeg
def GIhX (P : Pm) (g : Gh) (e : Nat) (me : Int32) (u b : Nat → Int32) (A : Int64) (Y : List Mg) (I : (Nat → Nat → Int32) → Int64 → List Mg → Prop) : Prop :=
  (∀ D D1 K, LO P g e D K → D 18 3 = 1 → ¬ knA K (D 10 9) = 0 → ¬ rdB (D 8) (D 7 9) 0 = 0 → F_93 P.nn P.gg P.C me P.f u b D K A Y = (D1, K, A, Y) → K18 D D1 → (LO P g e D1 K ∨ TE P g e D1 K) → I D K [] → I D1 K []) ∧
  (∀ D D1 K K1, LO P g e D K → D 18 3 = 2 → D 18 12 = 0 → bnS (F_104 P.nn P.gg P.C me P.f u b D K A Y) (fun D3 K3 A3 Y3 => bnS (F_114 P.nn P.gg P.C me P.f u b D3 K3 A3 Y3) (fun D4 K4 A4 Y4 => (D4, K4, A4, Y4))) = (D1, K1, A, Y) → (∀ q, q < 10 → D1 q = D q) → (LO P g e D1 K1 ∨ TE P g e D1 K1) → I D K [] → I D1 K1 []) ∧
  (∀ D D1 K, LO P g e D K → D 18 3 = 3 → ¬ arS P.gg D 8 0 = 0 → F_121 P.nn P.gg P.C me P.f u b D K A Y = (D1, K, A, Y) → (∀ q, q < 10 → D1 q = D q) → LO P g e D1 K → I D K [] → I D1 K []) ∧
  (∀ D K, LO P g e D K → D 18 3 = 4 → ¬ arS P.gg D 1 8 = 0 → TE P g e (va_up (va_up D 7 (upd (upd (D 7) 10 0) 14 0)) 18 (upd (D 18) 3 5)) K → I D K [] → I (va_up (va_up D 7 (upd (upd (D 7) 10 0) 14 0)) 18 (upd (D 18) 3 5)) K []) ∧
  (∀ D K, TE P g e D K → LO P g e (va_up D 18 (upd (D 18) 3 0)) K → I D K [] → I (va_up D 18 (upd (D 18) 3 0)) K [mTL P.nn me D (tlD D)])
theorem gi5X {P : Pm} {g : Gh} {e : Nat} {me : Int32} {u b : Nat → Int32} {D : Nat → Nat → Int32} {K A : Int64} {Y : List Mg} {w1 : Int32} {I : (Nat → Nat → Int32) → Int64 → List Mg → Prop} (hH : GIhX P g e me u b A Y I) (hnn : P.nn ≤ 6) (h : LO P g e D K ∨ TE P g e D K) (hI : I D K []) : GIc P g e me A Y I w1 (F_91_k5 P.nn P.gg P.C me P.f u b D K A Y w1) := by
  unfold F_91_k5
  rcases h with h | h
  · rw [if_pos h.no5]
    exact gi6 (Zt := []) hnn h hI
  · rw [if_neg (fun z => z h.s5)]
    obtain ⟨D1, Y1, r1, r2, _, r4⟩ := tell_all (nn := P.nn) (gg := P.gg) (C := P.C) (me := me) (f := P.f) (u := u) (b := b) (A := A) (Y := []) h (fun y hy => by cases hy)
    have hF : ∀ Y, F_123 P.nn P.gg P.C me P.f u b D K A Y = (va_up D 18 (upd (D 18) 3 0), K, A, pst Y (mTL P.nn me D (tlD D))) := fun Y => by unfold F_123; rw [bnN_e]; rfl
    have e1 := (Prod.mk.inj ((hF []).symm.trans r1)).1
    subst e1
    rw [hF Y, bnS_e]
    exact gi6 (Zt := [mTL P.nn me D (tlD D)]) hnn r2 (hH.2.2.2.2 D K h r2 hI)
theorem gi4X {P : Pm} {g : Gh} {e : Nat} {me : Int32} {u b : Nat → Int32} {D : Nat → Nat → Int32} {K A : Int64} {Y : List Mg} {w1 : Int32} {I : (Nat → Nat → Int32) → Int64 → List Mg → Prop} (hG : GO g) (hgg : 0 < P.gg) (hH : GIhX P g e me u b A Y I) (hnn : P.nn ≤ 6) (h : LO P g e D K ∨ TE P g e D K) (hI : I D K []) : GIc P g e me A Y I w1 (F_91_k4 P.nn P.gg P.C me P.f u b D K A Y w1) := by
  unfold F_91_k4
  by_cases c : D 18 3 = 4
  · rw [if_neg (fun z => z c), bnI_e]
    rcases h with h | h
    · by_cases d : arS P.gg D (9 - 8) 8 = 0
      · rw [if_pos d]
        exact gi5X hH hnn (Or.inl h) hI
      · rw [if_neg d]
        have := commit_all hG hgg hnn h c d
        exact gi5X hH hnn (Or.inr this) (hH.2.2.2.1 D K h c d this hI)
    · rw [h.s5] at c; exact absurd c (by decide)
  · rw [if_pos c]
    exact gi5X hH hnn h hI
theorem gi3X {P : Pm} {g : Gh} {e : Nat} {me : Int32} {u b : Nat → Int32} {D : Nat → Nat → Int32} {K A : Int64} {Y : List Mg} {w1 : Int32} {I : (Nat → Nat → Int32) → Int64 → List Mg → Prop} (hG : GO g) (hgg : 0 < P.gg) (hH : GIhX P g e me u b A Y I) (hnn : P.nn ≤ 6) (h : LO P g e D K ∨ TE P g e D K) (hI : I D K []) : GIc P g e me A Y I w1 (F_91_k3 P.nn P.gg P.C me P.f u b D K A Y w1) := by
  unfold F_91_k3
  by_cases c : D 18 3 = 3
  · rw [if_neg (fun z => z c), bnI_e]
    rcases h with h | h
    · by_cases d : arS P.gg D (8 - 0) 0 = 0
      · rw [if_pos d]
        exact gi4X hG hgg hH hnn (Or.inl h) hI
      · rw [if_neg d]
        obtain ⟨D1, r1, r2, r3⟩ := root_all (me := me) (u := u) (b := b) (A := A) (Y := Y) hG hgg hnn h c d
        rw [r1, bnS_e]
        exact gi4X hG hgg hH hnn (Or.inl r3) (hH.2.2.1 D D1 K h c d r1 r2 r3 hI)
    · rw [h.s5] at c; exact absurd c (by decide)
  · rw [if_pos c]
    exact gi4X hG hgg hH hnn h hI
theorem gi2X {P : Pm} {g : Gh} {e : Nat} {me : Int32} {u b : Nat → Int32} {D : Nat → Nat → Int32} {K A : Int64} {Y : List Mg} {w1 : Int32} {I : (Nat → Nat → Int32) → Int64 → List Mg → Prop} (hG : GO g) (hgg : 0 < P.gg) (hH : GIhX P g e me u b A Y I) (hnn : P.nn ≤ 6) (h : LO P g e D K ∨ TE P g e D K) (hI : I D K []) : GIc P g e me A Y I w1 (F_91_k2 P.nn P.gg P.C me P.f u b D K A Y w1) := by
  unfold F_91_k2
  by_cases c : D 18 3 = 2
  · rw [if_neg (fun z => z c)]
    rcases h with h | h
    · by_cases d : D 18 12 = 0
      · rw [if_neg (fun z => z d)]
        obtain ⟨D1, K1, r1, r2, r3⟩ := change_all (me := me) (u := u) (b := b) (A := A) (Y := Y) hG h c d
        have key : bnS (F_104 P.nn P.gg P.C me P.f u b D K A Y) (fun D3 K3 A3 Y3 => bnS (F_114 P.nn P.gg P.C me P.f u b D3 K3 A3 Y3) (fun D4 K4 A4 Y4 => F_91_k3 P.nn P.gg P.C me P.f u b D4 K4 A4 Y4 w1)) = F_91_k3 P.nn P.gg P.C me P.f u b D1 K1 A Y w1 := by
          rw [bnS_2 (F_104 P.nn P.gg P.C me P.f u b D K A Y) (F_114 P.nn P.gg P.C me P.f u b) (fun D4 K4 A4 Y4 => F_91_k3 P.nn P.gg P.C me P.f u b D4 K4 A4 Y4 w1), r1, bnS_e]
        rw [key]
        exact gi3X hG hgg hH hnn r3 (hH.2.1 D D1 K K1 h c d r1 r2 r3 hI)
      · rw [if_pos d]
        exact gi3X hG hgg hH hnn (Or.inl h) hI
    · rw [h.s5] at c; exact absurd c (by decide)
  · rw [if_pos c]
    exact gi3X hG hgg hH hnn h hI
theorem goon_IX {P : Pm} {g : Gh} {e : Nat} {me : Int32} {u b : Nat → Int32} {D : Nat → Nat → Int32} {K A : Int64} {Y : List Mg} {I : (Nat → Nat → Int32) → Int64 → List Mg → Prop} (hG : GO g) (hgg : 0 < P.gg) (hH : GIhX P g e me u b A Y I) (hnn : P.nn ≤ 6) (h : LO P g e D K) (hI : I D K []) : GIc P g e me A Y I (D 18 3) (F_91 P.nn P.gg P.C me P.f u b D K A Y) := by
  unfold F_91
  rw [bnI_e]
  by_cases c : D 18 3 = 1
  · rw [if_neg (fun z => z c)]
    by_cases d : knA K (D 10 9) = 0
    · rw [if_pos d]
      exact gi2X hG hgg hH hnn (Or.inl h) hI
    · rw [if_neg d]
      by_cases rd : rdB (D 8) (D 7 9) 0 = 0
      · rw [if_pos rd]
        exact gi2X hG hgg hH hnn (Or.inl h) hI
      · rw [if_neg rd]
        obtain ⟨D1, r1, r2, r3⟩ := plan_all (me := me) (u := u) (b := b) (A := A) (Y := Y) hG h c d
        rw [r1, bnS_e]
        exact gi2X hG hgg hH hnn r3 (hH.1 D D1 K h c d rd r1 r2 r3 hI)
  · rw [if_pos c]
    exact gi2X hG hgg hH hnn (Or.inl h) hI
/-- zeros behind all NAMES that were asked for -/
def OZg (g : Gh) : Prop := ∀ o, o < g.bg → OZ (g.ops o)
/-- READ under way: how much -/
def RDl (g : Gh) (D : Nat → Nat → Int32) : Prop := D 18 3 = 2 → ∀ o, o < g.bg → D 18 4 = nI o → (g.ops o).1 0 = 4 → D 18 9 = D 18 5 ∧ D 18 5 = anS (tsp g.ops o) o (g.ops o)
def TLl (g : Gh) (D : Nat → Nat → Int32) : Prop := D 18 3 = 5 → ∀ o, o < g.bg → D 18 4 = nI o → TLv g.ops o D
/-- TOLD says what it must -/
def TLx (g : Gh) (x : Mg) : Prop := x.1 0 = 3 → ∀ o, o < g.bg → x.1 5 = nI o → x.1 6 = anS (tsp g.ops o) o (g.ops o) ∧ x.1 7 = nI (tdL (tsp g.ops o) (g.ops o)) ∧ ∀ y, y < tdL (tsp g.ops o) (g.ops o) → uN (bytA x.2 y) = tdB (tsp g.ops o) (g.ops o) y
theorem td_eff {T : TS} {o : Nat} {m : Mg} {x : Nat × TS} (h : stp T o m = some x) : ¬ m.1 0 = 4 ∧ ¬ m.1 0 = 9 := by
  constructor <;> intro hk <;> unfold stp at h <;> rw [if_neg (by rw [hk]; decide), if_neg (by rw [hk]; decide), if_neg (by rw [hk]; decide), if_neg (by rw [hk]; decide), if_neg (by rw [hk]; decide), if_neg (by rw [hk]; decide), if_neg (by rw [hk]; decide)] at h <;> cases h
theorem tdL_no {T : TS} {m : Mg} (h : tdO T m = none) : tdL T m = 0 := by unfold tdL; rw [h]
theorem goon_T {P : Pm} {g : Gh} {e : Nat} {me : Int32} {u b : Nat → Int32} {D D' : Nat → Nat → Int32} {K A K' A' : Int64} {Y Y' : List Mg} (hG : GO g) (hgg : 0 < P.gg) (hnn : P.nn ≤ 6) (hZ : OZg g) (h : LO P g e D K) (hR : RDl g D) (hF : F_91 P.nn P.gg P.C me P.f u b D K A Y = (D', K', A', Y')) : RDl g D' ∧ ∃ Z, Y' = psl Y Z ∧ ∀ z ∈ Z, TLx g z := by
  have h512 := hG.1
  have triv : ∀ (D1 : Nat → Nat → Int32), ¬ D1 18 3 = 2 → ¬ D1 18 3 = 5 → RDl g D1 ∧ TLl g D1 := fun D1 a b => ⟨fun z => absurd z a, fun z => absurd z b⟩
  have hH : GIhX P g e me u b A Y (fun D1 _ Z => (RDl g D1 ∧ TLl g D1) ∧ ∀ z ∈ Z, TLx g z) := by
    refine ⟨fun D1 D2 K1 hL hs hk hrd hF2 h18 _ _ => ⟨?_, fun z hz => by cases hz⟩, fun D1 D2 K1 K2 hL hs h12 hq _ _ hI => ⟨?_, fun z hz => by cases hz⟩, fun D1 D2 K1 hL hs _ hq _ _ _ => ⟨?_, fun z hz => by cases hz⟩, fun D1 K1 hL hs _ _ _ => ⟨⟨?_, ?_⟩, fun z hz => by cases hz⟩, fun D1 K1 hT _ hI => ⟨?_, fun z hz => ?_⟩⟩
    · -- plan
      obtain ⟨q4, q6, q⟩ := plan_x hG hL hs hk hF2
      rcases q with ⟨_, q⟩ | ⟨_, _, q⟩ | ⟨c1, c2, c3, _⟩ | ⟨_, _, _, q⟩
      · exact triv D2 (by rw [q]; decide) (by rw [q]; decide)
      · exact triv D2 (by rw [q]; decide) (by rw [q]; decide)
      · obtain ⟨r, zr⟩ := hL.idle (by rw [hs]; decide)
        obtain ⟨o, zo⟩ := hL.wa (by rw [hs]; decide)
        have ho := zo.o1
        have htk := zr.tk hk
        have hrt : efv g.ops r = efv g.ops o := by rw [← zr.rt, c3, zo.bf]
        obtain ⟨s1, s2⟩ := same_root (by have := zr.r1; omega) (by omega) hrt
        obtain ⟨D3, p1, p2, p3, p4, p5⟩ := plan_v (G := Bg P g) (nn := P.nn) (gg := P.gg) (C := P.C) (me := me) (f := P.f) (u := u) (b := b) (A := A) (Y := Y) (hG.tok (Nat.le_of_lt ho)) (by omega) (by rw [← s1]; exact htk) zo.ak (by rw [zr.rt, hrt]) zo.bf (hZ o ho) (nz_tsp (fun o' ho' => hZ o' (by omega)))
        have e3 : D3 = D2 := (Prod.mk.inj (p1.symm.trans hF2)).1
        subst e3
        have hun : ∀ o', o' < g.bg → D3 18 4 = nI o' → o' = o := fun o' ho' e => nI_inj (by omega) (by omega) (e.symm.trans p3)
        rcases p5 with ⟨y1, _, _, y4⟩ | ⟨y1, _, y3⟩
        · refine ⟨fun z => absurd (y1.symm.trans z) (by decide), fun _ o' ho' e => ?_⟩
          rw [hun o' ho' e]; exact y4
        · refine ⟨fun _ o' ho' e hk4 => ?_, fun z => absurd (y1.symm.trans z) (by decide)⟩
          rw [hun o' ho' e] at hk4 ⊢
          exact y3 hk4
      · exact triv D2 (by rw [q]; decide) (by rw [q]; decide)
    · -- change
      rcases hL.st with ⟨z, _⟩ | ⟨z, _⟩ | ⟨_, o, ⟨ho, ho2⟩, z1, z2, z3, z4⟩ | ⟨z, _⟩ | ⟨z, _⟩
      · rw [hs] at z; exact absurd z (by decide)
      · rw [hs] at z; exact absurd z (by decide)
      · have hT := hG.tok (Nat.le_of_lt ho)
        have hS := hG.stb (Nat.le_of_lt ho)
        have hFE : FE g.ops (Bk g.ops g.bg) o D1 K1 := z1.mono (fun w hw => hw.1)
        rcases change_lem (nn := P.nn) (gg := P.gg) (C := P.C) (me := me) (f := P.f) (u := u) (b := b) (A := A) (Y := Y) (by omega) hT hS hFE h12 with ⟨k4, hn, D3, r1, r2, r3, r4⟩ | ⟨a, T', D3, K3, r1, r2, r3, r4⟩
        · have hF3 : F_114 P.nn P.gg P.C me P.f u b D3 K1 A Y = (D3, K1, A, Y) := by
            unfold F_114
            rw [if_neg (by rw [r2]; decide)]
          have hq2 := hq
          rw [r1, bnS_e, hF3, bnS_e] at hq
          obtain ⟨e1, _⟩ := Prod.mk.inj hq
          subst e1
          refine ⟨fun z => absurd (r2.symm.trans z) (by decide), fun _ o' ho' e' => ?_⟩
          have hoo : o' = o := nI_inj (by omega) (by omega) (by rw [← e', r3 4 (by decide)]; exact z1.ak.op)
          subst hoo
          obtain ⟨R1, R2⟩ := hI.1.1 hs o' ho z1.ak.op k4
          refine ⟨by rw [r3 5 (by decide)]; exact R2, by rw [r4 19 (by decide) (by decide)]; exact z1.ak.h0, fun x hx => ?_⟩
          obtain ⟨sp, c, a, s1, s2, s3, s4, s5, s6, s7, s8, s9⟩ := hFE.old (by omega) hT hS h12
          -- the FILE that is read
          cases hfd : fdN (tsp g.ops o') (g.ops o').2 0 ((g.ops o').1 3).toNatClampNeg with
          | none =>
            have hd : tdO (tsp g.ops o') (g.ops o') = none := by unfold tdO; rw [if_pos k4, hfd]
            rw [tdL_no hd] at hx
            exact absurd hx (Nat.not_lt_zero x)
          | some i =>
            have hd : tdO (tsp g.ops o') (g.ops o') = some (min ((tsp g.ops o').sz i - ((g.ops o').1 1).toNatClampNeg) ((g.ops o').1 2).toNatClampNeg, fun x => uN ((tsp g.ops o').dt i (((g.ops o').1 1).toNatClampNeg + x))) := by unfold tdO; rw [if_pos k4, hfd]
            obtain ⟨d1, _, d3, d4⟩ := an_told hn hd
            have hle := tdL_le hT (hG.2 o' ho) _ hd
            have hsp : sp = tdL (tsp g.ops o') (g.ops o') := by
              rw [d3]
              refine nI_inj (by omega) (by omega) ?_
              rw [← s2, R1, R2, d1]
            rw [← hsp] at hx
            obtain ⟨t1, t2, t3, t4⟩ := s6 (by omega)
            have ha1 : ((g.ops o').1 1).toNatClampNeg = a := by
              have := z1.ak.h1 (by rw [k4]; decide)
              rw [← this, t1, nI_clamp (by omega)]
            obtain ⟨D4, u1, u2, u3⟩ := rd_lp (nn := P.nn) (gg := P.gg) (C := P.C) (me := me) (f := P.f) (u := u) (b := b) (K := K1) (A := A) (Y := Y) s1 t2 c 0 (va_up D1 18 (upd (D1 18) 3 5)) (by rw [va_up_n _ _ (by decide)]; exact t1) (by rw [va_up_s, pk_un (by decide)]; exact s2)
            have e4 : D4 = D3 := by
              have hF4 : F_104 P.nn P.gg P.C me P.f u b D1 K1 A Y = (D4, K1, A, Y) := by
                have h0 := z1.ak.h0
                unfold F_104
                rw [if_neg (by rw [h0, k4]; decide), if_neg (by rw [h0, k4]; decide), if_neg (by rw [h0, k4]; decide), if_neg (by rw [h0, k4]; decide), if_pos (by rw [h0]; exact k4), bnN_e]
                unfold F_107
                rw [bnN_e, va_up_s, pk_un (by decide), s3, nI_clamp (by omega), u1, bnS_e]
              exact (Prod.mk.inj (hF4.symm.trans r1)).1
            rw [← e4, u3 x hx, if_pos (by omega), va_up_n _ _ (by decide), d4]
            rcases z1.fi with ⟨_, f2⟩ | ⟨fx, i', f1, f2, f3, f4, f5⟩
            · rw [hfd] at f2; cases f2
            · rw [hfd, Option.some.injEq] at f5
              subst f5
              have hst := (s8 fx i f1 f2 f3 f4 ((a + x) / 448 - a / 448) (by omega)).2 ((a + x) % 448) (Nat.mod_lt _ (by decide))
              rw [byt_sh, ← Nat.add_assoc] at hst
              rw [hst, ha1]
              show uN _ = uN _
              refine congrArg (fun z => uN ((tsp g.ops o').dt i z)) ?_
              omega
        · obtain ⟨D4, y1, y2⟩ := seal_lem (bg := g.bg) (nn := P.nn) (gg := P.gg) (C := P.C) (me := me) (f := P.f) (u := u) (b := b) (A := A) (Y := Y) (by omega) ho hT z1.tk ⟨_, r1⟩ r4
          rw [r3, bnS_e, y1, bnS_e] at hq
          obtain ⟨e1, _⟩ := Prod.mk.inj hq
          subst e1
          exact triv _ (by rw [y2.st]; decide) (by rw [y2.st]; decide)
      · rw [hs] at z; exact absurd z (by decide)
      · rw [hs] at z; exact absurd z (by decide)
    · -- the ROOT
      have h4 : D2 18 3 = 4 := by
        unfold F_121 at hq
        rw [bnN_e] at hq
        by_cases c : D1 16 960 = nI (D1 18 4).toNatClampNeg
        · rw [if_pos c] at hq
          have e := (Prod.mk.inj hq).1
          rw [← e, va_up_n _ _ (by decide), va_up_s, pk_us]
        · rw [if_neg c] at hq
          have e := (Prod.mk.inj hq).1
          rw [← e, va_up_n _ _ (by decide), va_up_s, pk_us]
      exact triv D2 (by rw [h4]; decide) (by rw [h4]; decide)
    · intro z
      rw [va_up_s, pk_us] at z
      exact absurd z (by decide)
    · -- COMMIT is through
      intro _ o' ho' e'
      rw [va_up_s, pk_un (by decide)] at e'
      rcases hL.st with ⟨z, _⟩ | ⟨z, _⟩ | ⟨z, _⟩ | ⟨z, _⟩ | ⟨_, o, z⟩
      · rw [hs] at z; exact absurd z (by decide)
      · rw [hs] at z; exact absurd z (by decide)
      · rw [hs] at z; exact absurd z (by decide)
      · rw [hs] at z; exact absurd z (by decide)
      · have hoo : o' = o := nI_inj (by omega) (by have := z.wa.o1; omega) (e'.symm.trans z.wa.ak.op)
        subst hoo
        obtain ⟨_, x, hx⟩ := z.ef
        obtain ⟨k4, k9⟩ := td_eff hx
        refine ⟨?_, ?_, fun y hy => ?_⟩
        · rw [va_up_s, pk_un (by decide), z.a5, (an_some hx).1]
          show (match stp (tsp g.ops o') o' (g.ops o') with | some x => nI x.1 | none => efA g.ops o') = _
          rw [hx]
        · rw [va_up_n _ _ (by decide), va_up_n _ _ (by decide)]; exact z.wa.ak.h0
        · rw [tdL_no (tdO_no k4 k9)] at hy
          exact absurd hy (Nat.not_lt_zero y)
    · -- TELL
      have h0 : (va_up D1 18 (upd (D1 18) 3 0)) 18 3 = 0 := by rw [va_up_s, pk_us]
      exact triv _ (by rw [h0]; decide) (by rw [h0]; decide)
    · rw [List.mem_singleton] at hz
      subst hz
      intro _ o ho e5
      have e5 : D1 18 4 = nI o := e5
      obtain ⟨v1, v2, v3⟩ := hI.1.2 hT.s5 o ho e5
      have hTo := hG.tok (Nat.le_of_lt ho)
      refine ⟨v1, ?_, fun y hy => ?_⟩
      · show nI (tlD D1) = _
        refine congrArg nI ?_
        unfold tlD
        cases hst : stp (tsp g.ops o) o (g.ops o) with
        | some x =>
          obtain ⟨k4, k9⟩ := td_eff hst
          rw [tdL_no (tdO_no k4 k9), if_neg (by rw [v2]; exact fun z => z.2.elim k4 k9)]
          rfl
        | none =>
          cases hd : tdO (tsp g.ops o) (g.ops o) with
          | some x =>
            obtain ⟨d1, _, d3, _⟩ := an_told hst hd
            have hle := tdL_le hTo (hG.2 o ho) x hd
            have hk : (g.ops o).1 0 = 4 ∨ (g.ops o).1 0 = 9 := by
              by_cases k4 : (g.ops o).1 0 = 4
              · exact Or.inl k4
              · by_cases k9 : (g.ops o).1 0 = 9
                · exact Or.inr k9
                · rw [tdO_no k4 k9] at hd; cases hd
            rw [d3, if_pos ⟨by rw [v1, d1]; exact nI_pos (by omega), by rw [v2]; exact hk⟩, v1, d1, nI_clamp (by omega)]
          | none =>
            rw [tdL_no hd]
            by_cases hk : (g.ops o).1 0 = 4 ∨ (g.ops o).1 0 = 9
            · have he : erS (tsp g.ops o) (g.ops o) = -2 := by
                unfold erS
                rcases hk with k | k
                · rw [if_neg (by rw [k]; decide), if_neg (by rw [k]; decide), if_neg (by rw [k]; decide), if_neg (by rw [k]; decide)]
                · rw [if_neg (by rw [k]; decide), if_neg (by rw [k]; decide), if_neg (by rw [k]; decide), if_neg (by rw [k]; decide)]
              rw [if_neg (by rw [v1, (an_none hst hd).1, he]; exact fun z => z.1 (by decide))]
              rfl
            · rw [if_neg (by rw [v2]; exact fun z => hk z.2)]
              rfl
      · refine Eq.trans (congrArg uN (byt_cg ?_ (by omega))) (v3 y hy)
        show D1 20 (100 + y / 4) = D1 20 ((400 + y) / 4)
        rw [show (400 + y) / 4 = 100 + y / 4 by omega]
  by_cases h5 : D 18 3 = 5
  · rcases h.st with ⟨z, _⟩ | ⟨z, _⟩ | ⟨z, _⟩ | ⟨z, _⟩ | ⟨z, _⟩ <;> rw [h5] at z <;> exact absurd z (by decide)
  obtain ⟨D2, K2, Zt, Zp, r1, ⟨r2, r2'⟩, r3, r4⟩ := goon_IX (me := me) (u := u) (b := b) (A := A) (Y := Y) hG hgg hH hnn h ⟨⟨hR, fun z => absurd z h5⟩, fun z hz => by cases hz⟩
  rw [r1] at hF
  obtain ⟨e1, e2⟩ := Prod.mk.inj hF
  obtain ⟨_, e3⟩ := Prod.mk.inj e2
  obtain ⟨_, e4⟩ := Prod.mk.inj e3
  subst e1
  refine ⟨r2.1, Zt ++ Zp, by rw [← e4, psl_app], fun z hz => ?_⟩
  rcases List.mem_append.mp hz with y | y
  · exact r2' z y
  · rcases r4 with ⟨_, w⟩ | ⟨_, w⟩
    · rw [w] at y; cases y
    · rcases w with ⟨_, _, w, _⟩ | ⟨_, _, w, _⟩ | ⟨_, _, w, _⟩ | ⟨_, _, _, w⟩
      · obtain ⟨j, _, _, e⟩ := w z y
        rw [e]; exact fun k => absurd k (by show ¬ (6 : Int32) = 3; decide)
      · obtain ⟨o, j, _, _, _, e⟩ := w z y
        rw [e]; intro k; rw [mPU_0] at k; exact absurd k (by decide)
      · obtain ⟨j, _, _, e⟩ := w z y
        rw [e]; intro k; rw [mPU_0] at k; exact absurd k (by decide)
      · rw [w] at y; cases y

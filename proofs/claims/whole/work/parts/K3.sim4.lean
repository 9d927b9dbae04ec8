/-! answer, told, count, settle, side by side -/
theorem SIM.an {P : Pm} {R c rc : Nat} {g : Gh} {S : SS} {M : Nat → Nat → Int32} {x : Int32} (hv : SVT P R c g rc S) (h : SIM P g S M) : ansV S.1 x = ranV M x := by
  obtain ⟨he, ha⟩ := hv.1.1.gi.as
  have hG := hv.1.1.gi.go
  have h5 := hG.1
  have hh := ha.h1
  have hs := ha.se
  obtain ⟨u1, u2, _, _, u5, _⟩ := h.2.2.2.2.1
  unfold ansV ranV
  rw [ha.bg, u1, u2, hs.2.2, nI_sub (by omega), show g.bg - (g.bg - g.sn) = g.sn by omega]
  by_cases c1 : x < 0 ∨ nI g.bg ≤ x
  · rw [if_pos c1, if_pos c1]
  rw [if_neg c1, if_neg c1]
  by_cases c2 : x < nI g.sn
  · rw [if_pos c2, if_pos c2]
    obtain ⟨o, ho, rfl⟩ := natLt (fun z => c1 (Or.inl z)) (show g.sn < 2 ^ 31 by omega) c2
    rw [nI_clamp (by omega)]
    obtain ⟨sc, _, _, _, a4, _⟩ := hv.2.2.2.2
    have hhe : heN S = he := by unfold heN; rw [ha.h2, nI_clamp (by omega)]
    rw [a4 o (by omega), u5 o (by omega)]
  · rw [if_neg c2, if_neg c2]
theorem SIM.td {P : Pm} {R c rc : Nat} {g : Gh} {S : SS} {M : Nat → Nat → Int32} {x i v : Int32} (hv : SVT P R c g rc S) (h : SIM P g S M) (hq : rtlQ M x i v) : tldV S.1 S.2.1 x i = v := by
  obtain ⟨he, ha⟩ := hv.1.1.gi.as
  have hG := hv.1.1.gi.go
  have h5 := hG.1
  have hh := ha.h1
  have hs := ha.se
  obtain ⟨sc, d1, d2, d3, d4, d5, d6⟩ := h.2.2.2.2.2.1
  obtain ⟨sc', a1, _, _, _, a5⟩ := hv.2.2.2.2
  have : sc' = sc := nI_inj (by have := hv.2.2.2.2; omega) (by omega) (a1.symm.trans d3)
  subst this
  have hhe : heN S = he := by unfold heN; rw [ha.h2, nI_clamp (by omega)]
  unfold tldV
  rw [d3, hs.2.2]
  by_cases cx : x < nI sc' ∨ nI g.sn ≤ x
  · rw [if_pos cx]
    rcases hq with ⟨rfl, _⟩ | ⟨w, iv, q0, q1, q2, q3, q4, q5, q6, q7⟩
    · rfl
    · exfalso
      obtain ⟨o, ho, rfl⟩ := natOf q0
      rw [d4] at q1
      rw [d5] at q3
      have hw := (nI_ltI (by omega) (by omega)).mp q3
      have hos : nI o = nI (w + sc') := by
        rw [← nI_add, ← q1]
        exact (Int32.sub_add_cancel _ _).symm
      have := nI_inj (by omega) (by omega) hos
      rcases cx with z | z
      · have := (nI_ltI (by omega) (by omega)).mp z; omega
      · have := (nI_leI (by omega) (by omega)).mp z; omega
  · rw [if_neg cx]
    have hx0 : ¬ x < nI sc' := fun z => cx (Or.inl z)
    have hx1 : x < nI g.sn := Int32.not_le.mp (fun z => cx (Or.inr z))
    have hxn : ¬ x < 0 := fun z => hx0 (Int32.lt_of_lt_of_le z (by rw [← nI_0]; exact (nI_leI (by decide) (by omega)).mpr (Nat.zero_le _)))
    obtain ⟨o, ho, rfl⟩ := natLt hxn (show g.sn < 2 ^ 31 by omega) hx1
    have hos : sc' ≤ o := by
      rcases Nat.lt_or_ge o sc' with z | z
      · exact absurd ((nI_ltI (by omega) (by omega)).mpr z) hx0
      · exact z
    obtain ⟨b1, b2⟩ := a5 o hos (by omega)
    have htw := d6 (o - sc') (by omega)
    rw [show sc' + (o - sc') = o by omega] at htw
    have hlt := td_le hG (show o < g.bg by omega)
    have hsub : nI o - M 0 37 = nI (o - sc') := by rw [d4, nI_sub hos]
    rw [nI_clamp (by omega), b1]
    rcases hq with ⟨rfl, hor⟩ | ⟨w, iv, q0, q1, q2, q3, q4, q5, q6, q7⟩
    · by_cases ci : i < 0 ∨ nI (tdL (tsp g.ops o) (g.ops o)) ≤ i
      · rw [if_pos ci]
      · exfalso
        rw [hsub, d5] at hor
        rcases hor with z | z | z | ⟨w, w1, w2, w3⟩
        · exact hxn z
        · exact nI_pos (by omega) z
        · have := (nI_leI (by omega) (by omega)).mp z; omega
        · have : o - sc' = w := nI_inj (by omega) (by omega) w1
          subst this
          rw [htw.1] at w3
          exact ci w3
    · rw [hsub] at q1
      have : o - sc' = w := nI_inj (by omega) (by omega) q1
      subst this
      subst q4
      rw [htw.1] at q6
      have hiv := (nI_ltI (by omega) (by omega)).mp q6
      rw [if_neg (fun z => by
        rcases z with z | z
        · exact nI_pos (by omega) z
        · exact absurd q6 (Int32.not_lt.mpr z)), nI_clamp (by omega), q7, htw.2 iv hiv, ← b2 iv hiv]
      refine u_nI ?_
      rw [byt_u]
      have : uN ((S.2.1 (o % 24)).2 ((400 + iv) / 4)) / 2 ^ (24 - 8 * ((400 + iv) % 4)) % 2 ^ 8 < 2 ^ 8 := Nat.mod_lt _ (by decide)
      omega
theorem upS_v {D : Nat → Nat → Nat → Int32} : ∀ (k i c : Nat), upS D k i c = c + Sm (fun j => if D (i + j) 0 6 = 0 then 0 else 1) k
  | 0, _, _ => rfl
  | k + 1, i, c => by
    have e : Sm (fun j => if D (i + j) 0 6 = 0 then 0 else 1) (k + 1) = (if D i 0 6 = 0 then 0 else 1) + Sm (fun j => if D (i + 1 + j) 0 6 = 0 then 0 else 1) k := by
      have e1 := Sm_spl (fun j => if D (i + j) 0 6 = 0 then 0 else 1) 1 k
      have e2 : Sm (fun v => if D (i + (1 + v)) 0 6 = 0 then 0 else 1) k = Sm (fun j => if D (i + 1 + j) 0 6 = 0 then 0 else 1) k := Sm_cg (fun j _ => by
        show (if D (i + (1 + j)) 0 6 = 0 then 0 else 1) = if D (i + 1 + j) 0 6 = 0 then 0 else 1
        rw [show i + (1 + j) = i + 1 + j by omega])
      have e3 : Sm (fun j => if D (i + j) 0 6 = 0 then 0 else 1) 1 = if D i 0 6 = 0 then 0 else 1 := by
        show 0 + (if D (i + 0) 0 6 = 0 then 0 else 1) = _
        rw [Nat.zero_add, Nat.add_zero]
      rw [Nat.add_comm k 1, e1, e3]
      exact congrArg (_ + ·) e2
    unfold upS
    rw [e]
    by_cases c : D i 0 6 = 0
    · rw [if_pos c, if_pos c, upS_v k (i + 1)]; omega
    · rw [if_neg c, if_neg c, upS_v k (i + 1)]; omega
theorem sU.pop {nn : Nat} {D : Nat → Nat → Nat → Int32} {M : Nat → Nat → Int32} (hnn : nn ≤ 6) (h : sU nn D M) : uN (M 0 3) < 64 ∧ M 0 3 = nI (uN (M 0 3)) ∧ upS D nn 0 0 = popN (uN (M 0 3)) := by
  have hx : uN (M 0 3) < 2 ^ 6 := Nat.lt_pow_two_of_testBit _ (fun i hi => by
    rw [uN_bt]
    by_cases c : i < 32
    · cases z : bt (M 0 3) i with
      | false => rfl
      | true => have := ((h i c).mp z).1; omega
    · exact b_big (by omega))
  have hx : uN (M 0 3) < 64 := hx
  refine ⟨hx, u_nI (by omega), ?_⟩
  rw [upS_v, Nat.zero_add]
  unfold popN
  have ht := Sm_tail (g := fun i => if (uN (M 0 3)).testBit i = true then 1 else 0) (n := nn) (6 - nn) (fun i h1 h2 => by
    show (if (uN (M 0 3)).testBit i = true then 1 else 0) = 0
    rw [uN_bt, if_neg (fun z => by have := ((h i (by omega)).mp z).1; omega)])
  rw [show nn + (6 - nn) = 6 by omega] at ht
  rw [ht]
  refine Sm_cg (fun i hi => ?_)
  show (if D (0 + i) 0 6 = 0 then 0 else 1) = if (uN (M 0 3)).testBit i = true then 1 else 0
  rw [Nat.zero_add, uN_bt]
  by_cases c : D i 0 6 = 0
  · rw [if_pos c, if_neg (fun z => ((h i (by omega)).mp z).2 c)]
  · rw [if_neg c, if_pos ((h i (by omega)).mpr ⟨hi, c⟩)]
theorem SIM.ct {P : Pm} {R c rc : Nat} {g : Gh} {S : SS} {M : Nat → Nat → Int32} {x : Int32} (hnn : P.nn ≤ 6) (hv : SVT P R c g rc S) (h : SIM P g S M) : cntV P.nn S.1 S.2.2.2.1 x = rcnV M x (nI (popN (uN (M 0 3)))) := by
  obtain ⟨he, ha⟩ := hv.1.1.gi.as
  have hh := ha.h1
  have hs := ha.se
  obtain ⟨⟨a1, a2, a3, a4⟩, hU, ⟨l, t1, t2, t3, t4⟩, _, ⟨u1, u2, _⟩, _, ⟨c1, c2, c3⟩, _⟩ := h
  obtain ⟨_, _, p3⟩ := hU.pop hnn
  unfold cntV rcnV
  rw [p3, ha.bg, hs.2.2, nI_sub (by omega), t2, a1, a2, a3, a4, u1, u2, t3, c1, c2, c3]
theorem allN_hi : ∀ nn, nn < 7 → ∀ n, n < 32 → nn ≤ n → bt (allN nn) n = false := by decide +kernel
theorem SIM.sl {P : Pm} {R c rc : Nat} {g : Gh} {S S' : SS} {M M' : Nat → Nat → Int32} {TK : Int64} {y y' : Int32} (hP : PmO P) (hn0 : 0 < P.nn) (h3 : 3 ≤ P.nn) (hK : RK P) (hC : P.C = nI R) (hR : R ≤ P.nn) (hR1 : 1 ≤ R) (hc : c + 1 < 2 ^ 30) (hv : SVT P R c g rc S) (h : SIM P g S M) (hr : slR P.nn P.gg P.C P.f TK S y S')
    (h2 : y' = nI (g.bg - g.sn) ∧ SMr P.nn (g.bg - g.sn) g.sn M M' ∧ ∃ (M1 : Nat → Nat → Int32) (cc : Nat), JJ g.ops g.sn (g.bg - g.sn) (g.bg - g.sn) M1 ∧ M' 0 20 = nI cc ∧ cc ≤ 48 ∧ SMx cc M1 M') : y = y' ∧ ∃ g', SVT P R (c + 1) g' 0 S' ∧ SIM P g' S' M' := by
  have hnn := hP.nn
  obtain ⟨hy, g', Sf, o1, o2, o3, hv', hL, hct, f14, f13, e11, eq, e43⟩ := hv.sl hP hn0 hK hC hR hc hr
  obtain ⟨hy', ⟨s1, s2, s3, s4, s5, s6, s7, s8, s9, s10, s11, s12, s13, s14⟩, M1, cc, ⟨j1, j2, j3, j4⟩, m20, mcc, ⟨x1, x2, x3, x4⟩⟩ := h2
  obtain ⟨⟨a1, a2, a3, a4⟩, hU, ⟨l, t1, t2, t3, t4⟩, ⟨n0, n1⟩, ⟨u1, u2, u3⟩, _, _, _⟩ := h
  have hsn : g.sn ≤ g.bg := by
    obtain ⟨he, ha⟩ := hv.1.1.gi.as
    have := ha.h1; have := ha.se; omega
  have hbs : g.sn + (g.bg - g.sn) = g.bg := by omega
  rw [hbs] at j1 j3
  have hG' := hv'.1.1.gi.go
  have h512 := hG'.1
  have hT := hG'.tok (Nat.le_refl g'.bg)
  have hNZ : NZ (tsp g'.ops g'.bg) := nz_tsp (fun o ho => hv'.2.1 o ho)
  -- the catalogue
  have hct' := hct
  unfold ctR at hct'
  have hS2 : S'.2 = Sf.2 := by rw [hct']
  have hE : S'.1 = va_up (ctF P.nn P.f (pbE Sf.1) TK Sf.2.2.2.1).1 100 (upd (upd ((ctF P.nn P.f (pbE Sf.1) TK Sf.2.2.2.1).1 100) 9 0) 10 1) := by rw [hct']
  have k4 := (ctF_4 P.nn P.f (pbE Sf.1) TK Sf.2.2.2.1).1
  have p14 : pbE Sf.1 4 14 = Sf.1 4 14 := by unfold pbE; rw [va_up_s, pk_un (by decide), pk_un (by decide)]
  have p13 : pbE Sf.1 4 13 = Sf.1 4 13 := by unfold pbE; rw [va_up_s, pk_un (by decide), pk_un (by decide)]
  have hcat0 := ct_v (E := pbE Sf.1) (K := TK) (D := Sf.2.2.2.1) hP hn0 hC hR hR1 hG' hNZ (by rw [← show S'.2.2.2.1 = Sf.2.2.2.1 by rw [hS2]]; exact hL) (by rw [p14]; exact f14)
  have hEq : ∀ q, ¬ q = 100 → S'.1 q = (ctF P.nn P.f (pbE Sf.1) TK Sf.2.2.2.1).1 q := fun q hq => by rw [hE, va_up_n _ _ hq]
  have hE1 : ∀ x, ¬ x = 9 → ¬ x = 10 → S'.1 100 x = (ctF P.nn P.f (pbE Sf.1) TK Sf.2.2.2.1).1 100 x := fun x a b => by rw [hE, va_up_s, pk_un b, pk_un a]
  have hcat : CAT (tsp g'.ops g'.bg) (efv g'.ops g'.bg) S'.1 := by
    unfold CAT at hcat0 ⊢
    rw [hEq 0 (by decide), hEq 58 (by decide), hEq 59 (by decide), hEq 60 (by decide), hEq 61 (by decide), hEq 62 (by decide), hEq 63 (by decide), hEq 64 (by decide), hE1 7 (by decide) (by decide), hE1 8 (by decide) (by decide)]
    exact hcat0
  have e14 : S'.1 4 14 = allN P.nn := by rw [hEq 4 (by decide), k4, p14]; exact f14
  have e13 : S'.1 4 13 = S.1 4 13 + 1 := by rw [hEq 4 (by decide), k4, p13]; exact f13
  have e9 : S'.1 100 9 = 0 := by rw [hE, va_up_s, pk_un (by decide), pk_us]
  have e10 : S'.1 100 10 = 1 := by rw [hE, va_up_s, pk_us]
  -- the reference
  have fF : mF M1 M' := ⟨fun k k1 _ => x1 k (by omega), x2, x3⟩
  have hRF : RF M' (tsp g'.ops g'.bg) := by rw [o1, o2]; exact j1.mf fF
  obtain ⟨c0, to, q20, q21, qI, ql⟩ := hRF
  obtain ⟨ec, et⟩ := ql.cnt hT qI
  have hcc : cc = c0 := nI_inj (by omega) (by have := qI.1; omega) (m20.symm.trans q20)
  refine ⟨by rw [hy, hy'], g', hv', ⟨⟨by rw [s3, e14], by rw [s4, e13, a2], by rw [s5, e9], by rw [s6, e10]⟩, fun n hn => ?_, ⟨l, t1, by rw [e43]; exact t2, by rw [s1 9 (by omega)]; exact t3, fun y hy => ?_⟩, ⟨?_, fun k hk => ?_⟩, ⟨?_, ?_, ?_, fun v hv => ?_, fun o ho => ?_, fun v hv => absurd hv (Nat.not_lt_zero _)⟩, ⟨g.sn, ?_, ?_, e11, s8, ?_, fun v hv => ?_⟩, ⟨?_, ?_, ?_⟩, Or.inr ⟨e10, e14, hcat, ⟨c0, to, q20, q21, qI, ql⟩, hL⟩⟩⟩
  · rw [s2]
    refine ⟨fun z => ?_, fun z => b_all h3 hnn n z.1⟩
    have hlt : n < P.nn := by
      rcases Nat.lt_or_ge n P.nn with y | y
      · exact y
      · exfalso
        have := allN_hi P.nn (by omega) n (by omega) y
        rw [this] at z; cases z
    exact ⟨hlt, (hL.2.1 n hlt).1⟩
  · rw [eq 5 (by omega), s10]; exact t4 y hy
  · unfold EZn
    rw [eq 6 (by omega), eq 7 (by omega)]; exact n0
  · rw [eq 6 (by omega), eq 7 (by omega), s11, s12]; exact n1 k hk
  · rw [s1 25 (by omega), o2]; exact u1
  · rw [s7, o2, o3, Nat.sub_self]; rfl
  · rw [o3, Nat.add_zero, o1]; exact j1.mf fF
  · rw [o2, o3, Nat.sub_self] at hv; exact absurd hv (Nat.not_lt_zero _)
  · rw [o3, Nat.add_zero] at ho
    rw [x1 34 (by decide), o1]; exact j3 o ho
  · rw [o3]; exact hsn
  · rw [o3]
    obtain ⟨he, ha⟩ := hv.1.1.gi.as
    exact ha.se.2.1
  · rw [s9, o3]
  · rw [o3] at hv
    rw [o1]
    have := j4 v hv
    unfold TDw at this ⊢
    rw [x1 35 (by decide), x1 36 (by decide)]; exact this
  · rw [s13, q20, ec]; exact hcat.2.2.1.symm
  · rw [s14, q21, et]; exact hcat.2.2.2.1.symm
  · rw [x4, hcat.2.2.2.2.1, hcc]
    congr 1
    have e1 : stT M1 c0 = stT M' c0 := by
      rw [stT_v, stT_v, x1 12 (by decide), x1 19 (by decide)]
    rw [e1]
    rw [ec] at ql qI ⊢
    exact ql.str hT qI

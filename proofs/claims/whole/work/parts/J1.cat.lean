/-! the catalogue, exactly -/
/-- what the catalogue says -/
def CAT (T : TS) (r : Int32) (E : Nat → Nat → Int32) : Prop := (∃ K, TK T (E 58 9) (E 59) (E 60) (E 61) (E 62) (E 63) (E 64) K) ∧ (∃ X : Nat → Nat, ∀ k, k < T.cnt → X k < 512 ∧ T.ex (X k) = true ∧ (∃ f, f < 48 ∧ E 0 k = nI f ∧ E 59 f = nI (X k)) ∧ ∀ j, k < j → j < T.cnt → nLj T (X k) (X j)) ∧ E 58 9 = nI T.cnt ∧ E 100 7 = nI T.tot ∧ E 100 8 = nI (Sm (lnS T) 512) ∧ E 64 960 = r
def CLp (T : TS) (X : Nat → Nat) (r : Int32) (i : Nat) (E : Nat → Nat → Int32) (K : Int64) : Prop := TR T (nI T.cnt) (E 59) (E 60) (E 61) (E 62) (E 63) (E 64) K ∧ (∀ f, f < T.cnt → X f < 512 ∧ E 59 f = nI (X f)) ∧ (∀ f, T.cnt ≤ f → f < 48 → E 59 f = -1) ∧ (∀ f, f < i → bq K f = true) ∧ (∀ f, i ≤ f → f < 48 → bq K f = false) ∧ OSr T X (E 0) i ∧ E 100 7 = nI (Sm (fun f => T.sz (X f)) i) ∧ E 100 8 = nI (Sm (fun f => lnS T (X f)) i) ∧ E 58 9 = nI T.cnt ∧ E 64 960 = r
theorem sx_v {E : Nat → Nat → Int32} {u a b c d : Nat → Int32} {i : Nat} : srE (va_up (va_up (va_up (va_up (va_up E 100 u) 60 a) 61 b) 62 c) 64 d) i 0 = srF c b i i (E 0) ∧ srE (va_up (va_up (va_up (va_up (va_up E 100 u) 60 a) 61 b) 62 c) 64 d) i 60 = a ∧ srE (va_up (va_up (va_up (va_up (va_up E 100 u) 60 a) 61 b) 62 c) 64 d) i 61 = b ∧ srE (va_up (va_up (va_up (va_up (va_up E 100 u) 60 a) 61 b) 62 c) 64 d) i 62 = c ∧ srE (va_up (va_up (va_up (va_up (va_up E 100 u) 60 a) 61 b) 62 c) 64 d) i 64 = d ∧ srE (va_up (va_up (va_up (va_up (va_up E 100 u) 60 a) 61 b) 62 c) 64 d) i 100 = u ∧ srE (va_up (va_up (va_up (va_up (va_up E 100 u) 60 a) 61 b) 62 c) 64 d) i 59 = E 59 ∧ srE (va_up (va_up (va_up (va_up (va_up E 100 u) 60 a) 61 b) 62 c) 64 d) i 63 = E 63 ∧ srE (va_up (va_up (va_up (va_up (va_up E 100 u) 60 a) 61 b) 62 c) 64 d) i 58 = E 58 := ⟨rfl, rfl, rfl, rfl, rfl, rfl, rfl, rfl, rfl⟩
/-- the RECORDS stand on the DISK -/
def RcO (T : TS) (g : Nat → Int32) : Prop := ∀ i, i < 512 → T.ex i = true → ∃ v s, v < 512 ∧ T.vr i 19 = nI v ∧ s < 280 ∧ seekF g (nI (tgN i 19 v)) = nI s ∧ g (s * 128 + 1) = nI (tgN i 19 v) ∧ ∀ x, 15 ≤ x → x < 127 → g (s * 128 + x) = recW T i x
theorem ct_step {T : TS} {X : Nat → Nat} {r : Int32} {k i o : Nat} {g : Nat → Int32} {E : Nat → Nat → Int32} {K : Int64} (hT : TOK T o) (ho : o ≤ 512) (hN : NZ T) (hR : RcO T g) (hi : i < T.cnt) (h : CLp T X r i E K) : ∃ E' K', ctS g (k + 1) i E K = ctS g k (i + 1) E' K' ∧ CLp T X r (i + 1) E' K' := by
  obtain ⟨h1, h2, h3, h4, h5, h6, h7, h8, h9, h10⟩ := h
  have hc := hT.c1
  have hi48 : i < 48 := by omega
  obtain ⟨x1, x2⟩ := h2 i hi
  obtain ⟨hex, hfo⟩ := h1.jx hi48 x1 x2
  obtain ⟨v, s, v1, v2, s1, s2, s3, s4⟩ := hR (X i) x1 hex
  have hv9 := h1.r1 (X i) i x1 hi48 x2
  rw [v2] at hv9
  have htg : tgA (E 59) (E 64) (i * 20 + 19) = nI (tgN (X i) 19 v) := tgA_v hi48 (by decide) x2 hv9
  obtain ⟨t1, t2, t3⟩ := tgN_d (i := X i) (p := 19) (v := v) (by decide) v1
  have hklt : tgN (X i) 19 v < 2 ^ 31 := by unfold tgN; omega
  have hsk : fst1 (fun i_1 => decide (g (i_1 * 128 + 1) = tgA (E 59) (E 64) (i * 20 + 19) ∧ ¬ fstB (g (i_1 * 128)) = 0 ∧ fstB (g (i_1 * 128)) = lstB (g (i_1 * 128 + 127)))) 280 0 = nI s := by
    rw [htg]; exact s2
  have hfb : fndI (E 63) (E 64) (g (s * 128 + 1)) = nI (i * 20 + 19) := by
    rw [s3]
    rcases h1.find hklt with ⟨_, z⟩ | ⟨a, a1, a2, a3, a4⟩
    · exact absurd (by rw [hv9, t3]) (z (i * 20 + 19) (Or.inr ⟨by rw [t1]; exact x1, i, hi48, by rw [t1]; exact x2, by rw [t2]⟩))
    · rw [a2]
      rcases a3 with ⟨z, _⟩ | ⟨_, f, f1, f2, f3⟩
      · rw [t1] at z; omega
      · rw [t1] at f2
        have : f = i := h1.inj f1 hi48 x1 f2 x2
        rw [f3, this, t2]
  have hrc : rcF (E 60) (E 61) (E 62) (E 64) K (E 63) g (s * 128) = (upd (E 60) i (g (s * 128 + 15)), upd (E 61) i (g (s * 128 + 16)), va_cpy g (E 62) (s * 128 + 17) (i * 50) 50, va_cpy g (E 64) (s * 128 + 67) (i * 20) 19, K ||| (1 <<< ((nI i).toInt64 &&& 63))) := by
    unfold rcF rcR
    rw [hfb, nI_clamp (by omega), show (i * 20 + 19) / 20 = i by omega, if_pos ⟨nIneg (by omega), by omega, (knB_z K (show i < 64 by omega)).mpr (h5 i (Nat.le_refl _) hi48)⟩]
  have hTR := h1.rrec hi48 x1 x2 s4
  have hset : ∀ f, f < 64 → bq (K ||| ((1 : Int64) <<< ((nI i).toInt64 &&& 63))) f = (bq K f || decide (f = i)) := fun f hf => q_set K (by omega) hf
  generalize hK' : K ||| ((1 : Int64) <<< ((nI i).toInt64 &&& 63)) = K' at hTR hset hrc
  generalize hza : upd (E 60) i (g (s * 128 + 15)) = za at hTR hrc
  generalize hnb : upd (E 61) i (g (s * 128 + 16)) = nb at hTR hrc
  generalize hmc : va_cpy g (E 62) (s * 128 + 17) (i * 50) 50 = mc at hTR hrc
  generalize hvd : va_cpy g (E 64) (s * 128 + 67) (i * 20) 19 = vd at hTR hrc
  have hbi : ∀ f, f < i + 1 → bq K' f = true := fun f hf => by
    rw [hset f (by omega)]
    by_cases e : f = i
    · rw [decide_eq_true e, Bool.or_true]
    · rw [h4 f (by omega), Bool.true_or]
  have hat : ∀ f, f < i + 1 → za f = nI (T.sz (X f)) ∧ nb f = nI (T.nl (X f)) ∧ (∀ b, b < 200 → nby mc (f * 50) b = nmP T (X f) b) ∧ ∀ p, p < 19 → vd (f * 20 + p) = T.vr (X f) p := fun f hf => by
    obtain ⟨y1, y2⟩ := h2 f (by omega)
    obtain ⟨a, b, c, d⟩ := hTR.k1 (X f) f y1 (by omega) y2 (hbi f hf)
    exact ⟨a, b, nby_cg (fun x hx => by rw [Nat.zero_add]; exact c x hx), d⟩
  obtain ⟨w0, w60, w61, w62, w64, w100, w59, w63, w58⟩ := sx_v (E := E) (u := upd (upd (E 100) 7 ((E 100 7) + (za (nI i).toNatClampNeg))) 8 ((E 100 8) + (nI (laidS vd (i * 20) 19 0 0)))) (a := za) (b := nb) (c := mc) (d := vd) (i := i)
  refine ⟨srE (va_up (va_up (va_up (va_up (va_up E 100 (upd (upd (E 100) 7 ((E 100 7) + (za (nI i).toNatClampNeg))) 8 ((E 100 8) + (nI (laidS vd (i * 20) 19 0 0))))) 60 za) 61 nb) 62 mc) 64 vd) i, K', ?_, ?_⟩
  · conv => lhs; unfold ctS
    rw [hsk, if_neg (nIneg (by omega)), bnN_e, nI_clamp (by omega), hrc]
    rfl
  · generalize srE (va_up (va_up (va_up (va_up (va_up E 100 (upd (upd (E 100) 7 ((E 100 7) + (za (nI i).toNatClampNeg))) 8 ((E 100 8) + (nI (laidS vd (i * 20) 19 0 0))))) 60 za) 61 nb) 62 mc) 64 vd) i = E2 at w0 w60 w61 w62 w64 w100 w59 w63 w58 ⊢
    refine ⟨by rw [w59, w60, w61, w62, w63, w64]; exact hTR, fun f hf => by rw [w59]; exact h2 f hf, fun f a b => by rw [w59]; exact h3 f a b, hbi, fun f a b => ?_, ?_, ?_, ?_, by rw [w58]; exact h9, by rw [w64, ← hvd, pk_cpy_out (by omega)]; exact h10⟩
    · rw [hset f (by omega), h5 f (by omega) b, decide_eq_false (by omega), Bool.or_false]
    · rw [w0]
      refine h6.step hi48 (fun f hf => ?_)
      obtain ⟨y1, y2⟩ := h2 f (by omega)
      obtain ⟨yex, _⟩ := h1.jx (by omega) y1 y2
      obtain ⟨_, a2, a3, _⟩ := hat i (by omega)
      obtain ⟨_, b2, b3, _⟩ := hat f (by omega)
      have n1 := hT.n1 (X i) hex
      have n2 := hT.n1 (X f) yex
      have z1 : nzP (nby mc (i * 50)) (T.nl (X i)) := fun b q1 q2 => by rw [a3 b q2]; exact hN (X i) hex b q1 q2
      have z2 : nzP (nby mc (f * 50)) (T.nl (X f)) := fun b q1 q2 => by rw [b3 b q2]; exact hN (X f) yex b q1 q2
      unfold nmC
      rw [a2, b2]
      rcases cmpW_n (f := mc) (g := mc) (p := i * 50) (q := f * 50) n1 n2 z1 z2 with ⟨c1, c2⟩ | ⟨_, c2⟩ | ⟨c1, c2⟩
      · exact Or.inl ⟨c1, c2.cg (fun b hb => (a3 b (by omega)).symm) (fun b hb => (b3 b (by omega)).symm)⟩
      · exfalso
        have : X i = X f := nm_uq hT hN hex yex ⟨c2.1, fun b hb => by rw [← a3 b (by omega), ← b3 b (by have := c2.1; omega)]; exact c2.2 b hb⟩
        rw [← this] at y2
        have := h1.inj (f := i) (g := f) hi48 (by omega) x1 x2 y2
        omega
      · exact Or.inr ⟨c1, c2.cg (fun b hb => (b3 b (by omega)).symm) (fun b hb => (a3 b (by omega)).symm)⟩
    · rw [w100, pk_un (by decide), pk_us, h7, nI_clamp (by omega), (hat i (by omega)).1, nI_add]
      rfl
    · rw [w100, pk_us, h8, laid_ln hT ho (hat i (by omega)).2.2.2, nI_add]
      rfl
theorem ct_loop {T : TS} {X : Nat → Nat} {r : Int32} {o : Nat} {g : Nat → Int32} (hT : TOK T o) (ho : o ≤ 512) (hN : NZ T) (hR : RcO T g) : ∀ (k i : Nat) (E : Nat → Nat → Int32) (K : Int64), i + k = T.cnt → CLp T X r i E K → CLp T X r T.cnt (ctS g k i E K).1 (ctS g k i E K).2
  | 0, i, E, K, hi, h => by
    have : i = T.cnt := by omega
    rw [← this]; exact h
  | k + 1, i, E, K, hi, h => by
    obtain ⟨E', K', e, h'⟩ := ct_step (k := k) hT ho hN hR (by omega) h
    rw [e]
    exact ct_loop hT ho hN hR k (i + 1) E' K' (by omega) h'
theorem CLp.cat {T : TS} {X : Nat → Nat} {r : Int32} {o : Nat} {E : Nat → Nat → Int32} {K : Int64} (hT : TOK T o) (ho : o ≤ 512) (h : CLp T X r T.cnt E K) : CAT T r E := by
  obtain ⟨h1, h2, h3, h4, h5, h6, h7, h8, h9, h10⟩ := h
  have hc := hT.c1
  have hbij : ∀ F : Nat → Nat, (∀ i, T.ex i = false → F i = 0) → Sm (fun f => F (X f)) T.cnt = Sm F 512 := fun F hF => by
    refine Sm_bij (jf := E 59) (by decide) (fun f hf => Or.inr ⟨X f, (h2 f hf).1, (h2 f hf).2, rfl⟩) (fun i hi => ?_) (fun f f' i q1 q2 q3 e1 e2 => h1.inj (by omega) (by omega) q3 e1 e2)
    cases e : T.ex i with
    | false => exact Or.inl (hF i e)
    | true =>
      obtain ⟨f, f1, _, f3⟩ := h1.fx hi e
      refine Or.inr ⟨f, ?_, f3⟩
      rcases Nat.lt_or_ge f T.cnt with z | z
      · exact z
      · rw [h3 f z f1] at f3; exact absurd f3.symm (nIneg (by omega))
  refine ⟨⟨K, by rw [h9]; exact h1, fun f hf hj => ?_⟩, ?_, h9, ?_, ?_, h10⟩
  · refine h4 f ?_
    rcases Nat.lt_or_ge f T.cnt with z | z
    · exact z
    · exact absurd (h3 f z hf) hj
  · refine ⟨fun k => X (E 0 k).toNatClampNeg, fun k hk => ?_⟩
    obtain ⟨f, f1, f2⟩ := h6.1 k hk
    have ef : (E 0 k).toNatClampNeg = f := by rw [f2, nI_clamp (by omega)]
    obtain ⟨y1, y2⟩ := h2 f f1
    refine ⟨(by show X (E 0 k).toNatClampNeg < 512; rw [ef]; exact y1), (by show T.ex (X (E 0 k).toNatClampNeg) = true; rw [ef]; exact (h1.jx (by omega) y1 y2).1), ⟨f, by omega, f2, (by show E 59 f = nI (X (E 0 k).toNatClampNeg); rw [ef]; exact y2)⟩, fun j hkj hj => ?_⟩
    obtain ⟨f', g1, g2⟩ := h6.1 j hj
    have eg : (E 0 j).toNatClampNeg = f' := by rw [g2, nI_clamp (by omega)]
    show nLj T (X (E 0 k).toNatClampNeg) (X (E 0 j).toNatClampNeg)
    rw [ef, eg]
    exact h6.2.2 k j f f' hkj hj f1 g1 f2 g2
  · rw [h7, hbij T.sz (fun i hi => (hT.e2 i hi).1)]; rfl
  · rw [h8, hbij (lnS T) (fun i hi => Sm_z (fun s _ => if_pos ((hT.e2 i hi).2 s)))]
theorem gm_1st {f : Nat → Int32} {R nn : Nat} (hf : Rg nn f) (hnn : nn ≤ 6) (hR : R ≤ nn) (hR1 : 1 ≤ R) {x v : Nat} (hv : v < nn) (ev : f (x * nn) = nI v) : bt (gm nn (nI R) f (allN nn) x) v = true := by
  unfold gm mof2
  have hm := mof_all hf hnn hR nn (x * nn) 0 0 (by omega) (by omega)
  rw [nI_0] at hm
  rw [if_pos hm]
  obtain ⟨n, rfl⟩ : ∃ n, nn = n + 1 := ⟨nn - 1, by omega⟩
  unfold mof
  rw [if_neg (fun z => by rw [← nI_0] at z; have := (nI_leI (a := R) (b := 0) (by omega) (by omega)).mp z; omega), ev, if_neg (allN_tst (n + 1) (by omega) v hv)]
  refine mof_bt hf hnn (by omega) n _ _ _ ?_
  rw [bt_set _ (by omega) (by omega), decide_eq_true rfl, Bool.or_true]
theorem CLM.du {P : Pm} {g : Gh} {D : Nat → Nat → Nat → Int32} {n : Nat} (h : CLM P g D) (hn : n < P.nn) : DUD (Bg P g) (D n) := (h.2.1 n hn).2.2
theorem CLM.z {P : Pm} {g : Gh} {D : Nat → Nat → Nat → Int32} {n : Nat} (h : CLM P g D) (hn : n < P.nn) : D n 1 4 = 0 := (h.2.1 n hn).2.1
/-- which COPIES stand on a DISK -/
theorem CLM.cp {P : Pm} {g : Gh} {D : Nat → Nat → Nat → Int32} {n k : Nat} (h : CLM P g D) (hn : n < P.nn) (hk : k < 5243392) : (∃ s, Cps (D n 2) s k) ↔ isIt (tsp g.ops g.bg) (efv g.ops g.bg) k ∧ bt (gm P.nn P.C P.f (allN P.nn) (gr P.gg k)) n = true := by
  rw [← clm_stb (h.du hn) (h.z hn) (by omega)]
  exact h.2.2 n hn k hk
theorem CLM.sl {P : Pm} {g : Gh} {D : Nat → Nat → Nat → Int32} {n s : Nat} (h : CLM P g D) (hn : n < P.nn) (hs : s < 280) (hw : whB (D n 2) s) : ∃ k, k < 5243392 ∧ Cps (D n 2) s k ∧ isIt (tsp g.ops g.bg) (efv g.ops g.bg) k ∧ bt (gm P.nn P.C P.f (allN P.nn) (gr P.gg k)) n = true ∧ ctW g.ops k (fun x => D n 2 (s * 128 + x)) := by
  rcases clm_slot (h.du hn) (h.z hn) hs with ⟨_, b, _⟩ | ⟨_, _, _, _, hB⟩
  · exact absurd hw b
  · obtain ⟨⟨k, k1, k2, _, _, _, k6⟩, _⟩ := hB
    have hc : Cps (D n 2) s k := ⟨hs, hw, k2⟩
    obtain ⟨a, b⟩ := (h.cp hn k1).mp ⟨s, hc⟩
    exact ⟨k, k1, hc, a, b, k6⟩
theorem CLM.ct {P : Pm} {g : Gh} {D : Nat → Nat → Nat → Int32} {n s k : Nat} (h : CLM P g D) (hn : n < P.nn) (hk : k < 5243392) (hc : Cps (D n 2) s k) : ctW g.ops k (fun x => D n 2 (s * 128 + x)) := by
  obtain ⟨k', k1, c2, _, _, c5⟩ := h.sl hn hc.1 hc.2.1
  have : k = k' := nI_inj (by omega) (by omega) (hc.2.2.symm.trans c2.2.2)
  rw [this]; exact c5
theorem CLM.rec {P : Pm} {g : Gh} {D : Nat → Nat → Nat → Int32} {n : Nat} (hG : GO g) (h : CLM P g D) (hn : n < P.nn) (hb : bt (gm P.nn P.C P.f (allN P.nn) 0) n = true) : RcO (tsp g.ops g.bg) (D n 2) := fun i hi hx => by
  have h5 := hG.1
  have hT := hG.tok (Nat.le_refl g.bg)
  obtain ⟨v, v1, v2⟩ := hT.r1 i hx
  obtain ⟨t1, t2, t3⟩ := tgN_d (i := i) (p := 19) (v := v) (by decide) (by omega)
  have hk : tgN i 19 v < 5243392 := by unfold tgN; omega
  have hgr : gr P.gg (tgN i 19 v) = 0 := by unfold gr; rw [if_pos (Or.inr t2)]
  obtain ⟨s, hs⟩ := (h.cp hn hk).mpr ⟨Or.inr ⟨by rw [t1]; exact hi, by rw [t1]; exact hx, by rw [t1, t2, t3]; exact v2⟩, by rw [hgr]; exact hb⟩
  refine ⟨v, s, by omega, v2, hs.1, seek_yes (h.du hn) (h.z hn) hs, hs.2.2, fun x x1 x2 => ?_⟩
  have := (h.ct hn hk hs).2.1 (by rw [t1]; omega) t2 x (by omega) x2
  rw [t1, t3] at this
  obtain ⟨_, _, _, _, s5, _⟩ := (hG.stb (Nat.le_refl g.bg)).s i 19 v (by decide) (by omega) v2
  rw [s5 rfl x]; exact this
theorem rrJ_out {wf jf : Nat → Int32} {p : Nat} : ∀ (k f : Nat), k ≤ f → rrJ wf p jf k f = jf f
  | 0, _, _ => rfl
  | k + 1, f, h => by
    show upd (rrJ wf p jf k) k _ f = _
    rw [pk_un (by omega), rrJ_out k f (by omega)]
theorem ct_v {P : Pm} {R : Nat} {g : Gh} {E : Nat → Nat → Int32} {K : Int64} {D : Nat → Nat → Nat → Int32} (hP : PmO P) (hn0 : 0 < P.nn) (hC : P.C = nI R) (hR : R ≤ P.nn) (hR1 : 1 ≤ R) (hG : GO g) (hN : NZ (tsp g.ops g.bg)) (h : CLM P g D) (he : E 4 14 = allN P.nn) : CAT (tsp g.ops g.bg) (efv g.ops g.bg) (ctF P.nn P.f E K D).1 := by
  have h5 := hG.1
  have hT := hG.tok (Nat.le_refl g.bg)
  obtain ⟨p, p1, p2, p3⟩ := nof_all hP.f hn0 hP.nn
  have hb : bt (gm P.nn P.C P.f (allN P.nn) 0) p = true := by
    rw [hC]
    exact gm_1st hP.f hP.nn hR hR1 p1 (by rw [Nat.zero_mul]; exact p2)
  have hRc := h.rec hG p1 hb
  unfold ctF
  rw [he, p3, if_pos (by rw [← nI_0]; exact (nI_leI (by decide) (by have := hP.nn; omega)).mpr (Nat.zero_le _)), bnN_e, nI_clamp (by have := hP.nn; omega)]
  rcases efv_or g.ops g.bg with z | ⟨v, v1, v2, v3, v4⟩
  · -- no ROOT
    have hno : skR (D p 2) 280 0 (-1) = -1 := skR_no 280 0 (fun j _ j2 jw t t1 t2 t3 => by
      obtain ⟨k, k1, k2, k3, _⟩ := h.sl p1 (by omega) jw
      have : k = t := nI_inj (by omega) t1 (k2.2.2.symm.trans t2)
      subst this
      rcases k3 with ⟨_, q⟩ | ⟨q, _⟩
      · rw [z] at q; exact nIneg (by omega) q.symm
      · omega)
    have hT0 : tsp g.ops 0 = tsp g.ops g.bg := (same_root (by decide) h5 (by rw [z]; rfl)).1
    have hex : ∀ i, (tsp g.ops g.bg).ex i = false := fun i => by rw [← hT0]; rfl
    have hcnt : (tsp g.ops g.bg).cnt = 0 := Sm_z (fun i _ => by rw [hex i]; rfl)
    rw [if_pos hno]
    have h0 : CLp (tsp g.ops g.bg) (fun _ => 0) (efv g.ops g.bg) 0 (va_up (va_up (va_up (va_up (va_up (va_up (va_up E 100 (upd (upd (E 100) 7 0) 8 0)) 58 (upd (upd (E 58) 9 0) 10 0)) 59 (ax_fill (E 59) 0 48 (-1))) 60 (ax_fill (E 60) 0 48 0)) 63 (ax_fill (E 63) 0 512 (-1))) 64 (ax_fill (E 64) 0 961 (-1))) 65 (ax_fill (E 65) 0 961 0)) 0 := by
      refine ⟨⟨fun i hi => Or.inl ⟨hex i, ax_fill_in _ _ (Nat.zero_le _) hi⟩, fun f hf => Or.inl ⟨ax_fill_in _ _ (Nat.zero_le _) hf, ax_fill_in _ _ (Nat.zero_le _) hf, q_0 f, fun q hq => ax_fill_in _ _ (Nat.zero_le _) (by omega)⟩, rfl, fun i f _ hf e => ?_, fun i f _ hf e => ?_, fun i f _ hf e => ?_, fun f _ _ => q_0 f⟩, fun f hf => by omega, fun f _ hf => ax_fill_in _ _ (Nat.zero_le _) hf, fun f hf => by omega, fun f _ _ => q_0 f, ⟨fun k hk => by omega, fun k hk => by omega, fun a b f g _ hb => by omega⟩, rfl, rfl, (by rw [hcnt]; rfl), (by rw [z]; exact ax_fill_in (E 64) (a := 0) (b := 961) (j := 960) (-1) (by decide) (by decide))⟩
      all_goals
        have e2 : ax_fill (E 59) 0 48 (-1) f = nI i := e
        rw [ax_fill_in _ _ (Nat.zero_le _) hf] at e2
        exact absurd e2.symm (nIneg (by omega))
    have := ct_loop hT h5 hN hRc 0 0 _ 0 (by rw [hcnt]) h0
    exact this.cat hT h5
  · -- the ROOT
    have hk : rtg v < 5243392 := by unfold rtg tgN; omega
    obtain ⟨t1, t2, t3⟩ := tgN_d (i := 512) (p := 0) (v := v) (by decide) (by omega)
    have t1 : rtg v / 10240 = 512 := t1
    have t3 : rtg v % 512 = v := t3
    have hgr : gr P.gg (rtg v) = 0 := by unfold gr; rw [if_pos (Or.inl t1)]
    obtain ⟨s, hs⟩ := (h.cp p1 hk).mpr ⟨Or.inl ⟨t1, by rw [v2, t3]⟩, by rw [hgr]; exact hb⟩
    have hsk : skR (D p 2) 280 0 (-1) = nI s := skR_one ⟨rtg v, by omega, hs.2.2, t1⟩ hs.2.1 280 0 (-1) (fun j _ j2 jw t q1 q2 q3 => by
      obtain ⟨k, k1, k2, k3, _⟩ := h.sl p1 (by omega) jw
      have : k = t := nI_inj (by omega) q1 (k2.2.2.symm.trans q2)
      subst this
      have hkv : k = rtg v := by
        rcases k3 with ⟨_, q⟩ | ⟨q, _⟩
        · rw [v2] at q
          have := nI_inj (by omega) (by omega) q
          unfold rtg tgN; omega
        · omega
      rw [hkv] at k2
      exact clm_uq (h.du p1) (h.z p1) k2 hs) (Or.inl ⟨rfl, Nat.zero_le _, by have := hs.1; omega⟩)
    have hs280 := hs.1
    have hroot : ∀ x, 2 ≤ x → x < 127 → D p 2 (s * 128 + x) = rootW (tsp g.ops g.bg) (efA g.ops (v + 1)) x := fun x x1 x2 => by
      have := (h.ct p1 hk hs).1 t1 x x1 x2
      rw [t3, v4] at this
      exact this
    obtain ⟨_, c2, c3, _⟩ := rootW_v (T := tsp g.ops g.bg) (a := efA g.ops (v + 1)) hT.c1
    have hcf : (clI (D p 2 (s * 128 + 15)) 0 48).toNatClampNeg = (tsp g.ops g.bg).cnt := clI_c (by rw [hroot 15 (by omega) (by omega), c2]) hT.c1
    rw [hsk, if_neg (nIneg (by omega)), bnN_e, nI_clamp (by omega), bnN_e, hcf]
    obtain ⟨l1, l2⟩ := TR.load (T := tsp g.ops g.bg) (a := efA g.ops (v + 1)) (b := D p 2) (jf := ax_fill (E 59) 0 48 (-1)) (zf := ax_fill (E 60) 0 48 0) (nf := E 61) (mf := E 62) (fo := ax_fill (E 63) 0 512 (-1)) (vf := ax_fill (E 64) 0 961 (-1)) (y := (D p 2 (s * 128 + 1)) - (D p 2 (s * 128 + 1)) / 512 * 512) (q := s * 128) hT.c1 (fun i hi => by have := hT.e1 i hi; omega) (fun x x1 x2 => hroot x (by omega) x2)
    have hc48 := hT.c1
    have hout : ∀ f, (tsp g.ops g.bg).cnt ≤ f → f < 48 → rrJ (D p 2) (s * 128) (ax_fill (ax_fill (E 59) 0 48 (-1)) 0 48 (-1)) (tsp g.ops g.bg).cnt f = -1 := fun f f1 f2 => by
      rw [rrJ_out _ _ f1, ax_fill_in _ _ (Nat.zero_le _) f2]
    have hin : ∀ f, f < (tsp g.ops g.bg).cnt → ∃ i, i < 512 ∧ rrJ (D p 2) (s * 128) (ax_fill (ax_fill (E 59) 0 48 (-1)) 0 48 (-1)) (tsp g.ops g.bg).cnt f = nI i := fun f hf => by
      rcases l1.b2 f (by omega) with ⟨q, _⟩ | ⟨i, i1, i2, _⟩
      · exfalso
        have hS := l1.cnt
        have e48 : (tsp g.ops g.bg).cnt + (48 - (tsp g.ops g.bg).cnt) = 48 := by omega
        have hS2 : Sm (fun f => if rrJ (D p 2) (s * 128) (ax_fill (ax_fill (E 59) 0 48 (-1)) 0 48 (-1)) (tsp g.ops g.bg).cnt f = -1 then 0 else 1) ((tsp g.ops g.bg).cnt + (48 - (tsp g.ops g.bg).cnt)) = (tsp g.ops g.bg).cnt := by
          rw [e48]; exact hS
        rw [Sm_tail (48 - (tsp g.ops g.bg).cnt) (fun i a b => if_pos (hout i a (by omega)))] at hS2
        have hone : Sm (fun _ => 1) (tsp g.ops g.bg).cnt = (tsp g.ops g.bg).cnt := by
          have : ∀ n, Sm (fun _ => 1) n = n := fun n => by
            induction n with
            | zero => rfl
            | succ n ih => show Sm (fun _ => 1) n + 1 = n + 1; rw [ih]
          exact this _
        have := Sm_eq (h := fun _ => 1) (fun i _ => by
          show (if _ = -1 then 0 else 1) ≤ 1
          split <;> omega) (hS2.trans hone.symm) f hf
        have this : (if rrJ (D p 2) (s * 128) (ax_fill (ax_fill (E 59) 0 48 (-1)) 0 48 (-1)) (tsp g.ops g.bg).cnt f = -1 then 0 else 1) = 1 := this
        rw [if_pos q] at this
        cases this
      · exact ⟨i, i1, i2⟩
    have hcN : cN (rrJ (D p 2) (s * 128) (ax_fill (ax_fill (E 59) 0 48 (-1)) 0 48 (-1)) (tsp g.ops g.bg).cnt) 48 = (tsp g.ops g.bg).cnt := by
      have := cN_split (jf := rrJ (D p 2) (s * 128) (ax_fill (ax_fill (E 59) 0 48 (-1)) 0 48 (-1)) (tsp g.ops g.bg).cnt) (c := (tsp g.ops g.bg).cnt) (48 - (tsp g.ops g.bg).cnt) (fun f hf => by
        obtain ⟨i, i1, i2⟩ := hin f hf
        rw [i2]; exact nI_pos (by omega)) (fun f a b => by rw [hout f a (by omega)]; decide)
      rw [show (tsp g.ops g.bg).cnt + (48 - (tsp g.ops g.bg).cnt) = 48 by omega] at this
      exact this
    rw [hcN]
    refine (ct_loop (X := fun f => (rrJ (D p 2) (s * 128) (ax_fill (ax_fill (E 59) 0 48 (-1)) 0 48 (-1)) (tsp g.ops g.bg).cnt f).toNatClampNeg) hT h5 hN hRc _ 0 _ 0 (Nat.zero_add _) ?_).cat hT h5
    refine ⟨l1, fun f hf => ?_, hout, fun f hf => by omega, fun f _ _ => q_0 f, ⟨fun k hk => by omega, fun k hk => by omega, fun a b f g _ hb => by omega⟩, rfl, rfl, rfl, (by rw [v2]; refine l2.trans ?_; rw [hs.2.2, ver_t (by omega), t3])⟩
    obtain ⟨i, i1, i2⟩ := hin f hf
    refine ⟨?_, ?_⟩
    · show (rrJ (D p 2) (s * 128) (ax_fill (ax_fill (E 59) 0 48 (-1)) 0 48 (-1)) (tsp g.ops g.bg).cnt f).toNatClampNeg < 512
      rw [i2, nI_clamp (by omega)]; exact i1
    · show rrJ (D p 2) (s * 128) (ax_fill (ax_fill (E 59) 0 48 (-1)) 0 48 (-1)) (tsp g.ops g.bg).cnt f = nI (rrJ (D p 2) (s * 128) (ax_fill (ax_fill (E 59) 0 48 (-1)) 0 48 (-1)) (tsp g.ops g.bg).cnt f).toNatClampNeg
      rw [i2, nI_clamp (by omega)]

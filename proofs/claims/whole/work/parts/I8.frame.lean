/-! what a MESSAGE, a TICK and settle leave alone in the store's own cells -/
def EK (E E' : Nat → Nat → Int32) : Prop := (∀ q, ¬ q = 4 → ¬ q = 9 → E' q = E q) ∧ ∀ x, x = 3 ∨ x = 8 ∨ x = 10 ∨ x = 11 ∨ x = 13 ∨ x = 14 → E' 4 x = E 4 x
theorem EK.rf (E : Nat → Nat → Int32) : EK E E := ⟨fun _ _ _ => rfl, fun _ _ => rfl⟩
theorem EK.tr {a b c : Nat → Nat → Int32} (h1 : EK a b) (h2 : EK b c) : EK a c := ⟨fun q h4 h9 => (h2.1 q h4 h9).trans (h1.1 q h4 h9), fun x hx => (h2.2 x hx).trans (h1.2 x hx)⟩
theorem EK.nod {s : St} {j : Nat} {S S' : SS} (hr : nodR s j S S') : EK S.1 S'.1 := by
  obtain ⟨_, _, z⟩ := hr
  rw [z]; exact EK.rf _
theorem EK.hea {E : Nat → Nat → Int32} {k0 v : Int32} {he : Nat} : EK E (heE E k0 he v) := by
  unfold heE
  refine ⟨fun q h4 h9 => by rw [va_up_n _ _ h9, va_up_n _ _ h4], fun x hx => ?_⟩
  rw [va_up_n _ _ (by decide), va_up_s]
  have h1 : x ≠ 9 := by omega
  have h2 : x ≠ 12 := by omega
  split
  · rw [pk_un h1]
  · rw [pk_un h2, pk_un h1]
theorem EK.ho {nn gg : Nat} {C : Int32} {f : Nat → Int32} {x : Mg} {S S' : SS} (hr : hoR nn gg C f x S S') : EK S.1 S'.1 := by
  rcases hr with ⟨_, z⟩ | ⟨j, _, _, _, z⟩ | ⟨_, _, z⟩
  · rcases z with ⟨_, z⟩ | ⟨_, _, z⟩ | ⟨_, _, ms', z, _⟩
    · rw [z]
      refine ⟨fun q h4 _ => va_up_n _ _ h4, fun x hx => ?_⟩
      show va_up S.1 4 (upd (S.1 4) 15 _) 4 x = _
      rw [va_up_s, pk_un (by omega)]
    · rw [z]; exact EK.rf _
    · rw [z]; exact EK.hea
  · exact EK.nod z
  · rw [z]; exact EK.rf _
theorem EK.tm {x : Mg} {S S' : SS} (hr : tkM x S S') : EK S.1 S'.1 := by
  obtain ⟨_, _, z⟩ := hr
  rw [z]; exact EK.rf _
theorem EK.th {nn gg : Nat} {C : Int32} {f : Nat → Int32} {S S' : SS} (hr : thR nn gg C f S S') : EK S.1 S'.1 := by
  obtain ⟨x, S1, r1, r2⟩ := hr
  exact (EK.tm r1.tkM).tr (EK.ho r2)
theorem EK.mv {nn gg : Nat} {C : Int32} {f : Nat → Int32} {S S' : SS} (hr : mvR nn gg C f S S') : EK S.1 S'.1 := by
  rcases hr with ⟨x, S1, r1, r2⟩ | ⟨x, _, r⟩
  · rcases r2 with r | r
    · rw [r]; exact EK.tm r1
    · exact (EK.tm r1).tr (EK.ho r)
  · exact EK.ho r
theorem EK.it {R : SS → SS → Prop} (h : ∀ S S', R S S' → EK S.1 S'.1) : ∀ (k : Nat) {S S' : SS}, itR R k S S' → EK S.1 S'.1
  | 0, S, S', hr => by
    have hr : S' = S := hr
    rw [hr]; exact EK.rf _
  | k + 1, S, S', hr => by
    obtain ⟨S1, a, b⟩ := hr
    exact (EK.it h k a).tr (h S1 S' b)
theorem EK.nw {nn gg : Nat} {C : Int32} {f u b : Nat → Int32} : ∀ (k i : Nat) {S S' : SS}, nwR nn gg C f u b k i S S' → EK S.1 S'.1
  | 0, i, S, S', hr => by
    have hr : S' = S := hr
    rw [hr]; exact EK.rf _
  | k + 1, i, S, S', hr => by
    rcases hr with ⟨_, r⟩ | ⟨_, S1, r1, r2⟩
    · exact EK.nw k (i + 1) r
    · exact (EK.nod r1).tr (EK.nw k (i + 1) r2)
theorem EK.tk {nn gg : Nat} {C : Int32} {f : Nat → Int32} {S S' : SS} (hr : tkR nn gg C f S S') : EK S.1 S'.1 := by
  obtain ⟨u, b, ms1, ms2, _, _, r⟩ := hr
  have := EK.nw nn 0 r
  exact this
theorem EK.dr {nn gg : Nat} {C : Int32} {f : Nat → Int32} {S S' : SS} (hr : drR nn gg C f S S') : EK S.1 S'.1 := by
  obtain ⟨k, _, r, _⟩ := hr
  exact EK.it (fun _ _ => EK.th) k r
theorem EK.stl {nn gg : Nat} {C : Int32} {f : Nat → Int32} : ∀ (k t : Nat) {S S' : SS}, stl nn gg C f k t S S' → EK S.1 S'.1
  | 0, t, S, S', hr => by
    have hr : S' = S := hr
    rw [hr]; exact EK.rf _
  | k + 1, t, S, S', hr => by
    rcases hr with ⟨_, z⟩ | ⟨_, S1, S2, z1, z2, z3⟩
    · rw [z]; exact EK.rf _
    · have h1 : EK S.1 S1.1 := by
        rcases z1 with ⟨_, w⟩ | ⟨_, w⟩
        · rw [w]; exact EK.rf _
        · exact EK.tk w
      exact (h1.tr (EK.dr z2)).tr (EK.stl k (t + 1) z3)
theorem EK.wk {nn gg : Nat} {C : Int32} {f : Nat → Int32} : ∀ (k i : Nat) {S S' : SS}, wkR nn gg C f k i S S' → EK S.1 S'.1
  | 0, i, S, S', hr => by
    have hr : S' = S := hr
    rw [hr]; exact EK.rf _
  | k + 1, i, S, S', hr => by
    rcases hr with ⟨_, r⟩ | ⟨_, u, b, S1, r1, r2⟩
    · exact EK.wk k (i + 1) r
    · exact (EK.nod r1).tr (EK.wk k (i + 1) r2)
/-- readCatalogue leaves the rest alone -/
def ctQ (q : Nat) : Prop := ¬ q = 0 ∧ ¬ q = 58 ∧ ¬ q = 59 ∧ ¬ q = 60 ∧ ¬ q = 61 ∧ ¬ q = 62 ∧ ¬ q = 63 ∧ ¬ q = 64 ∧ ¬ q = 65 ∧ ¬ q = 100
theorem ctS_q {g : Nat → Int32} {q : Nat} (hq : ctQ q) : ∀ (k i : Nat) (E1 : Nat → Nat → Int32) (TK1 : Int64), (ctS g k i E1 TK1).1 q = E1 q
  | 0, _, _, _ => rfl
  | k + 1, i, E1, TK1 => by
    obtain ⟨q0, q58, q59, q60, q61, q62, q63, q64, q65, q100⟩ := hq
    unfold ctS
    split
    · rw [ctS_q ⟨q0, q58, q59, q60, q61, q62, q63, q64, q65, q100⟩ k (i + 1)]
      unfold srE
      rw [va_up_n _ _ q0, va_up_n _ _ q100]
    · rw [bnN_e]
      generalize (fst1 (fun i_1 => decide (g (i_1 * 128 + 1) = tgA (E1 59) (E1 64) (i * 20 + 19) ∧ ¬ fstB (g (i_1 * 128)) = 0 ∧ fstB (g (i_1 * 128)) = lstB (g (i_1 * 128 + 127)))) 280 0).toNatClampNeg = s
      generalize rcF (E1 60) (E1 61) (E1 62) (E1 64) TK1 (E1 63) g (s * 128) = w
      obtain ⟨w1, w2, w3, w4, w5⟩ := w
      show (ctS g k (i + 1) (srE (va_up (va_up (va_up (va_up (va_up E1 100 (upd (upd (E1 100) 7 ((E1 100 7) + (w1 (nI i).toNatClampNeg))) 8 ((E1 100 8) + (nI (laidS w4 (i * 20) 19 0 0))))) 60 w1) 61 w2) 62 w3) 64 w4) i) w5).1 q = E1 q
      rw [ctS_q ⟨q0, q58, q59, q60, q61, q62, q63, q64, q65, q100⟩ k (i + 1)]
      unfold srE
      rw [va_up_n _ _ q0, va_up_n _ _ q64, va_up_n _ _ q62, va_up_n _ _ q61, va_up_n _ _ q60, va_up_n _ _ q100]
theorem ctF_q {q : Nat} (hq : ctQ q) (nn : Nat) (f : Nat → Int32) (E : Nat → Nat → Int32) (TK : Int64) (D : Nat → Nat → Nat → Int32) : (ctF nn f E TK D).1 q = E q := by
  have hq0 := hq
  obtain ⟨q0, q58, q59, q60, q61, q62, q63, q64, q65, q100⟩ := hq
  unfold ctF
  split
  · rw [bnN_e]
    split
    · rw [ctS_q hq0, va_up_n _ _ q65, va_up_n _ _ q64, va_up_n _ _ q63, va_up_n _ _ q60, va_up_n _ _ q59, va_up_n _ _ q58, va_up_n _ _ q100]
    · rw [bnN_e, bnN_e, ctS_q hq0, va_up_n _ _ q65, va_up_n _ _ q64, va_up_n _ _ q63, va_up_n _ _ q60, va_up_n _ _ q59, va_up_n _ _ q58, va_up_n _ _ q100]
  · show (va_up (va_up (va_up (va_up (va_up (va_up (va_up E 100 (upd (upd (E 100) 7 0) 8 0)) 58 (upd (upd (E 58) 9 0) 10 0)) 59 (ax_fill (E 59) 0 48 (-1))) 60 (ax_fill (E 60) 0 48 0)) 63 (ax_fill (E 63) 0 512 (-1))) 64 (ax_fill (E 64) 0 961 (-1))) 65 (ax_fill (E 65) 0 961 0)) q = _
    rw [va_up_n _ _ q65, va_up_n _ _ q64, va_up_n _ _ q63, va_up_n _ _ q60, va_up_n _ _ q59, va_up_n _ _ q58, va_up_n _ _ q100]
/-! settle, with the ANSWERS, and what is true where all is CALM -/
def CLM (P : Pm) (g : Gh) (D : Nat → Nat → Nat → Int32) : Prop := g.sn = g.bg ∧ (∀ n, n < P.nn → ¬ D n 0 6 = 0 ∧ D n 1 4 = 0 ∧ DUD (Bg P g) (D n)) ∧ ∀ n, n < P.nn → ∀ k, k < 5243392 → (stb (D n) (nI k) ↔ isIt (tsp g.ops g.bg) (efv g.ops g.bg) k ∧ bt (gm P.nn P.C P.f (allN P.nn) (gr P.gg k)) n = true)
theorem dead_no {P : Pm} {g : Gh} {k : Nat} (hG : GO g) (hk : k < 5243392) (hd : dead P g k) : ¬ isIt (tsp g.ops g.bg) (efv g.ops g.bg) k := fun hi => by
  have h5 := hG.1
  obtain ⟨r, e, q1, q2, q3, q4⟩ := hd
  obtain ⟨v, v1, v2, v3⟩ := efv_up (efv_s q1.2) (Nat.lt_succ_self r) g.bg q1.1 h5
  have hv : eff g v := ⟨v2, (efv_lt v3 (by omega) h5).2⟩
  have hs := (same_root (ops := g.ops) (r := v + 1) (o := g.bg) (by omega) h5 (by rw [v3]; exact efv_s (efv_lt v3 (by omega) h5).2)).1
  refine isIt_no hG q1 hk q3 q4 v v1 hv ?_
  rw [hs, ← v3]; exact hi
theorem dn_clm {P : Pm} {g : Gh} {l R rc : Nat} {S : SS} (hP : PmO P) (hK : RK P) (hC : P.C = nI R) (hR : R ≤ P.nn) (hl : l < P.nn) (h : SU P g S) (hld : lds P g l g.ep) (h2 : CL2 P g l S) (hE : ER P g rc) (hrc : rc < R) (hset : g.mp g.ep = allN P.nn) (hlt : ∀ n, g.er n < g.ep) (hd : dnP P.nn P.gg P.f S) :
    (∀ n, n < P.nn → S.2.2.2.1 n 1 4 = 0) ∧ ∀ n, n < P.nn → ∀ k, k < 5243392 → (stb (S.2.2.2.1 n) (nI k) ↔ isIt (tsp g.ops g.bg) (efv g.ops g.bg) k ∧ bt (gm P.nn P.C P.f (allN P.nn) (gr P.gg k)) n = true) := by
  have hnn := hP.nn
  have hdn := dn_e hP hl h hld hset hd
  obtain ⟨t1, t2, t3, t4⟩ := dn_r hP hK hC (by omega) hl h hld h2 hE hrc hdn
  obtain ⟨d1, d2, d3, d4, d5, d6, d7, d8⟩ := hdn
  refine ⟨d4, fun n hn k hk => ⟨fun hs => ?_, fun ⟨a, b⟩ => ?_⟩⟩
  · have := t4 n hn k hk hs
    unfold msk at this
    rw [hset] at this
    exact this
  · obtain ⟨s1, s2, s3⟩ := t3 k hk a
    have hb : bt (msk P g g.ep k) n = true := by unfold msk; rw [hset]; exact b
    have hN := h.nu hn
    rcases hN.rp g.ep k (s3 n hn hb) ⟨hk, hlt n⟩ with q | q | ⟨e', q1, q2, q3⟩
    · exact absurd a (dead_no h.1.go hk q)
    · exact q
    · have : e' = g.ep := by
        have := q3.1
        omega
      subst this
      rw [hb] at q2; cases q2
theorem SVT.sl {P : Pm} {R c rc : Nat} {g : Gh} {S S' : SS} {TK : Int64} {y : Int32} (hP : PmO P) (hn0 : 0 < P.nn) (hK : RK P) (hC : P.C = nI R) (hR : R ≤ P.nn) (hc : c + 1 < 2 ^ 30) (h : SVT P R c g rc S) (hr : slR P.nn P.gg P.C P.f TK S y S') :
    y = nI (g.bg - g.sn) ∧ ∃ g' Sf, g'.ops = g.ops ∧ g'.bg = g.bg ∧ g'.sn = g.bg ∧ SVT P R (c + 1) g' 0 S' ∧ CLM P g' S'.2.2.2.1 ∧ ctR P.nn P.f TK Sf S' ∧ Sf.1 4 14 = allN P.nn ∧ Sf.1 4 13 = S.1 4 13 + 1 ∧ S'.1 4 11 = nI g.sn ∧ (∀ q, q = 5 ∨ q = 6 ∨ q = 7 → S'.1 q = S.1 q) ∧ S'.1 4 3 = S.1 4 3 := by
  obtain ⟨Sf, hse, r2⟩ := hr
  have hd := se_end hP hn0 hK hC hR hc h.1 hse
  rcases r2 with ⟨q, _⟩ | ⟨_, hy, hct⟩
  · exact absurd hd q
  obtain ⟨hx, hx0⟩ := h
  obtain ⟨ms2, S1, z1, z2, z3⟩ := hse
  have hep := hx.1.ep
  obtain ⟨a1, a2, l, l1, l2, l3, l4, l5, l6⟩ := se_1 hP hn0 hx.gx (by omega) z1 z2
  obtain ⟨g1, b1, b2, b3, b4⟩ := stl_C hP l1 2001 0 l3 l2 a1.2.1 l4 l5 l6 (fun z => absurd rfl z) z3
  have hT0 : TX P (g.draw (allN P.nn) g.er) (drE (va_up S.1 100 (upd (S.1 100) 10 0)) (allN P.nn), S.2.1, ms2, S.2.2.2) := hx0.draw hP.nn z1 (fun x hx => by rw [drE_w.1 x hx, va_up_n _ _ (by decide)]) (by rw [drE_w.2, va_up_n _ _ (by decide)])
  have h00 : GIX P (g.draw (allN P.nn) g.er) (drE (va_up S.1 100 (upd (S.1 100) 10 0)) (allN P.nn), S.2.1, ms2, S.2.2.2) := ⟨hx.gx.1.map (by omega) (fun x _ => by rw [va_up_n _ _ (by decide)]) z1, hx.gx.2.draw hP.nn z1⟩
  obtain ⟨⟨_, hT1⟩, _⟩ := TGX.wk hP.nn P.nn 0 (by omega) ⟨h00, hT0⟩ z2
  obtain ⟨g3, c1, ⟨c2, hT3⟩, _⟩ := TGX.stl hP 2001 0 ⟨a1, hT1⟩ z3
  have hE1 : ER P (g.draw (allN P.nn) g.er) rc := hx.1.er.draw
  have hE : ER P g1 rc := hE1.gs b1
  have hmp : g1.mp g1.ep = allN P.nn := by
    rw [b1.mp, b1.ep]
    show fup g.mp (g.ep + 1) (allN P.nn) (g.ep + 1) = _
    rw [fup_s]
  have hlt : ∀ n, g1.er n < g1.ep := fun n => by
    rw [b1.er, b1.ep]
    show g.er n < g.ep + 1
    have := hx.1.er.c3 n
    omega
  have hops : g1.ops = g.ops := b1.ops
  have hbg : g1.bg = g.bg := b1.bg
  have hct' := hct
  unfold ctR at hct'
  have k1 := (ctF_4 P.nn P.f (pbE Sf.1) TK Sf.2.2.2.1).1
  have hq' : ∀ q, ¬ q = 100 → S'.1 q = (ctF P.nn P.f (pbE Sf.1) TK Sf.2.2.2.1).1 q := fun q hq => by
    rw [hct']
    show va_up (ctF P.nn P.f (pbE Sf.1) TK Sf.2.2.2.1).1 100 (upd (upd ((ctF P.nn P.f (pbE Sf.1) TK Sf.2.2.2.1).1 100) 9 0) 10 1) q = _
    rw [va_up_n _ _ hq]
  have e4 : S'.1 4 = pbE Sf.1 4 := (hq' 4 (by decide)).trans k1
  have eq : ∀ q, ctQ q → S'.1 q = pbE Sf.1 q := fun q hq => (hq' q hq.2.2.2.2.2.2.2.2.2).trans (ctF_q hq _ _ _ _ _)
  have pq : ∀ q, ¬ q = 4 → pbE Sf.1 q = Sf.1 q := fun q hq => by unfold pbE; rw [va_up_n _ _ hq]
  have p4 : pbE Sf.1 4 = upd (upd (Sf.1 4) 10 (Sf.1 4 8)) 11 (Sf.1 4 10) := by unfold pbE; rw [va_up_s]
  have hfin := dn_fin (S' := S') hP hK hC hR l1 b2 (by rw [lds_gs b1, b1.ep]; exact l2) b3 hE hx.1.lt hmp hlt (c2.2.2.2.hd (Nat.le_of_eq (GI.hde c2.1 b2.1))) hd (by rw [e4, p4, pk_un (by decide), pk_un (by decide)]) (by rw [e4, p4, pk_un (by decide), pk_un (by decide)]) (by rw [e4, p4, pk_un (by decide), pk_us]) (fun x hx => by rw [e4, p4, pk_un (by omega), pk_un (by omega)]) (by rw [hct'])
  have hclm := dn_clm hP hK hC hR l1 b2 (by rw [lds_gs b1, b1.ep]; exact l2) b3 hE hx.1.lt hmp hlt hd
  have h2' : S'.2 = Sf.2 := by rw [hct']
  have hk1 : EK S1.1 Sf.1 := EK.stl 2001 0 z3
  rw [a2] at hk1
  have dE : ∀ x, ¬ x = 13 → ¬ x = 14 → ¬ x = 15 → drE (va_up S.1 100 (upd (S.1 100) 10 0)) (allN P.nn) 4 x = S.1 4 x := fun x h1 h2 h3 => by
    unfold drE
    rw [va_up_s, pk_un h3, pk_un h2, pk_un h1, va_up_n _ _ (by decide)]
  have dq : ∀ q, ¬ q = 4 → ¬ q = 100 → drE (va_up S.1 100 (upd (S.1 100) 10 0)) (allN P.nn) q = S.1 q := fun q h1 h2 => by
    unfold drE
    rw [va_up_n _ _ h1, va_up_n _ _ h2]
  obtain ⟨he, ha⟩ := hx.1.gi.as
  have hG := hx.1.gi.go
  have h512 := hG.1
  have hsn := ha.se
  have hsv : SVX P R (c + 1) g1.fin 0 S' := by
    refine ⟨⟨hfin.1, hfin.2, ?_, by have := hx.1.lt; omega, ?_⟩, ?_, ?_, ?_⟩
    · rw [hct']
      show va_up (ctF P.nn P.f (pbE Sf.1) TK Sf.2.2.2.1).1 100 (upd (upd ((ctF P.nn P.f (pbE Sf.1) TK Sf.2.2.2.1).1 100) 9 0) 10 1) 100 9 = _
      rw [va_up_s, pk_un (by decide), pk_us]; rfl
    · show g1.ep ≤ c + 1
      rw [b1.ep]
      show g.ep + 1 ≤ c + 1
      omega
    · rw [h2', hd.2.2.1]; exact Nat.zero_le _
    · rw [h2', hd.2.2.1]; exact fun x hx => by cases hx
    · intro i hi
      rw [h2']
      refine (c2.2.2.2.hd (g' := g1.fin) ?_) i hi
      rw [GI.hde c2.1 b2.1]
      obtain ⟨he, ha⟩ := b2.1.as
      show g1.hd ≤ g1.bg
      rw [ha.hh]; exact ha.h1.1
  refine ⟨?_, g1.fin, Sf, hops, hbg, hbg, ⟨hsv, ?_⟩, ?_, hct, ?_, ?_, ?_, ?_, ?_⟩
  · rw [hy, ha.bg, hsn.2.2, nI_sub (by have := ha.h1; omega)]
  · -- the ANSWERS
    have hT : TX P g3 Sf := hT3
    have hge : GE g g3 := by
      have q := c1.ge
      exact ⟨q.1, q.2.1, q.2.2⟩
    have hT := hT.ge hge.sy
    refine ⟨fun o ho => ?_, ?_, fun j hj u1 u2 => ?_, ?_⟩
    · show OZ (g1.ops o)
      rw [hops]
      exact hT.1 o (by have ho : o < g1.bg := ho; rw [hbg] at ho; exact ho)
    · rw [h2', hd.2.2.1]; exact fun x hx => by cases hx
    · rw [h2'] at u1 u2 ⊢
      have := hT.2.2.1 j hj u1 u2
      unfold RDl at this ⊢
      show ∀ _, _
      rw [← hops, ← hbg] at this
      exact this
    · obtain ⟨sc, x1, x2, x3, x4, x5⟩ := hT.2.2.2
      have hn : heN S' = heN Sf := by
        unfold heN
        rw [e4, p4, pk_un (by decide), pk_un (by decide)]
      refine ⟨g.sn, ?_, ?_, ?_, fun o ho => ?_, fun o h1 h2 => ?_⟩
      · rw [e4, p4, pk_us, hk1.2 10 (by omega), dE 10 (by decide) (by decide) (by decide), hsn.2.2]
      · show g.sn ≤ g1.bg
        have := ha.h1; omega
      · show g1.bg ≤ g.sn + 12
        rw [hbg]; have := ha.se; omega
      · rw [hn] at ho
        show S'.1 9 o = anS (tsp g1.ops o) o (g1.ops o)
        rw [hops, eq 9 (by unfold ctQ; decide), pq 9 (by decide)]
        exact x4 o ho
      · rw [hn] at h2
        rw [h2']
        show _ = nI (tdL (tsp g1.ops o) (g1.ops o)) ∧ ∀ y, y < tdL (tsp g1.ops o) (g1.ops o) → _ = tdB (tsp g1.ops o) (g1.ops o) y
        rw [hops]
        exact x5 o (by omega) h2
  · refine ⟨rfl, fun n hn => ⟨?_, ?_, ?_⟩, fun n hn k hk => ?_⟩
    · rw [h2']; exact b2.2.1 n hn
    · rw [h2']; exact hclm.1 n hn
    · rcases hsv.1.gi.nd n hn with ⟨q, _⟩ | ⟨_, e, q⟩
      · rw [h2'] at q; exact absurd q (b2.2.1 n hn)
      · exact q.du
    · rw [h2']; exact hclm.2 n hn k hk
  · rw [hk1.2 14 (by omega)]
    unfold drE
    rw [va_up_s, pk_un (by decide), pk_us]
  · rw [hk1.2 13 (by omega)]
    unfold drE
    rw [va_up_s, pk_un (by decide), pk_un (by decide), pk_us, va_up_n _ _ (by decide)]
  · rw [e4, p4, pk_us, hk1.2 10 (by omega), dE 10 (by decide) (by decide) (by decide), hsn.2.2]
  · intro q hq
    rw [eq q (by unfold ctQ; omega), pq q (by omega), hk1.1 q (by omega) (by omega), dq q (by omega) (by omega)]
  · rw [e4, p4, pk_un (by decide), pk_un (by decide), hk1.2 3 (by omega), dE 3 (by decide) (by decide) (by decide)]

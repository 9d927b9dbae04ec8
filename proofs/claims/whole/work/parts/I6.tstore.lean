/-! the ANSWERS, in the whole store -/
def ANx (g : Gh) (S : SS) : Prop := ∃ sc, S.1 4 11 = nI sc ∧ sc ≤ g.sn ∧ g.sn ≤ sc + 12 ∧ (∀ o, o < heN S → S.1 9 o = anS (tsp g.ops o) o (g.ops o)) ∧ ∀ o, sc ≤ o → o < heN S → (S.2.1 (o % 24)).1 6 = nI (tdL (tsp g.ops o) (g.ops o)) ∧ ∀ y, y < tdL (tsp g.ops o) (g.ops o) → uN (bytA (S.2.1 (o % 24)).2 (400 + y)) = tdB (tsp g.ops o) (g.ops o) y
def RDs (P : Pm) (g : Gh) (S : SS) : Prop := ∀ j, j < P.nn → ¬ S.2.2.2.1 j 0 6 = 0 → ¬ ldB P.f P.nn (nI j) (S.2.2.2.1 j 0 8) = 0 → RDl g (S.2.2.2.1 j)
def TX (P : Pm) (g : Gh) (S : SS) : Prop := OZg g ∧ (∀ x ∈ S.2.2.1, TLx g x) ∧ RDs P g S ∧ ANx g S
/-- the same history -/
def GE (g g' : Gh) : Prop := g'.ops = g.ops ∧ g'.bg = g.bg ∧ g'.sn = g.sn
theorem GE.rf (g : Gh) : GE g g := ⟨rfl, rfl, rfl⟩
theorem GE.tr {a b c : Gh} (h1 : GE a b) (h2 : GE b c) : GE a c := ⟨h2.1.trans h1.1, h2.2.1.trans h1.2.1, h2.2.2.trans h1.2.2⟩
theorem GE.sy {a b : Gh} (h : GE a b) : GE b a := ⟨h.1.symm, h.2.1.symm, h.2.2.symm⟩
theorem Gs.ge {g g' : Gh} (h : Gs g g') : GE g g' := ⟨h.ops, h.bg, h.le.sn⟩
theorem TLx.ge {g g' : Gh} {x : Mg} (e : GE g g') (h : TLx g x) : TLx g' x := by
  unfold TLx at h ⊢
  rw [e.1, e.2.1]; exact h
theorem RDl.ge {g g' : Gh} {D : Nat → Nat → Int32} (e : GE g g') (h : RDl g D) : RDl g' D := by
  unfold RDl at h ⊢
  rw [e.1, e.2.1]; exact h
theorem ANx.ge {g g' : Gh} {S : SS} (e : GE g g') (h : ANx g S) : ANx g' S := by
  unfold ANx at h ⊢
  rw [e.1, e.2.2]; exact h
theorem TX.ge {P : Pm} {g g' : Gh} {S : SS} (e : GE g g') (h : TX P g S) : TX P g' S := ⟨fun o ho => by rw [e.1]; exact h.1 o (by rw [e.2.1] at ho; exact ho), fun x hx => (h.2.1 x hx).ge e, fun j a b c => (h.2.2.1 j a b c).ge e, h.2.2.2.ge e⟩
theorem d4_c {c : Nat} (h : c ≤ 2048) : ((nI c + 3) / 4).toNatClampNeg = (c + 3) / 4 := by
  rw [show nI c + 3 = nI (c + 3) from nI_add c 3, show nI (c + 3) / 4 = nI ((c + 3) / 4) from pk_div (d := 4) (by omega) (by omega) (by omega), nI_clamp (by omega)]
theorem td_le {g : Gh} {o : Nat} (hG : GO g) (ho : o < g.bg) : tdL (tsp g.ops o) (g.ops o) ≤ 2048 := by
  cases hd : tdO (tsp g.ops o) (g.ops o) with
  | none => rw [tdL_no hd]; exact Nat.zero_le _
  | some x =>
    have := tdL_le (hG.tok (Nat.le_of_lt ho)) (hG.2 o ho) x hd
    unfold tdL
    rw [hd]; exact this
theorem TLx.sm {g : Gh} {x y : Mg} (hG : GO g) (h : TLx g y) (hs : smM x y) : TLx g x := fun h0 o ho h5 => by
  rw [hs.1] at h0 h5
  obtain ⟨a1, a2, a3⟩ := h h0 o ho h5
  have hle := td_le hG ho
  refine ⟨by rw [hs.1]; exact a1, by rw [hs.1]; exact a2, fun z hz => ?_⟩
  rw [← a3 z hz]
  refine congrArg uN (byt_cg (hs.2 (z / 4) ?_) rfl)
  unfold rlv
  rw [hs.1, if_neg (by rw [h0]; decide), if_pos h0, a2, d4_c hle]
  omega
theorem TX.put {P : Pm} {g : Gh} {S S' : SS} {s : St} {j : Nat} {D' : Nat → Nat → Int32} {K' A' : Int64} {Y' : List Mg} (hG : GO g) (h : TX P g S) (hr : nodR s j S S') (hs : s = (D', K', A', Y')) (hY : TLn g S.2.2.1 Y') (hd : ¬ D' 0 6 = 0 → ¬ ldB P.f P.nn (nI j) (D' 0 8) = 0 → RDl g D') : TX P g S' := by
  obtain ⟨ms', m1, m2⟩ := hr
  subst hs
  subst m2
  refine ⟨h.1, fun x hx => ?_, fun i hi => ?_, h.2.2.2⟩
  · obtain ⟨y, y1, y2⟩ := smL_mem m1 hx
    rcases hY y y1 with q | q
    · exact (h.2.1 y q).sm hG y2
    · exact q.sm hG y2
  · show ¬ va_up S.2.2.2.1 j D' i 0 6 = 0 → ¬ ldB P.f P.nn (nI i) (va_up S.2.2.2.1 j D' i 0 8) = 0 → RDl g (va_up S.2.2.2.1 j D' i)
    by_cases e : i = j
    · subst e
      rw [va_up_s]; exact hd
    · rw [va_up_n _ _ e]; exact h.2.2.1 i hi
theorem ANx.cg {g : Gh} {S S' : SS} (h : ANx g S) (h4 : ∀ x, x = 9 ∨ x = 11 → S'.1 4 x = S.1 4 x) (h9 : S'.1 9 = S.1 9) (hQ : S'.2.1 = S.2.1) : ANx g S' := by
  obtain ⟨sc, a1, a2, a3, a4, a5⟩ := h
  have eh : heN S' = heN S := by unfold heN; rw [h4 9 (Or.inl rfl)]
  exact ⟨sc, by rw [h4 11 (Or.inr rfl)]; exact a1, a2, a3, fun o ho => by rw [h9]; exact a4 o (by omega), fun o h1 h2 => by rw [hQ]; exact a5 o h1 (by omega)⟩
theorem TX.ms {P : Pm} {g : Gh} {S : SS} {E' : Nat → Nat → Int32} {ms' : List Mg} {Z : List Mg} (h : TX P g S) (hs : ms' = psl S.2.2.1 Z) (hZ : ∀ z ∈ Z, TLx g z) (h4 : ∀ x, x = 9 ∨ x = 11 → E' 4 x = S.1 4 x) (h9 : E' 9 = S.1 9) : TX P g (E', S.2.1, ms', S.2.2.2) := by
  refine ⟨h.1, fun x hx => ?_, h.2.2.1, h.2.2.2.cg h4 h9 rfl⟩
  have hx : x ∈ ms' := hx
  rw [hs] at hx
  rcases psl_in Z hx with q | q
  · exact h.2.1 x q
  · exact hZ x q
theorem heE_v {E : Nat → Nat → Int32} {k0 v : Int32} {he : Nat} : heE E k0 he v 4 9 = nI (he + 1) ∧ heE E k0 he v 4 11 = E 4 11 ∧ heE E k0 he v 9 = upd (E 9) he v := by
  unfold heE
  refine ⟨?_, ?_, by rw [va_up_s]⟩
  · rw [va_up_n _ _ (by decide), va_up_s]
    split
    · rw [pk_us]
    · rw [pk_un (by decide), pk_us]
  · rw [va_up_n _ _ (by decide), va_up_s]
    split
    · rw [pk_un (by decide)]
    · rw [pk_un (by decide), pk_un (by decide)]
theorem TX.hand {P : Pm} {g : Gh} {S S' : SS} {x : Mg} (hP : PmO P) (hi : GIX P g S) (h : TX P g S) (hm : ∃ e, MO P g e x) (hs : MS P g x) (ht : TLx g x) (hr : hoR P.nn P.gg P.C P.f x S S') : TX P g S' := by
  have hG := hi.1.go
  rcases hr with ⟨_, z⟩ | ⟨j, j1, j2, j3, j4⟩ | ⟨_, _, z⟩
  · rcases z with ⟨_, z⟩ | ⟨_, _, z⟩ | ⟨_, ⟨z0, z5, z8⟩, ms', z, zr⟩
    · rw [z]
      exact ⟨h.1, h.2.1, h.2.2.1, h.2.2.2.cg (fun x hx => by
        show va_up S.1 4 (upd (S.1 4) 15 _) 4 x = _
        rw [va_up_s, pk_un (by rcases hx with e | e <;> rw [e] <;> decide)]) (show va_up S.1 4 (upd (S.1 4) 15 ((S.1 4 15) ||| ((1 : Int32) <<< (x.1 1 &&& 31)))) 9 = S.1 9 from va_up_n _ _ (by decide)) rfl⟩
    · rw [z]; exact h
    · obtain ⟨he, ha⟩ := hi.1.as
      have h512 := hG.1
      have h1 := ha.h1
      have hse := ha.se
      have e9 : (S.1 4 9).toNatClampNeg = he := by rw [ha.h2, nI_clamp (by omega)]
      have hhe : heN S = he := e9
      have hlt : he < g.bg := by
        rw [ha.h2, ha.bg] at z8
        exact (nI_ltI (by omega) (by omega)).mp z8
      obtain ⟨t1, t2, t3⟩ := ht z0 he hlt (by rw [z5, ha.h2])
      have hle := td_le hG hlt
      obtain ⟨Z, w1, _, w3, _⟩ := ask_z zr
      rw [e9] at z
      rw [z]
      obtain ⟨v1, v2, v3⟩ := heE_v (E := S.1) (k0 := (S.2.1 (he % 24)).1 0) (v := x.1 6) (he := he)
      have hsc := h.2.2.2
      refine ⟨h.1, fun y hy => ?_, h.2.2.1, ?_⟩
      · have hy : y ∈ ms' := hy
        rw [w1] at hy
        rcases psl_in Z hy with q | q
        · exact h.2.1 y q
        · exact TLx.k (by rw [(w3 y q).1]; decide)
      · obtain ⟨sc, a1, a2, a3, a4, a5⟩ := hsc
        have hn : heN (heE S.1 ((S.2.1 (he % 24)).1 0) he (x.1 6), va_up S.2.1 (he % 24) (heQ (S.2.1 (he % 24)) x.1 x.2), ms', S.2.2.2) = he + 1 := by
          show (heE S.1 ((S.2.1 (he % 24)).1 0) he (x.1 6) 4 9).toNatClampNeg = he + 1
          rw [v1, nI_clamp (by omega)]
        refine ⟨sc, by rw [← a1]; exact v2, a2, a3, fun o ho => ?_, fun o ho1 ho2 => ?_⟩
        · rw [hn] at ho
          show heE S.1 ((S.2.1 (he % 24)).1 0) he (x.1 6) 9 o = _
          rw [v3]
          by_cases e : o = he
          · rw [e, pk_us]; exact t1
          · rw [pk_un e]; exact a4 o (by omega)
        · rw [hn] at ho2
          show (va_up S.2.1 (he % 24) (heQ (S.2.1 (he % 24)) x.1 x.2) (o % 24)).1 6 = _ ∧ _
          by_cases e : o = he
          · rw [e, va_up_s]
            refine ⟨?_, fun y hy => ?_⟩
            · show upd (S.2.1 (he % 24)).1 6 (x.1 7) 6 = _
              rw [pk_us]; exact t2
            · show uN (bytA (va_up S.2.1 (he % 24) (heQ (S.2.1 (he % 24)) x.1 x.2) (he % 24)).2 (400 + y)) = _
              rw [va_up_s, ← t3 y hy]
              refine congrArg uN (byt_cg ?_ (by omega))
              show va_cpy x.2 (S.2.1 (he % 24)).2 0 100 (((x.1 7).toNatClampNeg + 3) / 4) ((400 + y) / 4) = x.2 (y / 4)
              rw [t2, nI_clamp (by omega), show (400 + y) / 4 = 100 + y / 4 by omega, pk_cpy_in (by omega) (by omega)]
              refine congrArg _ ?_
              omega
          · have hne : ¬ o % 24 = he % 24 := by omega
            rw [va_up_n _ _ hne]
            show _ ∧ ∀ y, _ → uN (bytA (va_up S.2.1 (he % 24) (heQ (S.2.1 (he % 24)) x.1 x.2) (o % 24)).2 (400 + y)) = _
            rw [va_up_n _ _ hne]
            exact a5 o ho1 (by omega)
  · obtain ⟨e2, hm⟩ := hm
    have hep := hi.1.ep.1
    rcases hi.1.nd j j1 with ⟨y, _⟩ | ⟨_, e, y⟩
    · exact absurd y j3
    · obtain ⟨D', K', A', Y', hF⟩ : ∃ D' K' A' Y', F_55 P.nn P.gg P.C (nI j) P.f x.1 x.2 (S.2.2.2.1 j) (S.2.2.2.2.1 j) (S.2.2.2.2.2 j) S.2.2.1 = (D', K', A', Y') := ⟨_, _, _, _, rfl⟩
      obtain ⟨q1, q2⟩ := tx_55 hG (SU.b12 hi.1) (by omega) hP.gg hP.nn hP.f j1 h.1 y hm hs (h.2.2.1 j j1 j3) hF
      exact h.put hG j4 hF q1 (fun _ => q2)
  · rw [z]; exact h
def TGX (P : Pm) (g : Gh) (S : SS) : Prop := GIX P g S ∧ TX P g S
theorem TGX.hand {P : Pm} {g : Gh} {S S' : SS} {x : Mg} (hP : PmO P) (h : TGX P g S) (hm : ∃ e, MO P g e x) (hs : MS P g x) (ht : TLx g x) (hr : hoR P.nn P.gg P.C P.f x S S') : ∃ g', Gs g g' ∧ TGX P g' S' ∧ S'.1 100 = S.1 100 := by
  obtain ⟨g', a, b, c⟩ := h.1.hand hP hm hs hr
  exact ⟨g', a, ⟨b, (h.2.hand hP h.1 hm hs ht hr).ge a.ge⟩, c⟩
theorem TGX.take {P : Pm} {g : Gh} {S S' : SS} {x : Mg} (h : TGX P g S) (hr : tkM x S S') : TGX P g S' ∧ (∃ e, MO P g e x) ∧ MS P g x ∧ TLx g x ∧ S'.1 100 = S.1 100 := by
  obtain ⟨a, b, c, d⟩ := h.1.take hr
  obtain ⟨ms', p, z⟩ := hr
  refine ⟨⟨a, ?_⟩, b, c, h.2.2.1 x (p.subset List.mem_cons_self), d⟩
  rw [z]
  exact ⟨h.2.1, fun y hy => h.2.2.1 y (p.subset (List.mem_cons_of_mem _ hy)), h.2.2.2.1, h.2.2.2.2⟩
theorem TGX.th {P : Pm} {g : Gh} {S S' : SS} (hP : PmO P) (h : TGX P g S) (hr : thR P.nn P.gg P.C P.f S S') : ∃ g', Gs g g' ∧ TGX P g' S' ∧ S'.1 100 = S.1 100 := by
  obtain ⟨x, S1, r1, r2⟩ := hr
  obtain ⟨a1, a2, a4, a5, a3⟩ := h.take r1.tkM
  obtain ⟨g', b1, b2, b3⟩ := a1.hand hP a2 a4 a5 r2
  exact ⟨g', b1, b2, by rw [b3, a3]⟩
theorem TGX.mv {P : Pm} {g : Gh} {S S' : SS} (hP : PmO P) (h : TGX P g S) (hr : mvR P.nn P.gg P.C P.f S S') : ∃ g', Gs g g' ∧ TGX P g' S' ∧ S'.1 100 = S.1 100 := by
  rcases hr with ⟨x, S1, r1, r2⟩ | ⟨x, r1, r2⟩
  · obtain ⟨a1, a2, a4, a5, a3⟩ := h.take r1
    rcases r2 with r2 | r2
    · rw [r2]; exact ⟨g, Gs.rf g, a1, a3⟩
    · obtain ⟨g', b1, b2, b3⟩ := a1.hand hP a2 a4 a5 r2
      exact ⟨g', b1, b2, by rw [b3, a3]⟩
  · exact h.hand hP (h.1.1.ms x r1) (h.1.2.2.1 x r1) (h.2.2.1 x r1) r2
theorem TGX.it {P : Pm} {R : SS → SS → Prop} (hR : ∀ g S S', TGX P g S → R S S' → ∃ g', Gs g g' ∧ TGX P g' S' ∧ S'.1 100 = S.1 100) : ∀ (k : Nat) {g : Gh} {S S' : SS}, TGX P g S → itR R k S S' → ∃ g', Gs g g' ∧ TGX P g' S' ∧ S'.1 100 = S.1 100
  | 0, g, S, S', h, hr => by
    have hr : S' = S := hr
    rw [hr]; exact ⟨g, Gs.rf g, h, rfl⟩
  | k + 1, g, S, S', h, hr => by
    obtain ⟨S1, r1, r2⟩ := hr
    obtain ⟨g1, a1, a2, a3⟩ := TGX.it hR k h r1
    obtain ⟨g2, b1, b2, b3⟩ := hR g1 S1 S' a2 r2
    exact ⟨g2, a1.tr b1, b2, by rw [b3, a3]⟩
theorem TGX.nw {P : Pm} {u b : Nat → Int32} (hP : PmO P) : ∀ (k i : Nat) {g : Gh} {S S' : SS}, i + k ≤ P.nn → TGX P g S → nwR P.nn P.gg P.C P.f u b k i S S' → ∃ g', Gs g g' ∧ TGX P g' S' ∧ S'.1 100 = S.1 100
  | 0, i, g, S, S', _, h, hr => by
    have hr : S' = S := hr
    rw [hr]; exact ⟨g, Gs.rf g, h, rfl⟩
  | k + 1, i, g, S, S', hi, h, hr => by
    rcases hr with ⟨_, r⟩ | ⟨r0, S1, r1, r2⟩
    · exact TGX.nw hP k (i + 1) (by omega) h r
    · obtain ⟨⟨h1, h2⟩, h3⟩ := h
      rcases h1.nd i (by omega) with ⟨y, _⟩ | ⟨_, e, y⟩
      · exact absurd y r0
      · obtain ⟨g', g1, g2⟩ := h1.node (by omega) (nwork h1.go hP.gg hP.nn (by omega) y h1.ms) r0 r1
        obtain ⟨D', K', A', Z, t1, t2, _, _, _, t6⟩ := tick_n (u := u) (b := b) (A := S.2.2.2.2.2 i) (Y := S.2.2.1) h1.go hP.gg hP.nn hP.f (show i < P.nn by omega) y
        have hx : SX P g S1 := h2.put r1 t1 (fun z hz => (t2 z hz).1) (fun _ q => gh_136 h1.go hP.gg hP.nn hP.f (show i < P.nn by omega) y (h2.2.2 i (by omega) r0) t1 (by rw [t6] at q; exact q))
        obtain ⟨q1, q2⟩ := tx_136 h1.go hP.gg hP.nn hP.f (show i < P.nn by omega) h3.1 y (h3.2.2.1 i (by omega) r0) t1
        have hx3 : TX P g S1 := h3.put h1.go r1 t1 q1 (fun _ q => q2 (by rw [t6] at q; exact q))
        obtain ⟨g2', c1, c2, c3⟩ := TGX.nw hP k (i + 1) (by omega) ⟨⟨g2, hx.mono g1.gs.le⟩, hx3.ge g1.gs.ge⟩ r2
        refine ⟨g2', g1.gs.tr c1, c2, ?_⟩
        obtain ⟨ms', _, w⟩ := r1
        rw [c3, w]
theorem TGX.tick {P : Pm} {g : Gh} {S S' : SS} (hP : PmO P) (h : TGX P g S) (hr : tkR P.nn P.gg P.C P.f S S') : ∃ g', Gs g g' ∧ TGX P g' S' ∧ S'.1 100 = S.1 100 := by
  have hnn := hP.nn
  obtain ⟨u, b, ms1, ms2, r1, r2, r3⟩ := hr
  obtain ⟨⟨h1, h1x⟩, h3⟩ := h
  obtain ⟨he, ha⟩ := h1.as
  obtain ⟨Z1, z1, _, z3, _⟩ := tm_z P.nn 0 (by omega) r1
  obtain ⟨Z2, y1, _, y3, _⟩ := ask_z r2
  rw [ha.ep.1, ha.ep.2] at r1
  have m1 := tm_ok (Nat.le_refl _) rfl P.nn 0 _ _ h1.ms r1
  have m2 := ask_ok h1.go ha m1 r2
  have hps : ms2 = psl S.2.2.1 (Z1 ++ Z2) := by rw [y1, z1, psl_app]
  have h2 : TGX P g (S.1, S.2.1, ms2, S.2.2.2) := ⟨⟨⟨h1.go, h1.ep, h1.as, m2, h1.nd⟩, h1x.ms hps (fun z hz => by
    rcases List.mem_append.mp hz with q | q
    · exact MS.k0 (z3 z q).1
    · exact MS.k2 (y3 z q).1)⟩, h3.ms hps (fun z hz => by
    rcases List.mem_append.mp hz with q | q
    · exact TLx.k (by rw [(z3 z q).1]; decide)
    · exact TLx.k (by rw [(y3 z q).1]; decide)) (fun _ _ => rfl) rfl⟩
  obtain ⟨g', c1, c2, c3⟩ := TGX.nw hP P.nn 0 (by omega) h2 r3
  exact ⟨g', c1, c2, c3⟩
theorem TX.sleep {P : Pm} {g : Gh} {S S' : SS} {u b : Nat → Int32} {j : Nat} {y0 z : Int32} (hi : GI P g S) (h : TX P g S) (hj : j < P.nn) (hup : ¬ S.2.2.2.1 j 0 6 = 0) (hr : nodR (F_142 P.nn P.gg P.C (nI j) P.f u b (S.2.2.2.1 j) (S.2.2.2.2.1 j) (S.2.2.2.2.2 j) S.2.2.1 y0 z) j S S') : TX P g S' := by
  rcases hi.nd j hj with ⟨y, _⟩ | ⟨_, e, y⟩
  · exact absurd y hup
  · obtain ⟨D', r1, r2, r3⟩ := nsleep (u := u) (b := b) (A := S.2.2.2.2.2 j) (Y := S.2.2.1) (mk_ := y0) (pt := z) y
    exact h.put hi.go hr r1 (fun x hx => Or.inl hx) (fun q => absurd r3 q)
theorem TX.wake {P : Pm} {g : Gh} {S S' : SS} {u b : Nat → Int32} {j : Nat} (hnn : P.nn ≤ 6) (hi : GI P g S) (h : TX P g S) (hj : j < P.nn) (hdn : S.2.2.2.1 j 0 6 = 0) (hr : nodR (F_18 P.nn P.gg P.C (nI j) P.f u b (S.2.2.2.1 j) (S.2.2.2.2.1 j) (S.2.2.2.2.2 j) S.2.2.1 (S.1 4 13) (S.1 4 14)) j S S') : TX P g S' := by
  rcases hi.nd j hj with ⟨_, e, y⟩ | ⟨y, _⟩
  · obtain ⟨he, ha⟩ := hi.as
    rw [ha.ep.1, ha.ep.2] at hr
    obtain ⟨D1, D', K', A', Z, r1, r2, r3, r4, _, r6⟩ := wake_z (u := u) (b := b) (K := S.2.2.2.2.1 j) (A := S.2.2.2.2.2 j) (Y := S.2.2.1) hnn y hi.ep.2
    refine h.put hi.go hr r1 (TLn.psl (fun z hz => ?_)) (fun _ _ => RDl.no (by rw [r3]; decide))
    rcases r2.2.2 with ⟨_, q⟩ | ⟨_, _, _, _, _, q, _⟩
    · rw [q] at hz; cases hz
    · obtain ⟨j, _, j2, _⟩ := q z hz
      rw [j2]; exact TLx.k (show ¬ (4 : Int32) = 3 by decide)
  · exact absurd hdn y
theorem TGX.wk {P : Pm} (hnn : P.nn ≤ 6) : ∀ (k i : Nat) {g : Gh} {S S' : SS}, i + k ≤ P.nn → TGX P g S → wkR P.nn P.gg P.C P.f k i S S' → TGX P g S' ∧ S'.1 = S.1
  | 0, i, g, S, S', _, h, hr => by
    have hr : S' = S := hr
    rw [hr]; exact ⟨h, rfl⟩
  | k + 1, i, g, S, S', hi, h, hr => by
    rcases hr with ⟨_, r⟩ | ⟨r0, u, b, S1, r1, r2⟩
    · exact TGX.wk hnn k (i + 1) (by omega) h r
    · have h1 := h.1.1.wake (by omega) r0 r1
      have h2 := h.1.2.wake hnn h.1.1 (by omega) r0 r1
      have h3 := h.2.wake hnn h.1.1 (by omega) r0 r1
      obtain ⟨a1, a2⟩ := TGX.wk hnn k (i + 1) (by omega) ⟨⟨h1, h2⟩, h3⟩ r2
      refine ⟨a1, ?_⟩
      obtain ⟨ms', _, w⟩ := r1
      rw [a2, w]
theorem TGX.dr {P : Pm} {g : Gh} {S S' : SS} (hP : PmO P) (h : TGX P g S) (hr : drR P.nn P.gg P.C P.f S S') : ∃ g', Gs g g' ∧ TGX P g' S' ∧ S'.1 100 = S.1 100 := by
  obtain ⟨k, _, z, _⟩ := hr
  exact TGX.it (fun g S S' a b => a.th hP b) k h z
theorem TGX.stl {P : Pm} (hP : PmO P) : ∀ (k t : Nat) {g : Gh} {S S' : SS}, TGX P g S → stl P.nn P.gg P.C P.f k t S S' → ∃ g', Gs g g' ∧ TGX P g' S' ∧ S'.1 100 = S.1 100
  | 0, t, g, S, S', h, hr => by
    have hr : S' = S := hr
    rw [hr]; exact ⟨g, Gs.rf g, h, rfl⟩
  | k + 1, t, g, S, S', h, hr => by
    rcases hr with ⟨_, z⟩ | ⟨_, S1, S2, z1, z2, z3⟩
    · rw [z]; exact ⟨g, Gs.rf g, h, rfl⟩
    · have h1 : ∃ g', Gs g g' ∧ TGX P g' S1 ∧ S1.1 100 = S.1 100 := by
        rcases z1 with ⟨_, w⟩ | ⟨_, w⟩
        · rw [w]; exact ⟨g, Gs.rf g, h, rfl⟩
        · exact h.tick hP w
      obtain ⟨g1, a1, a2, a3⟩ := h1
      obtain ⟨g2, b1, b2, b3⟩ := a2.dr hP z2
      obtain ⟨g3, c1, c2, c3⟩ := TGX.stl hP k (t + 1) b2 z3
      exact ⟨g3, (a1.tr b1).tr c1, c2, by rw [c3, b3, a3]⟩

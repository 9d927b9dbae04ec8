/-! what is done to a table that is known -/
theorem TS.eq {T T' : TS} (h1 : ∀ i, T.ex i = T'.ex i) (h2 : ∀ i, T.sz i = T'.sz i) (h3 : ∀ i, T.nl i = T'.nl i) (h4 : ∀ i x, T.nm i x = T'.nm i x) (h5 : ∀ i p, T.vr i p = T'.vr i p) (h6 : ∀ i y, T.dt i y = T'.dt i y) : T = T' := by
  obtain ⟨a1, a2, a3, a4, a5, a6⟩ := T
  obtain ⟨b1, b2, b3, b4, b5, b6⟩ := T'
  have e1 : a1 = b1 := funext h1
  have e2 : a2 = b2 := funext h2
  have e3 : a3 = b3 := funext h3
  have e4 : a4 = b4 := funext (fun i => funext (h4 i))
  have e5 : a5 = b5 := funext (fun i => funext (h5 i))
  have e6 : a6 = b6 := funext (fun i => funext (h6 i))
  rw [e1, e2, e3, e4, e5, e6]
/-- one FILE's data are changed -/
theorem TK.file {T : TS} {fl : Int32} {jf zf nf mf fo vf zf' nf' mf' vf' : Nat → Int32} {K : Int64} (h : TK T fl jf zf nf mf fo vf K) {f i z l : Nat} {w V : Nat → Int32} {dt : Nat → Nat → Int32} (hf : f < 48) (hi : i < 512) (e : jf f = nI i)
    (z1 : ∀ g, g ≠ f → zf' g = zf g) (z2 : zf' f = nI z) (n1 : ∀ g, g ≠ f → nf' g = nf g) (n2 : nf' f = nI l)
    (m1 : ∀ g x, g < 48 → x < 50 → g ≠ f → mf' (g * 50 + x) = mf (g * 50 + x)) (m2 : ∀ x, x < 50 → mf' (f * 50 + x) = w x)
    (v1 : ∀ g p, g < 48 → p < 20 → g ≠ f → vf' (g * 20 + p) = vf (g * 20 + p)) (v2 : ∀ p, p < 20 → vf' (f * 20 + p) = V p) :
    TK ⟨T.ex, fup T.sz i z, fup T.nl i l, fup T.nm i w, fup T.vr i V, dt⟩ fl jf zf' nf' mf' fo vf' K := by
  have hg : ∀ {g j : Nat}, g < 48 → j < 512 → jf g = nI j → g ≠ f → j ≠ i := fun {g j} hg hj eg hgf z => hgf (h.1.inj hg hf hi (by rw [eg, z]) e)
  have hkf : bq K f = true := h.2 f hf (by rw [e]; exact nIneg (by omega))
  refine ⟨⟨h.1.b1, fun g hg => ?_, h.1.c1, fun j g hj hg' eg => ?_, fun j g hj hg' eg ek => ?_, fun j g hj hg' eg ek => ?_, h.1.kb⟩, h.2⟩
  · rcases h.1.b2 g hg with ⟨a, b, c, d⟩ | x
    · have hgf : g ≠ f := fun z => by rw [z, e] at a; exact nIneg (by omega) a
      exact Or.inl ⟨a, by rw [z1 g hgf]; exact b, c, fun p hp => by rw [v1 g p hg hp hgf]; exact d p hp⟩
    · exact Or.inr x
  · show vf' _ = fup T.vr i V j 19
    by_cases z : g = f
    · subst z
      rw [e] at eg
      have := nI_inj (by omega) (by omega) eg
      subst this
      rw [fup_s]
      exact v2 19 (by decide)
    · rw [fup_n (hg hg' hj eg z), v1 g 19 hg' (by decide) z]
      exact h.1.r1 j g hj hg' eg
  · show zf' g = nI (fup T.sz i z j) ∧ nf' g = nI (fup T.nl i l j) ∧ (∀ x, x < 50 → mf' (g * 50 + x) = fup T.nm i w j x) ∧ ∀ p, p < 19 → vf' (g * 20 + p) = fup T.vr i V j p
    by_cases q : g = f
    · subst q
      rw [e] at eg
      have := nI_inj (by omega) (by omega) eg
      subst this
      rw [fup_s, fup_s, fup_s, fup_s]
      exact ⟨z2, n2, m2, fun p hp => v2 p (by omega)⟩
    · have hji := hg hg' hj eg q
      rw [fup_n hji, fup_n hji, fup_n hji, fup_n hji, z1 g q, n1 g q]
      obtain ⟨a, b, c, d⟩ := h.1.k1 j g hj hg' eg ek
      exact ⟨a, b, fun x hx => by rw [m1 g x hg' hx q]; exact c x hx, fun p hp => by rw [v1 g p hg' (by omega) q]; exact d p hp⟩
  · by_cases q : g = f
    · subst q
      rw [hkf] at ek
      cases ek
    · obtain ⟨a, b⟩ := h.1.u1 j g hj hg' eg ek
      exact ⟨by rw [z1 g q]; exact a, fun p hp => by rw [v1 g p hg' (by omega) q]; exact b p hp⟩
/-- remove -/
theorem TK.rem {T : TS} {fl : Int32} {jf zf nf mf fo vf : Nat → Int32} {K : Int64} (h : TK T fl jf zf nf mf fo vf K) {f i : Nat} (hf : f < 48) (hi : i < 512) (e : jf f = nI i) : TK (T.rem i) (fl - 1) (upd jf f (-1)) (upd zf f 0) nf mf (upd fo (jf f).toNatClampNeg (-1)) (ax_fill vf (f * 20) ((f + 1) * 20) (-1)) (K &&& (((1 : Int64) <<< ((nI f).toInt64 &&& 63)) ^^^ (-1))) := by
  have hx := h.1.jx hf hi e
  rw [e, nI_clamp (by omega)]
  have hfo : ∀ {g j : Nat}, g < 48 → j < 512 → jf g = nI j → g ≠ f → j ≠ i := fun {g j} hg hj eg hgf z => hgf (h.1.inj hg hf hi (by rw [eg, z]) e)
  have hcl : ∀ g, g < 64 → g ≠ f → bq (K &&& (((1 : Int64) <<< ((nI f).toInt64 &&& 63)) ^^^ (-1))) g = bq K g := fun g hg hgf => by
    rw [q_clr K (by omega) hg]
    simp [hgf]
  have hcf : bq (K &&& (((1 : Int64) <<< ((nI f).toInt64 &&& 63)) ^^^ (-1))) f = false := by
    rw [q_clr K (by omega) (by omega)]
    simp
  have hv : ∀ g p, g < 48 → p < 20 → g ≠ f → ax_fill vf (f * 20) ((f + 1) * 20) (-1) (g * 20 + p) = vf (g * 20 + p) := fun g p hg hp hgf => ax_fill_out _ _ (by omega)
  have hjg : ∀ {g j : Nat}, j < 512 → upd jf f (-1) g = nI j → g ≠ f ∧ jf g = nI j := fun {g j} hj eg => by
    by_cases z : g = f
    · rw [z, pk_us] at eg; exact absurd eg.symm (nIneg (by omega))
    · rw [pk_un z] at eg; exact ⟨z, eg⟩
  refine ⟨⟨fun j hj => ?_, fun g hg => ?_, ?_, fun j g hj hg eg => ?_, fun j g hj hg eg ek => ?_, fun j g hj hg eg ek => ?_, fun g h1 h2 => ?_⟩, fun g hg eg => ?_⟩
  · show (fup T.ex i false j = false ∧ _) ∨ (fup T.ex i false j = true ∧ _)
    by_cases z : j = i
    · subst z
      rw [fup_s, pk_us]
      exact Or.inl ⟨rfl, rfl⟩
    · rw [fup_n z, pk_un z]
      rcases h.1.b1 j hj with a | ⟨a, g, g1, g2, g3⟩
      · exact Or.inl a
      · have hgf : g ≠ f := fun y => by
          subst y
          rw [e] at g3
          exact z (nI_inj (by omega) (by omega) g3).symm
        exact Or.inr ⟨a, g, g1, g2, by rw [pk_un hgf]; exact g3⟩
  · by_cases z : g = f
    · subst z
      left
      rw [pk_us, pk_us]
      exact ⟨rfl, rfl, hcf, fun p hp => ax_fill_in _ _ (by omega) (by omega)⟩
    · rw [pk_un z, pk_un z, hcl g (by omega) z]
      rcases h.1.b2 g hg with ⟨a, b, c, d⟩ | ⟨j, a, b, c⟩
      · exact Or.inl ⟨a, b, c, fun p hp => by rw [hv g p hg hp z]; exact d p hp⟩
      · exact Or.inr ⟨j, a, b, by rw [pk_un (hfo hg a b z)]; exact c⟩
  · rw [h.1.c1]
    have := Sm_upd (g := fun i => if T.ex i = true then 1 else 0) (h := fun j => if fup T.ex i false j = true then 1 else 0) (a := i) (n := 512) hi (fun j _ hj => by show (if fup T.ex i false j = true then 1 else 0) = _; rw [fup_n hj])
    have e1 : (if T.ex i = true then 1 else 0) = 1 := by rw [hx.1]; rfl
    have e2 : (if fup T.ex i false i = true then 1 else 0) = 0 := by rw [fup_s]; rfl
    simp only [e1, e2] at this
    show nI (Sm (fun i => if T.ex i = true then 1 else 0) 512) - 1 = nI (Sm (fun j => if fup T.ex i false j = true then 1 else 0) 512)
    have this := this.trans (Nat.add_zero _)
    rw [← this]
    exact nI_pred _
  · obtain ⟨z, eg⟩ := hjg hj eg
    show _ = fup T.vr i _ j 19
    rw [hv g 19 hg (by decide) z, fup_n (hfo hg hj eg z)]
    exact h.1.r1 j g hj hg eg
  · obtain ⟨z, eg⟩ := hjg hj eg
    have hji := hfo hg hj eg z
    rw [hcl g (by omega) z] at ek
    obtain ⟨a, b, c, d⟩ := h.1.k1 j g hj hg eg ek
    show upd zf f 0 g = nI (fup T.sz i 0 j) ∧ _ ∧ _ ∧ ∀ p, p < 19 → _ = fup T.vr i _ j p
    rw [pk_un z, fup_n hji, fup_n hji]
    exact ⟨a, b, c, fun p hp => by rw [hv g p hg (by omega) z]; exact d p hp⟩
  · obtain ⟨z, eg⟩ := hjg hj eg
    rw [hcl g (by omega) z] at ek
    obtain ⟨a, b⟩ := h.1.u1 j g hj hg eg ek
    exact ⟨by rw [pk_un z]; exact a, fun p hp => by rw [hv g p hg (by omega) z]; exact b p hp⟩
  · rw [hcl g h2 (by omega)]
    exact h.1.kb g h1 h2
  · by_cases z : g = f
    · rw [z, pk_us] at eg; exact absurd rfl eg
    · rw [pk_un z] at eg
      rw [hcl g (by omega) z]
      exact h.2 g hg eg
theorem addF_or (jf : Nat → Int32) : ∀ (k i : Nat), (addF jf k i < i + k ∧ jf (addF jf k i) < 0) ∨ (addF jf k i = i + k ∧ ∀ j, i ≤ j → j < i + k → ¬ jf j < 0)
  | 0, i => Or.inr ⟨rfl, fun j h1 h2 => absurd h2 (by omega)⟩
  | k + 1, i => by
    show ((if jf i < 0 then i else addF jf k (i + 1)) < _ ∧ jf (if jf i < 0 then i else addF jf k (i + 1)) < 0) ∨ ((if jf i < 0 then i else addF jf k (i + 1)) = _ ∧ _)
    by_cases e : jf i < 0
    · rw [if_pos e]
      exact Or.inl ⟨by omega, e⟩
    · rw [if_neg e]
      rcases addF_or jf k (i + 1) with ⟨a, b⟩ | ⟨a, b⟩
      · exact Or.inl ⟨by omega, b⟩
      · exact Or.inr ⟨by omega, fun j h1 h2 => by
          by_cases z : j = i
          · rw [z]; exact e
          · exact b j (by omega) (by omega)⟩
/-- there is a free place -/
theorem TR.free {T : TS} {fl : Int32} {jf zf nf mf fo vf : Nat → Int32} {K : Int64} (h : TR T fl jf zf nf mf fo vf K) (hc : T.cnt < 48) : addF jf 47 0 < 48 ∧ jf (addF jf 47 0) = -1 := by
  have key : ∀ f, f < 48 → jf f < 0 → jf f = -1 := fun f hf z => by
    rcases h.b2 f hf with ⟨a, _⟩ | ⟨i, a, b, _⟩
    · exact a
    · rw [b] at z; exact absurd z (nI_pos (by omega))
  rcases addF_or jf 47 0 with ⟨a, b⟩ | ⟨a, b⟩
  · exact ⟨by omega, key _ (by omega) b⟩
  · rw [a]
    refine ⟨by omega, ?_⟩
    by_cases z : jf 47 = -1
    · exact z
    · have := h.cnt
      rw [Sm_cg (h := fun _ => 1) (fun f hf => if_neg (fun y => ?_))] at this
      · have h1 : Sm (fun _ => 1) 48 = 48 := by decide +kernel
        omega
      · by_cases q : f = 47
        · rw [q] at y; exact z y
        · exact b f (by omega) (by omega) (by rw [y]; decide)
/-- add -/
theorem TK.add {T : TS} {fl : Int32} {jf zf nf mf fo vf wf w : Nat → Int32} {K : Int64} {o l : Nat} {T2 : Int32} (hT : TOK T o) (ho : o < 512) (h : TK T fl jf zf nf mf fo vf K) (hc : T.cnt < 48) (hl : T2 = nI l) (hw : ∀ x, x < 50 → wf x = w x) :
    TK (T.mk1 o w l) (fl + 1) (upd jf (addF jf 47 0) (nI o)) zf (upd nf (addF jf 47 0) T2) (va_cpy wf mf 0 (addF jf 47 0 * 50) 50) (upd fo o (nI (addF jf 47 0))) vf (K ||| ((1 : Int64) <<< ((nI (addF jf 47 0)).toInt64 &&& 63))) := by
  obtain ⟨hx, hxe⟩ := h.1.free hc
  generalize addF jf 47 0 = x at hx hxe ⊢
  have hex : T.ex o = false := by
    cases e : T.ex o with
    | false => rfl
    | true => exact absurd (hT.e1 o e) (by omega)
  have hz := hT.e2 o hex
  have hset : ∀ g, g < 64 → g ≠ x → bq (K ||| ((1 : Int64) <<< ((nI x).toInt64 &&& 63))) g = bq K g := fun g hg hgf => by
    rw [q_set K (by omega) hg]
    simp [hgf]
  have hsx : bq (K ||| ((1 : Int64) <<< ((nI x).toInt64 &&& 63))) x = true := by
    rw [q_set K (by omega) (by omega)]
    simp
  have hbx : zf x = 0 ∧ ∀ p, p < 20 → vf (x * 20 + p) = -1 := by
    rcases h.1.b2 x hx with ⟨_, b, _, d⟩ | ⟨i, a, b, _⟩
    · exact ⟨b, d⟩
    · rw [hxe] at b; exact absurd b.symm (nIneg (by omega))
  have hold : ∀ {g j : Nat}, g ≠ x → upd jf x (nI o) g = nI j → jf g = nI j := fun {g j} hgx eg => by rw [pk_un hgx] at eg; exact eg
  have hne : ∀ {g j : Nat}, g < 48 → j < 512 → jf g = nI j → j ≠ o := fun {g j} hg hj eg z => by
    have := (h.1.jx hg hj eg).1
    rw [z, hex] at this
    cases this
  have hnew : ∀ {j : Nat}, j < 512 → upd jf x (nI o) x = nI j → j = o := fun {j} hj eg => by
    rw [pk_us] at eg
    exact (nI_inj (by omega) (by omega) eg).symm
  refine ⟨⟨fun j hj => ?_, fun g hg => ?_, ?_, fun j g hj hg eg => ?_, fun j g hj hg eg ek => ?_, fun j g hj hg eg ek => ?_, fun g h1 h2 => ?_⟩, fun g hg eg => ?_⟩
  · show (fup T.ex o true j = false ∧ _) ∨ (fup T.ex o true j = true ∧ _)
    by_cases z : j = o
    · subst z
      rw [fup_s]
      exact Or.inr ⟨rfl, x, hx, pk_us, pk_us⟩
    · rw [fup_n z, pk_un z]
      rcases h.1.b1 j hj with a | ⟨a, g, g1, g2, g3⟩
      · exact Or.inl a
      · have hgf : g ≠ x := fun y => by
          subst y
          rw [hxe] at g3
          exact nIneg (by omega) g3.symm
        exact Or.inr ⟨a, g, g1, g2, by rw [pk_un hgf]; exact g3⟩
  · by_cases z : g = x
    · subst z
      exact Or.inr ⟨o, ho, pk_us, pk_us⟩
    · rw [pk_un z, hset g (by omega) z]
      rcases h.1.b2 g hg with a | ⟨j, a, b, c⟩
      · exact Or.inl a
      · exact Or.inr ⟨j, a, b, by rw [pk_un (hne hg a b)]; exact c⟩
  · rw [h.1.c1, nI_1]
    have := Sm_upd (g := fun i => if T.ex i = true then 1 else 0) (h := fun j => if fup T.ex o true j = true then 1 else 0) (a := o) (n := 512) ho (fun j _ hj => by show (if fup T.ex o true j = true then 1 else 0) = _; rw [fup_n hj])
    have e1 : (if T.ex o = true then 1 else 0) = 0 := by rw [hex]; rfl
    have e2 : (if fup T.ex o true o = true then 1 else 0) = 1 := by rw [fup_s]; rfl
    simp only [e1, e2] at this
    show nI (Sm (fun i => if T.ex i = true then 1 else 0) 512 + 1) = nI (Sm (fun j => if fup T.ex o true j = true then 1 else 0) 512)
    rw [Nat.add_zero] at this
    rw [this]
  · show vf (g * 20 + 19) = T.vr j 19
    by_cases z : g = x
    · subst z
      have := hnew hj eg
      subst this
      rw [hbx.2 19 (by decide), hz.2 19]
    · exact h.1.r1 j g hj hg (hold z eg)
  · show zf g = nI (T.sz j) ∧ upd nf x T2 g = nI (fup T.nl o l j) ∧ (∀ y, y < 50 → va_cpy wf mf 0 (x * 50) 50 (g * 50 + y) = fup T.nm o w j y) ∧ ∀ p, p < 19 → vf (g * 20 + p) = T.vr j p
    by_cases z : g = x
    · subst z
      have := hnew hj eg
      subst this
      rw [pk_us, fup_s, fup_s, hbx.1, hz.1]
      refine ⟨rfl, hl, fun y hy => ?_, fun p hp => by rw [hbx.2 p (by omega), hz.2 p]⟩
      rw [pk_cpy_in (by omega) (by omega), ← hw y hy]
      congr 1
      omega
    · have eg := hold z eg
      have hjo := hne hg hj eg
      rw [hset g (by omega) z] at ek
      obtain ⟨a, b, c, d⟩ := h.1.k1 j g hj hg eg ek
      rw [pk_un z, fup_n hjo, fup_n hjo]
      exact ⟨a, b, fun y hy => by rw [pk_cpy_out (by omega)]; exact c y hy, d⟩
  · by_cases z : g = x
    · subst z
      rw [hsx] at ek
      cases ek
    · rw [hset g (by omega) z] at ek
      exact h.1.u1 j g hj hg (hold z eg) ek
  · rw [hset g h2 (by omega)]
    exact h.1.kb g h1 h2
  · by_cases z : g = x
    · rw [z]; exact hsx
    · rw [pk_un z] at eg
      rw [hset g (by omega) z]
      exact h.2 g hg eg

/-! the Table's bounds are kept by what is done to it -/
theorem inR.nn {N : Nat} {x : Int32} (h : inR N x) (hN : N ≤ 2 ^ 31) : ¬ x < 0 := by
  obtain ⟨k, hk, rfl⟩ := h
  exact nI_pos (by omega)
theorem inR.mono {N M : Nat} {x : Int32} (h : inR N x) (hN : N ≤ M) : inR M x := by
  obtain ⟨k, hk, rfl⟩ := h
  exact ⟨k, by omega, rfl⟩
theorem cN_congr {jf jg : Nat → Int32} : ∀ k, (∀ f, f < k → jf f = jg f) → cN jf k = cN jg k
  | 0, _ => rfl
  | k + 1, h => by
    show cN jf k + _ = cN jg k + _
    rw [cN_congr k (fun f hf => h f (by omega)), h k (by omega)]
theorem cN_zero {jf : Nat → Int32} : ∀ k, (∀ f, f < k → jf f < 0) → cN jf k = 0
  | 0, _ => rfl
  | k + 1, h => by
    show cN jf k + (if jf k < 0 then 0 else 1) = 0
    rw [cN_zero k (fun f hf => h f (by omega)), if_pos (h k (by omega))]
theorem cN_le {jf : Nat → Int32} : ∀ k, cN jf k ≤ k
  | 0 => Nat.le_refl _
  | k + 1 => by
    show cN jf k + (if jf k < 0 then 0 else 1) ≤ k + 1
    have := cN_le (jf := jf) k
    split <;> omega
theorem cN_free {jf : Nat → Int32} : ∀ k, cN jf k < k → ∃ f, f < k ∧ jf f < 0
  | 0, h => absurd h (by omega)
  | k + 1, h => by
    by_cases e : jf k < 0
    · exact ⟨k, by omega, e⟩
    · have h1 : cN jf k + (if jf k < 0 then 0 else 1) < k + 1 := h
      rw [if_neg e] at h1
      obtain ⟨f, h2, h3⟩ := cN_free (jf := jf) k (by omega)
      exact ⟨f, by omega, h3⟩
theorem cN_all {jf : Nat → Int32} : ∀ k, (∀ f, f < k → ¬ jf f < 0) → cN jf k = k
  | 0, _ => rfl
  | k + 1, h => by
    show cN jf k + (if jf k < 0 then 0 else 1) = k + 1
    rw [cN_all k (fun f hf => h f (by omega)), if_neg (h k (by omega))]
theorem cN_split {jf : Nat → Int32} {c : Nat} : ∀ k, (∀ f, f < c → ¬ jf f < 0) → (∀ f, c ≤ f → f < c + k → jf f < 0) → cN jf (c + k) = c
  | 0, h, _ => cN_all c h
  | k + 1, h, h2 => by
    show cN jf (c + k) + (if jf (c + k) < 0 then 0 else 1) = c
    rw [cN_split k h (fun f h3 h4 => h2 f h3 (by omega)), if_pos (h2 (c + k) (by omega) (by omega))]
    rfl
theorem cN_upd {jf : Nat → Int32} {x : Int32} {f : Nat} : ∀ k, f < k → cN (upd jf f x) k + (if jf f < 0 then 0 else 1) = cN jf k + (if x < 0 then 0 else 1)
  | 0, h => absurd h (by omega)
  | k + 1, h => by
    show cN (upd jf f x) k + (if upd jf f x k < 0 then 0 else 1) + _ = cN jf k + (if jf k < 0 then 0 else 1) + _
    by_cases e : f = k
    · subst e
      rw [cN_congr (jf := upd jf f x) (jg := jf) f (fun g hg => pk_un (by omega)), pk_us]
      omega
    · rw [pk_un (fun z => e z.symm)]
      have := cN_upd (jf := jf) (x := x) (f := f) k (by omega)
      omega
theorem addF_free {jf : Nat → Int32} : ∀ (k i : Nat), (∃ g, i ≤ g ∧ g ≤ i + k ∧ jf g < 0) → jf (addF jf k i) < 0
  | 0, i, ⟨g, h1, h2, h3⟩ => by
    have e : g = i := by omega
    subst e
    exact h3
  | k + 1, i, ⟨g, h1, h2, h3⟩ => by
    unfold addF
    split
    · assumption
    · next h4 => exact addF_free k (i + 1) ⟨g, by
        have : g ≠ i := fun z => h4 (z ▸ h3)
        omega, by omega, h3⟩
variable {Z : ZT} {fl : Int32} {jf zf nf fo vf : Nat → Int32}
theorem TI.jn (hT : TI Z fl jf zf nf fo vf) {f : Nat} (hf : f < 48) (h : ¬ jf f < 0) : ∃ i : Nat, i < 512 ∧ jf f = nI i := (hT.2.1 f hf).resolve_left (fun e => h (by rw [e]; decide))
theorem TI.add (hT : TI Z fl jf zf nf fo vf) (h48 : ¬ fl = 48) {d : Nat} (hd : d < 512) : TI Z (fl + 1) (upd jf (addF jf 47 0) (nI d)) zf nf (upd fo d (nI (addF jf 47 0))) vf ∧ addF jf 47 0 < 48 := by
  obtain ⟨t1, t2, t3, t4, t5, t6⟩ := hT
  have hc : cN jf 48 < 48 := by
    have h1 := cN_le (jf := jf) 48
    rcases Nat.lt_or_ge (cN jf 48) 48 with h2 | h2
    · exact h2
    · exact absurd (by rw [t5, show cN jf 48 = 48 by omega]; rfl) h48
  obtain ⟨g, hg, hg2⟩ := cN_free 48 hc
  have hF := addF_free (jf := jf) 47 0 ⟨g, by omega, by omega, hg2⟩
  have hl := addF_le jf 47 0
  generalize addF jf 47 0 = F at hF hl ⊢
  refine ⟨⟨fun i hi => ?_, fun f hf => ?_, fun a ha hv => ?_, t4, ?_, t6⟩, by omega⟩
  · by_cases e : i = d
    · subst e
      exact Or.inr ⟨F, by omega, pk_us, pk_us⟩
    · rw [pk_un e]
      rcases t1 i hi with h1 | ⟨f, h1, h2, h3⟩
      · exact Or.inl h1
      · exact Or.inr ⟨f, h1, h2, by
          rw [pk_un (fun z => by
            rw [z] at h3
            rw [h3] at hF
            exact nI_pos (show i < 2 ^ 31 by omega) hF)]
          exact h3⟩
  · by_cases e : f = F
    · subst e
      exact Or.inr ⟨d, hd, pk_us⟩
    · rw [pk_un e]
      exact t2 f hf
  · by_cases e : a / 20 = F
    · rw [e, pk_us]
      exact nI_pos (by omega)
    · rw [pk_un e]
      exact t3 a ha hv
  · have h1 := cN_upd (jf := jf) (x := nI d) (f := F) 48 (by omega)
    rw [if_pos hF, if_neg (nI_pos (by omega))] at h1
    rw [t5, nI_1]
    congr 1
    omega
theorem TI.remove (hT : TI Z fl jf zf nf fo vf) {f : Nat} (hf : f < 48) (hj : ¬ jf f < 0) : TI Z (fl - 1) (upd jf f (-1)) (upd zf f 0) nf (upd fo (jf f).toNatClampNeg (-1)) (ax_fill vf (f * 20) ((f + 1) * 20) (-1)) := by
  obtain ⟨i0, hi0, e0⟩ := hT.jn hf hj
  obtain ⟨t1, t2, t3, t4, t5, t6⟩ := hT
  rw [e0, nI_clamp (by omega)]
  refine ⟨fun i hi => ?_, fun g hg => ?_, fun a ha hv => ?_, fun g hg => ⟨?_, (t4 g hg).2⟩, ?_, fun v hv he => ?_⟩
  · by_cases e : i = i0
    · rw [e, pk_us]
      exact Or.inl rfl
    · rw [pk_un e]
      rcases t1 i hi with h1 | ⟨g, h1, h2, h3⟩
      · exact Or.inl h1
      · exact Or.inr ⟨g, h1, h2, by
          rw [pk_un (fun z => e (by
            rw [z, e0] at h3
            exact (nI_inj (by omega) (by omega) h3).symm))]
          exact h3⟩
  · by_cases e : g = f
    · rw [e, pk_us]
      exact Or.inl rfl
    · rw [pk_un e]
      exact t2 g hg
  · unfold ax_fill at hv
    split at hv
    · exact absurd (by decide) hv
    · next h1 =>
      rw [pk_un (by omega)]
      exact t3 a ha hv
  · by_cases e : g = f
    · rw [e, pk_us]
      exact ⟨0, by decide, rfl⟩
    · rw [pk_un e]
      exact (t4 g hg).1
  · have h1 := cN_upd (jf := jf) (x := -1) (f := f) 48 hf
    rw [if_neg hj, if_pos (by decide)] at h1
    rw [t5, show cN jf 48 = cN (upd jf f (-1)) 48 + 1 by omega]
    exact nI_pred _
  · unfold ax_fill at he
    rw [if_neg (by omega)] at he
    exact t6 v hv he
theorem TI.renew (hT : TI Z fl jf zf nf fo vf) {a o : Nat} (ha : a < 961) (ho : o < 512) (hj : a < 960 → ¬ jf (a / 20) < 0) (hZ : a = 960 → Z.y o) : TI Z fl jf zf nf fo (upd vf a (nI o)) := by
  obtain ⟨t1, t2, t3, t4, t5, t6⟩ := hT
  refine ⟨t1, t2, fun a' ha' hv => ?_, t4, t5, fun v hv he => ?_⟩
  · by_cases e : a' = a
    · subst e
      exact hj ha'
    · rw [pk_un e] at hv
      exact t3 a' ha' hv
  · by_cases e : a = 960
    · rw [e, pk_us] at he
      rw [← nI_inj (by omega) (by omega) he]
      exact hZ e
    · rw [pk_un (by omega)] at he
      exact t6 v hv he
theorem TI.less (hT : TI Z fl jf zf nf fo vf) {a : Nat} (ha : a < 960) : TI Z fl jf zf nf fo (upd vf a (-1)) := by
  obtain ⟨t1, t2, t3, t4, t5, t6⟩ := hT
  refine ⟨t1, t2, fun a' ha' hv => ?_, t4, t5, fun v hv he => ?_⟩
  · by_cases e : a' = a
    · rw [e, pk_us] at hv
      exact absurd (by decide) hv
    · rw [pk_un e] at hv
      exact t3 a' ha' hv
  · rw [pk_un (by omega)] at he
    exact t6 v hv he
theorem TI.size (hT : TI Z fl jf zf nf fo vf) {f : Nat} {x : Int32} (hx : inR 8193 x) : TI Z fl jf (upd zf f x) nf fo vf := by
  obtain ⟨t1, t2, t3, t4, t5, t6⟩ := hT
  refine ⟨t1, t2, t3, fun g hg => ⟨?_, (t4 g hg).2⟩, t5, t6⟩
  by_cases e : g = f
  · rw [e, pk_us]
    exact hx
  · rw [pk_un e]
    exact (t4 g hg).1
theorem TI.name (hT : TI Z fl jf zf nf fo vf) {f : Nat} {x : Int32} (hx : inR 2049 x) : TI Z fl jf zf (upd nf f x) fo vf := by
  obtain ⟨t1, t2, t3, t4, t5, t6⟩ := hT
  refine ⟨t1, t2, t3, fun g hg => ⟨(t4 g hg).1, ?_⟩, t5, t6⟩
  by_cases e : g = f
  · rw [e, pk_us]
    exact hx
  · rw [pk_un e]
    exact (t4 g hg).2
theorem TI.record (hT : TI Z fl jf zf nf fo vf) {f p : Nat} {wf : Nat → Int32} (hf : f < 48) (hj : ¬ jf f < 0) : TI Z fl jf zf nf fo (va_cpy wf vf (p + 67) (f * 20) 19) := by
  obtain ⟨t1, t2, t3, t4, t5, t6⟩ := hT
  refine ⟨t1, t2, fun a ha hv => ?_, t4, t5, fun v hv he => ?_⟩
  · unfold va_cpy at hv
    split at hv
    · next h1 =>
      rw [show a / 20 = f by omega]
      exact hj
    · exact t3 a ha hv
  · rw [pk_cpy_out (by omega)] at he
    exact t6 v hv he
theorem TI.forget (hn : ∀ f, f < 48 → inR 2049 (nf f)) : TI Z 0 (ax_fill jf 0 48 (-1)) (ax_fill zf 0 48 0) nf (ax_fill fo 0 512 (-1)) (ax_fill vf 0 961 (-1)) := by
  refine ⟨fun i hi => Or.inl (if_pos ⟨by omega, hi⟩), fun f hf => Or.inl (if_pos ⟨by omega, hf⟩), fun a ha hv => ?_, fun f hf => ⟨?_, hn f hf⟩, ?_, fun v hv he => ?_⟩
  · unfold ax_fill at hv
    rw [if_pos (by omega)] at hv
    exact absurd (by decide) hv
  · unfold ax_fill
    rw [if_pos (by omega)]
    exact ⟨0, by decide, rfl⟩
  · rw [cN_zero 48 (fun f hf => by
      unfold ax_fill
      rw [if_pos (by omega)]
      decide)]
    rfl
  · unfold ax_fill at he
    rw [if_pos (by omega)] at he
    exact absurd (show nI v < 0 by rw [← he]; decide) (nI_pos (by omega))
theorem and511 (x : Int32) : ∃ j : Nat, j < 512 ∧ x &&& 511 = nI j := by
  obtain ⟨j, hj, e⟩ := pk_andE x (m := 511) 9 (by decide)
  exact ⟨j, hj, e⟩
theorem rr_inv (wf : Nat → Int32) (p : Nat) {jf fo vf : Nat → Int32} (hj : ∀ f, f < 48 → jf f = -1) (ho : ∀ i, i < 512 → fo i = -1) (hv : ∀ a, a < 960 → vf a < 0) : ∀ c, c ≤ 48 →
    (∀ i, i < 512 → rrO wf p fo c i = -1 ∨ ∃ f : Nat, f < c ∧ rrO wf p fo c i = nI f ∧ rrJ wf p jf c f = nI i) ∧
    (∀ f, f < c → inR 512 (rrJ wf p jf c f)) ∧ (∀ f, c ≤ f → f < 48 → rrJ wf p jf c f = -1) ∧
    (∀ a, a < 960 → ¬ rrV wf p vf c a < 0 → a / 20 < c) ∧ rrV wf p vf c 960 = vf 960
  | 0, _ => ⟨fun i hi => Or.inl (ho i hi), fun f hf => absurd hf (by omega), fun f _ hf => hj f hf, fun a ha h => absurd (hv a ha) h, rfl⟩
  | c + 1, hc => by
    obtain ⟨k1, k2, k3, k4, k5⟩ := rr_inv wf p hj ho hv c (by omega)
    obtain ⟨j, hj1, ej⟩ := and511 (wf (p + 17 + 2 * c))
    refine ⟨fun i hi => ?_, fun f hf => ?_, fun f h1 h2 => ?_, fun a ha h => ?_, ?_⟩
    · show upd (rrO wf p fo c) _ (nI c) i = -1 ∨ ∃ f : Nat, f < c + 1 ∧ upd (rrO wf p fo c) _ (nI c) i = nI f ∧ upd (rrJ wf p jf c) c _ f = nI i
      rw [ej, nI_clamp (by omega)]
      by_cases e : i = j
      · subst e
        exact Or.inr ⟨c, by omega, pk_us, pk_us⟩
      · rw [pk_un e]
        rcases k1 i hi with h1 | ⟨f, h1, h2, h3⟩
        · exact Or.inl h1
        · exact Or.inr ⟨f, by omega, h2, by
            rw [pk_un (by omega)]
            exact h3⟩
    · show inR 512 (upd (rrJ wf p jf c) c _ f)
      by_cases e : f = c
      · rw [e, pk_us, ej]
        exact ⟨j, hj1, rfl⟩
      · rw [pk_un e]
        exact k2 f (by omega)
    · show upd (rrJ wf p jf c) c _ f = -1
      rw [pk_un (by omega)]
      exact k3 f (by omega) h2
    · have h : ¬ upd (rrV wf p vf c) (c * 20 + 19) (wf (p + 18 + 2 * c)) a < 0 := h
      by_cases e : a = c * 20 + 19
      · omega
      · rw [pk_un e] at h
        have := k4 a ha h
        omega
    · show upd (rrV wf p vf c) (c * 20 + 19) _ 960 = _
      rw [pk_un (by omega)]
      exact k5
theorem TI.root (hn : ∀ f, f < 48 → inR 2049 (nf f)) {wf : Nat → Int32} {p c : Nat} (hc : c ≤ 48) {x : Int32} (hx : ∀ v : Nat, v < 512 → x = nI v → Z.y v) : TI Z (nI c) (rrJ wf p (ax_fill jf 0 48 (-1)) c) (ax_fill zf 0 48 0) nf (rrO wf p (ax_fill fo 0 512 (-1)) c) (rrV wf p (upd (ax_fill vf 0 961 (-1)) 960 x) c) := by
  obtain ⟨k1, k2, k3, k4, k5⟩ := rr_inv wf p (jf := ax_fill jf 0 48 (-1)) (fo := ax_fill fo 0 512 (-1)) (vf := upd (ax_fill vf 0 961 (-1)) 960 x) (fun f hf => if_pos ⟨by omega, hf⟩) (fun f hf => if_pos ⟨by omega, hf⟩) (fun a ha => by
    rw [pk_un (by omega)]
    unfold ax_fill
    rw [if_pos (by omega)]
    decide) c hc
  refine ⟨fun i hi => ?_, fun f hf => ?_, fun a ha hv => ?_, fun f hf => ⟨?_, hn f hf⟩, ?_, fun v hv he => ?_⟩
  · rcases k1 i hi with h1 | ⟨f, h1, h2, h3⟩
    · exact Or.inl h1
    · exact Or.inr ⟨f, by omega, h2, h3⟩
  · by_cases e : f < c
    · exact Or.inr (k2 f e)
    · exact Or.inl (k3 f (by omega) hf)
  · exact (k2 _ (k4 a ha hv)).nn (by decide)
  · unfold ax_fill
    rw [if_pos (by omega)]
    exact ⟨0, by decide, rfl⟩
  · have e48 := cN_split (c := c) (48 - c) (fun f hf => (k2 f hf).nn (by decide)) (fun f h1 h2 => by
      rw [k3 f h1 (by omega)]
      decide)
    rw [show c + (48 - c) = 48 by omega] at e48
    rw [e48]
  · rw [k5, pk_us] at he
    exact hx v hv he
theorem WI.cpy {W Q B b : Nat → Int32} {i : Nat} (hW : WI Z fl jf W Q B) (hb : plT (b 1)) (hi : i < 9) : WI Z fl jf W Q (va_cpy b B 0 (i * 128) 128) := by
  obtain ⟨w1, w2, w3, w4, w5, w6, w7, w8⟩ := hW
  have key : ∀ j, j < 9 → (j = i ∧ va_cpy b B 0 (i * 128) 128 (j * 128 + 1) = b 1) ∨ (∀ x, x < 128 → va_cpy b B 0 (i * 128) 128 (j * 128 + x) = B (j * 128 + x)) := fun j hj => by
    by_cases e : j = i
    · subst e
      exact Or.inl ⟨rfl, by rw [pk_cpy_in (by omega) (by omega)]; congr 1; omega⟩
    · exact Or.inr (fun x hx => pk_cpy_out (by omega))
  refine ⟨w1, w2, w3, w4, fun h => ⟨(w5 h).1, fun j hj h2 => ?_⟩, w6, w7, fun j hj h2 => ?_⟩
  · rcases key j hj with ⟨_, e⟩ | e
    · rw [e]
      exact hb
    · rw [e 1 (by omega)]
      have e0 : va_cpy b B 0 (i * 128) 128 (j * 128) = B (j * 128) := e 0 (by omega)
      exact (w5 h).2 j hj (by rw [← e0]; exact h2)
  · rcases key j hj with ⟨_, e⟩ | e
    · exact plT.gd (by rw [e]; exact hb)
    · have e0 : va_cpy b B 0 (i * 128) 128 (j * 128) = B (j * 128) := e 0 (by omega)
      have h3 := w8 j hj (by rw [← e0]; exact h2)
      intro k hk ek
      rw [e 1 (by omega)] at ek
      rw [e 15 (by omega), e 16 (by omega)]
      exact h3 k hk ek



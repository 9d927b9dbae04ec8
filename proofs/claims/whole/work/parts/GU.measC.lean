/-! mending comes to its end -/
theorem Sm_oneN {f g : Nat → Nat} {a c : Nat} : ∀ {n : Nat}, a < n → (∀ i, i < n → f i ≤ g i) → f a + c ≤ g a → Sm f n + c ≤ Sm g n
  | 0, h, _, _ => absurd h (by omega)
  | n + 1, h, h1, h2 => by
    show Sm f n + f n + c ≤ Sm g n + g n
    have hn := h1 n (Nat.lt_succ_self n)
    by_cases e : a = n
    · subst e
      have := Sm_mono (n := a) (fun i hi => h1 i (by omega))
      omega
    · have := Sm_oneN (f := f) (g := g) (a := a) (c := c) (n := n) (by omega) (fun i hi => h1 i (by omega)) h2
      omega
theorem Sm_ub {f : Nat → Nat} {c : Nat} : ∀ {n : Nat}, (∀ i, i < n → f i ≤ c) → Sm f n ≤ n * c
  | 0, _ => by show 0 ≤ _; omega
  | n + 1, h => by
    show Sm f n + f n ≤ _
    have := Sm_ub (f := f) (c := c) (n := n) (fun i hi => h i (by omega))
    have := h n (Nat.lt_succ_self n)
    rw [Nat.succ_mul]; omega
noncomputable def lvC (P : Pm) (l : Nat) (S : SS) (a : Nat) : Nat := ind (¬ dN S l 16 a < 0 ∧ ¬ alS P l a (tgA (dN S l 11) (dN S l 16) a) S) + ind (¬ dN S l 16 a < 0 ∧ ¬ alM P l a (tgA (dN S l 11) (dN S l 16) a) S)
noncomputable def MC (P : Pm) (l : Nat) (S : SS) : Nat := 14 * Sm (lvC P l S) 961 + Sm (fun n => Xn P.gg (dN S l) S n) P.nn
theorem alS.m {P : Pm} {l a : Nat} {t : Int32} {S : SS} (h : alS P l a t S) : alM P l a t S := fun n hn hm => by
  obtain ⟨s, s1, s2, _⟩ := h n hn hm
  exact ⟨s, s1, s2⟩
theorem rdCm {P : Pm} {g : Gh} {l : Nat} {S T S' : SS} (hP : PmO P) (hSL : SL P) (hl : l < P.nn) (h : RST P l g S) (hc : CSt P l g S) (hF : FBs P l S) (hu : ∃ a, a < 961 ∧ unS P.gg (dN S l) a) (htk : tkR P.nn P.gg P.C P.f S T) (hdr : drR P.nn P.gg P.C P.f T S') : MC P l S' + 14 ≤ MC P l S := by
  obtain ⟨_, _, hfz, hX, hmb, hch⟩ := rdC hP hSL hl h hc htk hdr
  obtain ⟨a0, k0, a01, k01, hf0, hn0, hor⟩ := hch hF hu
  have hL := h.1.lo hl
  have hG := h.1.1.1.go
  have hmS' : ∀ a, mkA P.gg (dN S' l) a = mkA P.gg (dN S l) a := fun a => by unfold mkA; rw [hfz.1 8 (by decide), hfz.1 11 (by decide)]
  have e16 : dN S' l 16 = dN S l 16 := hfz.1 16 (by decide)
  have e11 : dN S' l 11 = dN S l 11 := hfz.1 11 (by decide)
  have up : ∀ a k, a < 961 → k < 5243392 → fndI (dN S l 15) (dN S l 16) (nI k) = nI a → alM P l a (nI k) S → alS P l a (nI k) S' := fun a k ha hk hf hM n hn hm => by
    rw [hmS'] at hm
    exact hmb n k a hn hk ha hf hm (hM n hn hm)
  have lv : ∀ a, a < 961 → lvC P l S' a ≤ lvC P l S a ∧ (a = a0 → alM P l a0 (nI k0) S' → lvC P l S' a + 1 ≤ lvC P l S a) := fun a ha => by
    unfold lvC
    rw [e16, e11]
    by_cases hv : dN S l 16 a < 0
    · rw [ind_f (fun z => z.1 hv), ind_f (fun z => z.1 hv)]
      refine ⟨Nat.zero_le _, fun e => ?_⟩
      exfalso
      rw [e] at hv
      rcases hL.find hP.gg k01 with ⟨z, _⟩ | ⟨a', b1, b2, _, b4, _⟩
      · rw [z] at hf0; exact absurd hf0.symm (nIneg (by omega))
      · have : a' = a0 := nI_inj (by omega) (by omega) (b2.symm.trans hf0)
        rw [← this, b4] at hv
        exact absurd hv (nI_pos (by omega))
    · obtain ⟨k, k1, k2, k3, _⟩ := hL.tgf hG hP.gg ha hv
      rw [k2]
      by_cases cM : alM P l a (nI k) S
      · have cS' := up a k ha k1 k3 cM
        rw [ind_f (fun z => z.2 cS'), ind_f (fun z => z.2 cS'.m)]
        refine ⟨Nat.zero_le _, fun e _ => ?_⟩
        have hk : k = k0 := by
          subst e
          exact hL.tgu hP.gg k1 k01 ha k3 hf0
        rw [ind_t ⟨hv, fun z => hn0 (by rw [← e, ← hk]; exact z)⟩]
        omega
      · rw [ind_t (p := ¬ dN S l 16 a < 0 ∧ ¬ alS P l a (nI k) S) ⟨hv, fun z => cM z.m⟩, ind_t (p := ¬ dN S l 16 a < 0 ∧ ¬ alM P l a (nI k) S) ⟨hv, cM⟩]
        have i1 := ind_1 (¬ dN S l 16 a < 0 ∧ ¬ alS P l a (nI k) S')
        have i2 := ind_1 (¬ dN S l 16 a < 0 ∧ ¬ alM P l a (nI k) S')
        refine ⟨by omega, fun e hM => ?_⟩
        have hk : k = k0 := by
          subst e
          exact hL.tgu hP.gg k1 k01 ha k3 hf0
        rw [ind_f (p := ¬ dN S l 16 a < 0 ∧ ¬ alM P l a (nI k) S') (fun z => z.2 (by rw [e, hk]; exact hM))]
        omega
  unfold MC
  have m1 : Sm (lvC P l S') 961 ≤ Sm (lvC P l S) 961 := Sm_mono (fun a ha => (lv a ha).1)
  have m2 : Sm (fun n => Xn P.gg (dN S' l) S' n) P.nn ≤ Sm (fun n => Xn P.gg (dN S l) S n) P.nn := Sm_mono hX
  rcases hor with q | ⟨j, j1, j2⟩
  · have := Sm_oneN (c := 1) a01 (fun a ha => (lv a ha).1) ((lv a0 a01).2 rfl q)
    omega
  · have := Sm_oneN (f := fun n => Xn P.gg (dN S' l) S' n) (g := fun n => Xn P.gg (dN S l) S n) (c := 14) j1 hX j2
    omega
theorem MC.pos {P : Pm} {g : Gh} {l a : Nat} {S : SS} (hP : PmO P) (hl : l < P.nn) (h : RST P l g S) (hF : FBs P l S) (ha : a < 961) (hu : unS P.gg (dN S l) a) : 14 ≤ MC P l S := by
  have hL := h.1.lo hl
  obtain ⟨k, k1, k2, k3, _⟩ := hL.tgf h.1.1.1.go hP.gg ha hu.1
  obtain ⟨n, n1, n2, n3⟩ := unS_ex hP h.2.2.2 hL ha k1 k3 hu
  have h1 : 1 ≤ lvC P l S a := by
    unfold lvC
    rw [k2, ind_t (p := ¬ dN S l 16 a < 0 ∧ ¬ alS P l a (nI k) S) ⟨hu.1, fun z => by
      have := hF n k a n1 k1 ha k3 (z n n1 n2)
      rw [n3] at this; cases this⟩]
    omega
  have h2 : lvC P l S a ≤ Sm (lvC P l S) 961 := Sm_ge ha
  unfold MC
  omega
/-- the ITEMS of a table -/
noncomputable def tbN (D : Nat → Nat → Int32) : Nat := Sm (fun a => ind (¬ D 16 a < 0)) 961
theorem MC.top {P : Pm} {l : Nat} {S : SS} (hP : PmO P) (hb : tbN (dN S l) ≤ 170) : MC P l S ≤ 6440 := by
  have h1 : Sm (lvC P l S) 961 ≤ Sm (fun a => ind (¬ dN S l 16 a < 0) + ind (¬ dN S l 16 a < 0)) 961 := Sm_mono (fun a _ => by
    unfold lvC
    by_cases hv : dN S l 16 a < 0
    · rw [ind_f (fun z => z.1 hv), ind_f (fun z => z.1 hv)]; exact Nat.zero_le _
    · rw [ind_t hv]
      have i1 := ind_1 (¬ dN S l 16 a < 0 ∧ ¬ alS P l a (tgA (dN S l 11) (dN S l 16) a) S)
      have i2 := ind_1 (¬ dN S l 16 a < 0 ∧ ¬ alM P l a (tgA (dN S l 11) (dN S l 16) a) S)
      omega)
  rw [Sm_two] at h1
  unfold tbN at hb
  have h2 : Sm (fun n => Xn P.gg (dN S l) S n) P.nn ≤ P.nn * 280 := Sm_ub (fun n _ => Sm_nn (fun _ => ind_1 _) _)
  have := hP.nn
  unfold MC
  have : P.nn * 280 ≤ 6 * 280 := Nat.mul_le_mul_right _ hP.nn
  omega
/-- settle ends within n rounds -/
def Ends (P : Pm) (n : Nat) (S : SS) : Prop := ∀ k t Sf, n ≤ k → ¬ t = 0 → stl P.nn P.gg P.C P.f k t S Sf → dnP P.nn P.gg P.f Sf
theorem Ends.mono {P : Pm} {n n' : Nat} {S : SS} (h : Ends P n S) (hn : n ≤ n') : Ends P n' S := fun k t Sf hk => h k t Sf (Nat.le_trans hn hk)
theorem Ends.done {P : Pm} {S : SS} (h : dnP P.nn P.gg P.f S) : Ends P 0 S := fun k t Sf _ _ hs => by
  cases k with
  | zero => rw [show Sf = S from hs]; exact h
  | succ k =>
    rcases (show (dnP P.nn P.gg P.f S ∧ Sf = S) ∨ (¬ dnP P.nn P.gg P.f S ∧ ∃ S1 S2 : SS, ((t = 0 ∧ S1 = S) ∨ (¬ t = 0 ∧ tkR P.nn P.gg P.C P.f S S1)) ∧ drR P.nn P.gg P.C P.f S1 S2 ∧ stl P.nn P.gg P.C P.f k (t + 1) S2 Sf) from hs) with ⟨_, e⟩ | ⟨z, _⟩
    · rw [e]; exact h
    · exact absurd h z
theorem Ends.step {P : Pm} {n : Nat} {S : SS} (h : ∀ T S', tkR P.nn P.gg P.C P.f S T → drR P.nn P.gg P.C P.f T S' → Ends P n S') : Ends P (n + 1) S := fun k t Sf hk ht hs => by
  cases k with
  | zero => omega
  | succ k =>
    rcases (show (dnP P.nn P.gg P.f S ∧ Sf = S) ∨ (¬ dnP P.nn P.gg P.f S ∧ ∃ S1 S2 : SS, ((t = 0 ∧ S1 = S) ∨ (¬ t = 0 ∧ tkR P.nn P.gg P.C P.f S S1)) ∧ drR P.nn P.gg P.C P.f S1 S2 ∧ stl P.nn P.gg P.C P.f k (t + 1) S2 Sf) from hs) with ⟨z, e⟩ | ⟨_, S1, S2, w1, w2, w3⟩
    · rw [e]; exact z
    · rcases w1 with ⟨w, _⟩ | ⟨_, w1⟩
      · exact absurd w ht
      · exact h S1 S2 w1 w2 k (t + 1) Sf (by omega) (by omega) w3
/-- all is safe -/
def QDn (P : Pm) (l : Nat) (g : Gh) (S : SS) : Prop := RST P l g S ∧ CSt P l g S ∧ FBs P l S ∧ PDt P l S ∧ ∀ a, a < 961 → ¬ unS P.gg (dN S l) a
theorem mend_end {P : Pm} {l N : Nat} (hP : PmO P) (hSL : SL P) (hl : l < P.nn) (hE : ∀ g S, QDn P l g S → Ends P N S) (m : Nat) : ∀ (g : Gh) (S : SS), RST P l g S → CSt P l g S → FBs P l S → PDt P l S → MC P l S < 14 * (m + 1) → Ends P (m + N) S := by
  induction m with
  | zero =>
    intro g S h hc hF hp hm
    by_cases hu : ∃ a, a < 961 ∧ unS P.gg (dN S l) a
    · obtain ⟨a, a1, a2⟩ := hu
      have := MC.pos hP hl h hF a1 a2
      omega
    · exact (hE g S ⟨h, hc, hF, hp, fun a ha z => hu ⟨a, ha, z⟩⟩).mono (by omega)
  | succ m ih =>
    intro g S h hc hF hp hm
    by_cases hu : ∃ a, a < 961 ∧ unS P.gg (dN S l) a
    · rw [show m + 1 + N = (m + N) + 1 by omega]
      refine Ends.step (fun T S' htk hdr => ?_)
      have := rdCm hP hSL hl h hc hF hu htk hdr
      obtain ⟨⟨g', hg', h', hc'⟩, ⟨hF', hp'⟩, _⟩ := rdC hP hSL hl h hc htk hdr
      exact ih g' S' h' hc' hF' hp' (by omega)
    · exact (hE g S ⟨h, hc, hF, hp, fun a ha z => hu ⟨a, ha, z⟩⟩).mono (by omega)

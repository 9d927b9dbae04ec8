/-! a drain comes to its end -/
theorem Nn_gs {g g' : Gh} (h : Gs g g') : Nn g' = Nn g := funext (fun x => by unfold Nn; rw [h.ops, h.le.sn])
theorem Ph_gs {g g' : Gh} (h : Gs g g') (D : Nat → Nat → Int32) (K A : Int64) : Ph g' D K A = Ph g D K A := by unfold Ph; rw [Nn_gs h]
theorem nJ_gs {g g' : Gh} (h : Gs g g') (e : Nat) (D : Nat → Nat → Int32) (x : Nat) : nJ g' e D x = nJ g e D x := by unfold nJ; rw [Nn_gs h]
theorem lds_gs {P : Pm} {g g' : Gh} (h : Gs g g') (j e : Nat) : lds P g' j e = lds P g j e := by unfold lds; rw [h.mp]
theorem VN_gs {P : Pm} {g g' : Gh} (h : Gs g g') (ip : Nat → Prop) (j e : Nat) (D : Nat → Nat → Int32) (K A : Int64) : VN P g' ip j e D K A = VN P g ip j e D K A := by
  unfold VN uns
  rw [Ph_gs h, h.ep]
  simp only [lds_gs h]
theorem Ne_gs {P : Pm} {g g' : Gh} (h : Gs g g') (S : SS) (e : Nat) : Ne P g' S e = Ne P g S e := by
  unfold Ne lam
  rw [nJ_gs h, h.mp]
theorem WmL_gs {P : Pm} {g g' : Gh} (h : Gs g g') (S : SS) : ∀ l : List Mg, WmL P g' S l = WmL P g S l
  | [] => rfl
  | x :: l => by
    show wk (Ne P g' S (epM x)) (x.1 0) + WmL P g' S l = wk (Ne P g S (epM x)) (x.1 0) + WmL P g S l
    rw [WmL_gs h S l, Ne_gs h]
theorem Vs_gs {P : Pm} {g g' : Gh} (h : Gs g g') (ip : Nat → Prop) (S : SS) : Vs P g' ip S = Vs P g ip S := by
  unfold Vs
  rw [WmL_gs h, h.bg]
  simp only [VN_gs h]
theorem Vs_E {P : Pm} {g : Gh} {ip : Nat → Prop} {S : SS} {E' : Nat → Nat → Int32} {Q' : Nat → Mg} {ms' : List Mg} : Vs P g ip (E', Q', ms', S.2.2.2) = WmL P g S ms' + Sm (fun j => VN P g ip j (eN S j) (S.2.2.2.1 j) (S.2.2.2.2.1 j) (S.2.2.2.2.2 j)) P.nn + 123 * (g.bg - (E' 4 9).toNatClampNeg) := by
  have hW : ∀ l : List Mg, WmL P g (E', Q', ms', S.2.2.2) l = WmL P g S l := fun l => by
    induction l with
    | nil => rfl
    | cons x l ih =>
      show wM P g (E', Q', ms', S.2.2.2) x + _ = wM P g S x + _
      rw [ih]; rfl
  unfold Vs
  rw [hW]
  rfl
theorem askM_0 (nn : Nat) (a c d p s : Int32) (A : Mg) (bm : Nat → Int32) : (askM nn a c d p s A bm).1 0 = 2 := by
  unfold askM
  simp only [va_up_n _ _ (show (0 : Nat) ≠ 5 by decide), va_up_n _ _ (show (0 : Nat) ≠ 6 by decide), va_up_n _ _ (show (0 : Nat) ≠ 7 by decide)]
  rfl
theorem askM_3 (nn : Nat) (a c d p s : Int32) (A : Mg) (bm : Nat → Int32) : (askM nn a c d p s A bm).1 3 = p := by
  unfold askM
  simp only [va_up_n _ _ (show (3 : Nat) ≠ 5 by decide), va_up_n _ _ (show (3 : Nat) ≠ 6 by decide), va_up_n _ _ (show (3 : Nat) ≠ 7 by decide)]
  rfl
/-- those who ask hear -/
theorem hand_a {P : Pm} {g : Gh} {ip : Nat → Prop} {S S' : SS} {x : Mg} (h : GI P g S) (hM : ∀ y ∈ S.2.2.1, MS P g y) (hr : ahR P.nn P.f x S S') :
    Vs P g ip S' + 1 ≤ Vs P g ip S + wM P g S x ∧ (∀ y ∈ S'.2.2.1, MS P g y ∧ ((∃ y' ∈ S.2.2.1, epM y = epM y') ∨ epM y = g.ep)) ∧ S'.2.2.2 = S.2.2.2 := by
  have hw : 1 ≤ wM P g S x := wk1
  obtain ⟨he, ha⟩ := h.as
  have h5 := h.go.1
  rcases hr with ⟨_, z⟩ | ⟨_, _, z⟩ | ⟨_, ⟨_, _, c3⟩, ms', z, zr⟩
  · have e : Vs P g ip S' = Vs P g ip S := by
      rw [z]
      have := Vs_E (P := P) (g := g) (ip := ip) (S := S) (E' := va_up S.1 4 (upd (S.1 4) 15 ((S.1 4 15) ||| ((1 : Int32) <<< (x.1 1 &&& 31))))) (Q' := S.2.1) (ms' := S.2.2.1)
      refine this.trans ?_
      rw [va_up_s, pk_un (by decide)]
      rfl
    exact ⟨by omega, fun y hy => by rw [z] at hy; exact ⟨hM y hy, Or.inl ⟨y, hy, rfl⟩⟩, by rw [z]⟩
  · rw [z]
    exact ⟨by omega, fun y hy => ⟨hM y hy, Or.inl ⟨y, hy, rfl⟩⟩, rfl⟩
  · have hcl : (S.1 4 9).toNatClampNeg = he := by rw [ha.h2, nI_clamp (by have := ha.h1; omega)]
    have hlt : he < g.bg := by
      rw [ha.h2, ha.bg] at c3
      exact (nI_ltI (by have := ha.h1; omega) (by omega)).mp c3
    have h9 : (S'.1 4 9).toNatClampNeg = he + 1 := by
      rw [z, hcl]
      show (heE S.1 _ he (x.1 6) 4 9).toNatClampNeg = _
      unfold heE
      rw [va_up_n _ _ (by decide), va_up_s]
      split
      · rw [pk_us, nI_clamp (by omega)]
      · rw [pk_un (by decide), pk_us, nI_clamp (by omega)]
    have h13 : S'.1 4 13 = S.1 4 13 := by
      rw [z, hcl]
      show heE S.1 _ he (x.1 6) 4 13 = _
      unfold heE
      rw [va_up_n _ _ (by decide), va_up_s]
      split
      · rw [pk_un (by decide)]
      · rw [pk_un (by decide), pk_un (by decide)]
    have hD : S'.2.2.2 = S.2.2.2 := by rw [z]
    have hms : S'.2.2.1 = ms' := by rw [z]
    have hV : Vs P g ip S' = WmL P g S ms' + Sm (fun j => VN P g ip j (eN S j) (S.2.2.2.1 j) (S.2.2.2.2.1 j) (S.2.2.2.2.2 j)) P.nn + 123 * (g.bg - (he + 1)) := by
      rw [← h9]
      have : S' = (S'.1, S'.2.1, ms', S.2.2.2) := by rw [← hD, ← hms]
      rw [this]
      exact Vs_E
    have hV0 : Vs P g ip S = WmL P g S S.2.2.1 + Sm (fun j => VN P g ip j (eN S j) (S.2.2.2.1 j) (S.2.2.2.2.1 j) (S.2.2.2.2.2 j)) P.nn + 123 * (g.bg - he) := by unfold Vs; rw [hcl]
    -- ASK
    have hask : ms' = S.2.2.1 ∨ ∃ y : Mg, ms' = pst S.2.2.1 y ∧ y.1 0 = 2 ∧ y.1 3 = S.1 4 13 := by
      rcases zr with ⟨_, q⟩ | ⟨_, _, bm, q⟩
      · exact Or.inl q
      · refine Or.inr ⟨_, q, ?_, ?_⟩
        · exact askM_0 _ _ _ _ _ _ _ _
        · exact (askM_3 _ _ _ _ _ _ _ _).trans h13
    refine ⟨?_, fun y hy => ?_, hD⟩
    · have hWm : WmL P g S ms' ≤ WmL P g S S.2.2.1 + 123 := by
        rcases hask with q | ⟨y, q, q0, _⟩
        · rw [q]; omega
        · rw [q]
          have := WmL_psl (P := P) (g := g) (S := S) [y] S.2.2.1
          have e : WmL P g S [y] = 123 := by
            show wk _ (y.1 0) + 0 = 123
            rw [q0]; rfl
          rw [e] at this
          exact this
      rw [hV, hV0]
      omega
    · rw [hms] at hy
      rcases hask with q | ⟨w, q, q0, q3⟩
      · rw [q] at hy; exact ⟨hM y hy, Or.inl ⟨y, hy, rfl⟩⟩
      · rw [q] at hy
        rcases pst_in hy with r | r
        · exact ⟨hM y r, Or.inl ⟨y, r, rfl⟩⟩
        · rw [r]
          exact ⟨MS.no (by rw [q0]; decide) (by rw [q0]; decide) (by rw [q0]; decide) (by rw [q0]; decide), Or.inr (by unfold epM; rw [q3, ha.ep.1, nI_clamp (by have := h.ep.1; omega)])⟩
/-- one hand-over in settle -/
theorem th_V {P : Pm} {g : Gh} {ip : Nat → Prop} {S S' : SS} (hP : PmO P) (h : SU P g S) (hi : ∀ x ∈ S.2.2.1, ip (epM x)) (hie : ip g.ep) (hr : thR P.nn P.gg P.C P.f S S') : ∃ g', Gs g g' ∧ SU P g' S' ∧ (∀ x ∈ S'.2.2.1, ip (epM x)) ∧ Vs P g' ip S' + 1 ≤ Vs P g ip S ∧ S'.1 100 = S.1 100 := by
  obtain ⟨x, S1, r1, r2⟩ := hr
  obtain ⟨hg, hu, hM⟩ := h
  obtain ⟨a1, ⟨e2, a2⟩, a3⟩ := hg.take r1.tkM
  obtain ⟨g', b1, b2, b3⟩ := a1.hand hP ⟨e2, a2⟩ r2
  have hperm : (x :: S1.2.2.1).Perm S.2.2.1 := by rw [r1.2]; exact tkl_perm r1.1
  have hx : x ∈ S.2.2.1 := hperm.mem_iff.mp List.mem_cons_self
  have hsub : ∀ y ∈ S1.2.2.1, y ∈ S.2.2.1 := fun y hy => hperm.mem_iff.mp (List.mem_cons_of_mem _ hy)
  have hM1 : ∀ y ∈ S1.2.2.1, MS P g y := fun y hy => hM y (hsub y hy)
  have hx2 : epM x = e2 := by unfold epM; rw [a2.ep.1, nI_clamp (by have := a2.ep.2.1; have := hg.ep.1; omega)]
  have hS1 : S1 = (S.1, S.2.1, tkl S.2.2.1 0, S.2.2.2) := r1.2
  have hV1 : Vs P g ip S1 + wM P g S1 x = Vs P g ip S := by
    have e1 : Vs P g ip S1 = WmL P g S (tkl S.2.2.1 0) + Sm (fun j => VN P g ip j (eN S j) (S.2.2.2.1 j) (S.2.2.2.2.1 j) (S.2.2.2.2.2 j)) P.nn + 123 * (g.bg - (S.1 4 9).toNatClampNeg) := by rw [hS1]; exact Vs_E
    have e2 : wM P g S1 x = wM P g S x := by rw [hS1]; rfl
    have e3 : wM P g S x + WmL P g S (tkl S.2.2.1 0) = WmL P g S S.2.2.1 := WmL_perm (l := x :: tkl S.2.2.1 0) (by rw [hS1] at hperm; exact hperm)
    have e4 : Vs P g ip S = WmL P g S S.2.2.1 + Sm (fun j => VN P g ip j (eN S j) (S.2.2.2.1 j) (S.2.2.2.2.1 j) (S.2.2.2.2.2 j)) P.nn + 123 * (g.bg - (S.1 4 9).toNatClampNeg) := rfl
    rw [e1, e2, e4]
    omega
  have hup1 : ∀ j, j < P.nn → ¬ S1.2.2.2.1 j 0 6 = 0 := fun j hj => by rw [hS1]; exact hu j hj
  have fin : (Vs P g ip S' + 1 ≤ Vs P g ip S1 + wM P g S1 x ∧ (∀ y ∈ S'.2.2.1, MS P g y ∧ ip (epM y)) ∧ ∀ j, j < P.nn → ¬ S'.2.2.2.1 j 0 6 = 0) → ∃ g', Gs g g' ∧ SU P g' S' ∧ (∀ x ∈ S'.2.2.1, ip (epM x)) ∧ Vs P g' ip S' + 1 ≤ Vs P g ip S ∧ S'.1 100 = S.1 100 := fun ⟨c1, c2, c3⟩ =>
    ⟨g', b1, ⟨b2, c3, fun y hy => (c2 y hy).1.mono b1.le⟩, fun y hy => (c2 y hy).2, by rw [Vs_gs b1]; omega, by rw [b3, a3]⟩
  rcases r2 with ⟨_, z⟩ | ⟨j, j1, j2, j3, j4⟩ | ⟨_, _, z⟩
  · obtain ⟨c1, c2, c3⟩ := hand_a (ip := ip) a1 hM1 z
    refine fin ⟨c1, fun y hy => ⟨(c2 y hy).1, ?_⟩, fun j hj => by rw [c3]; exact hup1 j hj⟩
    rcases (c2 y hy).2 with ⟨y', q1, q2⟩ | q
    · rw [q2]; exact hi y' (hsub y' q1)
    · rw [q]; exact hie
  · obtain ⟨c1, c2, c3, _⟩ := hand_n (ip := ip) hP a1 j1 j3 hM1 a2 (hM x hx) (by rw [← hx2]; exact hi x hx) j4
    refine fin ⟨c1, fun y hy => ⟨(c2 y hy).1, ?_⟩, fun i hi' => c3 i hi' (hup1 i hi')⟩
    rcases (c2 y hy).2 with ⟨y', q1, q2⟩ | q
    · rw [q2]; exact hi y' (hsub y' q1)
    · rw [q, ← hx2]; exact hi x hx
  · rw [z]
    rw [z] at fin
    have hw : 1 ≤ wM P g S1 x := wk1
    exact fin ⟨by omega, fun y hy => ⟨hM1 y hy, hi y (hsub y hy)⟩, hup1⟩
theorem it_V {P : Pm} {ip : Nat → Prop} (hP : PmO P) : ∀ (k : Nat) {g : Gh} {S S' : SS}, SU P g S → (∀ x ∈ S.2.2.1, ip (epM x)) → ip g.ep → itR (thR P.nn P.gg P.C P.f) k S S' → ∃ g', Gs g g' ∧ SU P g' S' ∧ (∀ x ∈ S'.2.2.1, ip (epM x)) ∧ Vs P g' ip S' + k ≤ Vs P g ip S ∧ S'.1 100 = S.1 100
  | 0, g, S, S', h, hi, hie, hr => by
    have hr : S' = S := hr
    rw [hr]; exact ⟨g, Gs.rf g, h, hi, Nat.le_refl _, rfl⟩
  | k + 1, g, S, S', h, hi, hie, hr => by
    obtain ⟨S1, r1, r2⟩ := hr
    obtain ⟨g1, a1, a2, a3, a4, a5⟩ := it_V hP k h hi hie r1
    obtain ⟨g2, b1, b2, b3, b4, b5⟩ := th_V hP a2 a3 (by rw [a1.ep]; exact hie) r2
    exact ⟨g2, a1.tr b1, b2, b3, by omega, by rw [b5, a5]⟩

/-! the potential of the whole store: each hand-over takes something away from it -/
def eN (S : SS) (j : Nat) : Nat := (S.2.2.2.1 j 0 7).toNatClampNeg
def epM (x : Mg) : Nat := (x.1 3).toNatClampNeg
def lam (P : Pm) (g : Gh) (e : Nat) : Nat := (nof P.f 0 (g.mp e) P.nn 0 0).toNatClampNeg
theorem lds_lam {P : Pm} {g : Gh} {j e : Nat} (hj : j < 2 ^ 31) (h : lds P g j e) : lam P g e = j := by
  unfold lds ldB at h
  unfold lam
  by_cases c : nof P.f 0 (g.mp e) P.nn 0 0 = nI j
  · rw [c, nI_clamp hj]
  · rw [if_neg c] at h; exact absurd rfl h
noncomputable def Ne (P : Pm) (g : Gh) (S : SS) (e : Nat) : Nat := nJ g (eN S (lam P g e)) (S.2.2.2.1 (lam P g e)) e
noncomputable def wM (P : Pm) (g : Gh) (S : SS) (x : Mg) : Nat := wk (Ne P g S (epM x)) (x.1 0)
noncomputable def WmL (P : Pm) (g : Gh) (S : SS) : List Mg → Nat
  | [] => 0
  | x :: l => wM P g S x + WmL P g S l
noncomputable def Vs (P : Pm) (g : Gh) (ip : Nat → Prop) (S : SS) : Nat := WmL P g S S.2.2.1 + Sm (fun j => VN P g ip j (eN S j) (S.2.2.2.1 j) (S.2.2.2.2.1 j) (S.2.2.2.2.2 j)) P.nn + 123 * (g.bg - (S.1 4 9).toNatClampNeg)
theorem WmL_app (P : Pm) (g : Gh) (S : SS) : ∀ (l m : List Mg), WmL P g S (l ++ m) = WmL P g S l + WmL P g S m
  | [], m => (Nat.zero_add _).symm
  | x :: l, m => by
    show wM P g S x + WmL P g S (l ++ m) = wM P g S x + WmL P g S l + WmL P g S m
    rw [WmL_app P g S l m, Nat.add_assoc]
theorem WmL_perm {P : Pm} {g : Gh} {S : SS} {l m : List Mg} (h : l.Perm m) : WmL P g S l = WmL P g S m := by
  induction h with
  | nil => rfl
  | cons x _ ih => show wM P g S x + _ = wM P g S x + _; rw [ih]
  | swap x y l =>
    show wM P g S y + (wM P g S x + WmL P g S l) = wM P g S x + (wM P g S y + WmL P g S l)
    omega
  | trans _ _ ih1 ih2 => exact ih1.trans ih2
theorem WmL_psl {P : Pm} {g : Gh} {S : SS} : ∀ (Z Y : List Mg), WmL P g S (psl Y Z) ≤ WmL P g S Y + WmL P g S Z
  | [], Y => Nat.le_refl _
  | z :: Z, Y => by
    have h1 := WmL_psl (P := P) (g := g) (S := S) Z (pst Y z)
    have h2 : WmL P g S (pst Y z) ≤ WmL P g S Y + wM P g S z := by
      unfold pst
      split
      · rw [WmL_app]
        show _ + (wM P g S z + 0) ≤ _
        omega
      · omega
    show WmL P g S (psl (pst Y z) Z) ≤ WmL P g S Y + (wM P g S z + WmL P g S Z)
    omega
theorem WmL_sm {P : Pm} {g : Gh} {S : SS} : ∀ {l m : List Mg}, smL l m → WmL P g S l = WmL P g S m
  | [], [], _ => rfl
  | x :: l, y :: m, h => by
    show wM P g S x + WmL P g S l = wM P g S y + WmL P g S m
    rw [WmL_sm h.2]
    unfold wM epM
    rw [h.1.1]
theorem WmL_mono {P : Pm} {g : Gh} {S S' : SS} (h : ∀ e, Ne P g S' e ≤ Ne P g S e) : ∀ l : List Mg, WmL P g S' l ≤ WmL P g S l
  | [] => Nat.le_refl _
  | x :: l => by
    have h1 := WmL_mono h l
    have h2 := wk_mono (h (epM x)) (x.1 0)
    show wk _ (x.1 0) + WmL P g S' l ≤ wk _ (x.1 0) + WmL P g S l
    omega
theorem WmL_Wt {P : Pm} {g : Gh} {S : SS} {e2 : Nat} : ∀ {Z : List Mg}, (∀ z ∈ Z, epM z = e2) → WmL P g S Z = Wt (Ne P g S e2) Z
  | [], _ => rfl
  | z :: Z, h => by
    show wk (Ne P g S (epM z)) (z.1 0) + WmL P g S Z = wk (Ne P g S e2) (z.1 0) + Wt (Ne P g S e2) Z
    rw [h z List.mem_cons_self, WmL_Wt (fun y hy => h y (List.mem_cons_of_mem _ hy))]
theorem Sm_chg {f h : Nat → Nat} {j n : Nat} (hj : j < n) (he : ∀ i, i ≠ j → h i = f i) : Sm h n + f j = Sm f n + h j := Sm_upd hj (fun i _ hi => he i hi)
theorem smL_mem : ∀ {l m : List Mg} {y : Mg}, smL l m → y ∈ l → ∃ y', y' ∈ m ∧ smM y y'
  | [], [], y, _, h => by cases h
  | x :: l, z :: m, y, h, hy => by
    rcases List.mem_cons.mp hy with e | e
    · rw [e]; exact ⟨z, List.mem_cons_self, h.1⟩
    · obtain ⟨y', a, b⟩ := smL_mem h.2 e
      exact ⟨y', List.mem_cons_of_mem _ a, b⟩
/-- in settle: all NODES UP, MESSAGES as they must be -/
def SU (P : Pm) (g : Gh) (S : SS) : Prop := GI P g S ∧ (∀ j, j < P.nn → ¬ S.2.2.2.1 j 0 6 = 0) ∧ (∀ x ∈ S.2.2.1, MS P g x)
theorem SU.b12 {P : Pm} {g : Gh} {S : SS} (h : GI P g S) : g.bg ≤ g.sn + 12 := by
  obtain ⟨he, ha⟩ := h.as
  exact ha.se.2.1
/-- a NODE hears: its part -/
theorem hand_n {P : Pm} {g : Gh} {ip : Nat → Prop} {S S' : SS} {x : Mg} {j e2 : Nat} (hP : PmO P) (h : GI P g S) (hj : j < P.nn) (hup : ¬ S.2.2.2.1 j 0 6 = 0) (hM : ∀ y ∈ S.2.2.1, MS P g y) (hm : MO P g e2 x) (hs : MS P g x) (hip : ip e2) (hr : nodR (F_55 P.nn P.gg P.C (nI j) P.f x.1 x.2 (S.2.2.2.1 j) (S.2.2.2.2.1 j) (S.2.2.2.2.2 j) S.2.2.1) j S S') :
    Vs P g ip S' + 1 ≤ Vs P g ip S + wM P g S x ∧ (∀ y ∈ S'.2.2.1, MS P g y ∧ ((∃ y' ∈ S.2.2.1, epM y = epM y') ∨ epM y = e2)) ∧ (∀ i, i < P.nn → ¬ S.2.2.2.1 i 0 6 = 0 → ¬ S'.2.2.2.1 i 0 6 = 0) ∧ S'.1 = S.1 := by
  have hep := h.ep.1
  rcases h.nd j hj with ⟨y, _⟩ | ⟨_, e, hN⟩
  · exact absurd y hup
  obtain ⟨D', K', A', Z, r1, r2, r3⟩ := hear_y (A := S.2.2.2.2.2 j) (Y := S.2.2.1) h.go (SU.b12 h) (by omega) hP.gg hP.nn hP.f hj hN hm hs
  obtain ⟨e', ⟨v1, v2, v3⟩, w1, w2, w3, w4⟩ := r3.v (ip := ip) hN hm.ep.2.1 hip
  obtain ⟨ms', m1, m2⟩ := hr
  rw [r1] at m1 m2
  have hx3 : epM x = e2 := by
    unfold epM
    rw [hm.ep.1, nI_clamp (by have := hm.ep.2.1; omega)]
  have hej : eN S j = e := by unfold eN; rw [hN.ep.1, nI_clamp (by have := hN.ep.2.1; omega)]
  have hDj : S'.2.2.2.1 j = D' := by rw [m2]; exact va_up_s _ _ _
  have hDi : ∀ i, i ≠ j → S'.2.2.2.1 i = S.2.2.2.1 i := fun i hi => by rw [m2]; exact va_up_n _ _ hi
  have hej' : eN S' j = e' := by unfold eN; rw [hDj, w1, nI_clamp (by omega)]
  have hei : ∀ i, i ≠ j → eN S' i = eN S i := fun i hi => by unfold eN; rw [hDi i hi]
  have hNe : ∀ x, Ne P g S' x ≤ Ne P g S x := fun x => by
    unfold Ne
    by_cases c : lam P g x = j
    · rw [c, hej', hDj, hej]; exact v3 x
    · rw [hei _ c, hDi _ c]; exact Nat.le_refl _
  have hms : S'.2.2.1 = ms' := by rw [m2]
  have hZ : ∀ z ∈ Z, epM z = e2 := fun z hz => by
    unfold epM
    rw [(r2 z hz).2, nI_clamp (by have := hm.ep.2.1; omega)]
  refine ⟨?_, fun y hy => ?_, fun i hi hu => ?_, by rw [m2]⟩
  · -- the MESSAGES
    have a1 : WmL P g S' S'.2.2.1 ≤ WmL P g S S.2.2.1 + Wt (Ne P g S' e2) Z := by
      rw [hms, WmL_sm m1]
      have b1 := WmL_psl (P := P) (g := g) (S := S') Z S.2.2.1
      have b2 := WmL_mono hNe S.2.2.1
      rw [WmL_Wt hZ] at b1
      exact Nat.le_trans b1 (Nat.add_le_add_right b2 _)
    -- the NODES
    have a2 := Sm_chg (f := fun i => VN P g ip i (eN S i) (S.2.2.2.1 i) (S.2.2.2.2.1 i) (S.2.2.2.2.2 i)) (h := fun i => VN P g ip i (eN S' i) (S'.2.2.2.1 i) (S'.2.2.2.2.1 i) (S'.2.2.2.2.2 i)) (j := j) (n := P.nn) hj (fun i hi => by
      show VN P g ip i (eN S' i) (S'.2.2.2.1 i) (S'.2.2.2.2.1 i) (S'.2.2.2.2.2 i) = VN P g ip i (eN S i) (S.2.2.2.1 i) (S.2.2.2.2.1 i) (S.2.2.2.2.2 i)
      rw [hei i hi, hDi i hi, m2]
      show VN P g ip i (eN S i) (S.2.2.2.1 i) (va_up S.2.2.2.2.1 j K' i) (va_up S.2.2.2.2.2 j A' i) = _
      rw [va_up_n _ _ hi, va_up_n _ _ hi])
    have e1 : VN P g ip j (eN S' j) (S'.2.2.2.1 j) (S'.2.2.2.2.1 j) (S'.2.2.2.2.2 j) = VN P g ip j e' D' K' A' := by
      rw [hej', hDj, m2]
      show VN P g ip j e' D' (va_up S.2.2.2.2.1 j K' j) (va_up S.2.2.2.2.2 j A' j) = _
      rw [va_up_s, va_up_s]
    have e2' : VN P g ip j (eN S j) (S.2.2.2.1 j) (S.2.2.2.2.1 j) (S.2.2.2.2.2 j) = VN P g ip j e (S.2.2.2.1 j) (S.2.2.2.2.1 j) (S.2.2.2.2.2 j) := by rw [hej]
    have key : Wt (Ne P g S' e2) Z + VN P g ip j e' D' K' A' + 1 ≤ VN P g ip j e (S.2.2.2.1 j) (S.2.2.2.2.1 j) (S.2.2.2.2.2 j) + wM P g S x := by
      unfold wM
      rw [hx3]
      by_cases hl : lds P g j e2
      · have hlam := lds_lam (show j < 2 ^ 31 by have := hP.nn; omega) hl
        have q1 : Ne P g S' e2 = nJ g e' D' e2 := by unfold Ne; rw [hlam, hej', hDj]
        have q2 : Ne P g S e2 = nJ g e (S.2.2.2.1 j) e2 := by unfold Ne; rw [hlam, hej]
        rw [q1, q2]; exact v1 hl
      · have q1 := v2 hl (Ne P g S' e2)
        have q2 := wk_mono (hNe e2) (x.1 0)
        omega
    have e3 : S'.1 = S.1 := by rw [m2]
    unfold Vs
    rw [e3]
    simp only [e1, e2'] at a2
    omega
  · rw [hms] at hy
    obtain ⟨y', y1, y2⟩ := smL_mem m1 hy
    have hMS : ∀ y', MS P g y' → smM y y' → MS P g y := fun y' hh hsm => by
      have e := hsm.1
      refine ⟨fun z => ?_, fun z => ?_, fun z => ?_, fun z => ?_⟩
      · obtain ⟨c, c1, c2, c3, c4⟩ := hh.1 (by rw [← e]; exact z)
        have hr : rlv y.1 = c := by
          unfold rlv
          rw [e, c2, if_neg (by rw [← e, z]; decide), if_neg (by rw [← e, z]; decide), if_pos (Or.inl (by rw [← e]; exact z)), nI_clamp (by omega)]
        have hw : ∀ i, i < c → y.2 i = y'.2 i := fun i hi => hsm.2 i (by rw [hr]; exact hi)
        exact ⟨c, c1, by rw [e]; exact c2, fun i k hi hk ek => c3 i k hi hk (by rw [← hw i hi, ← hw k hk]; exact ek), fun i hi => by rw [hw i hi]; exact c4 i hi⟩
      · rw [e]; exact hh.2.1 (by rw [← e]; exact z)
      · rw [e]; exact hh.2.2.1 (by rw [← e]; exact z)
      · rw [e]; exact hh.2.2.2 (by rw [← e]; exact z)
    have heM : epM y = epM y' := by unfold epM; rw [y2.1]
    rcases psl_in Z y1 with q | q
    · exact ⟨hMS y' (hM y' q) y2, Or.inl ⟨y', q, heM⟩⟩
    · exact ⟨hMS y' (r2 y' q).1 y2, Or.inr (by rw [heM]; exact hZ y' q)⟩
  · by_cases c : i = j
    · subst c
      rw [hDj, w4]; exact hu
    · rw [hDi i c]; exact hu

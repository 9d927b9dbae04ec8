/-! the potential is less than 1,000,000 -/
theorem nJ_13 (g : Gh) (e : Nat) (D : Nat → Nat → Int32) (x : Nat) : nJ g e D x ≤ 13 := by
  unfold nJ
  split
  · exact Nat.le_refl _
  · split
    · exact Nn_13 _ _
    · omega
theorem wk_123 {N : Nat} (h : N ≤ 13) (k : Int32) : wk N k ≤ 123 := by
  unfold wk
  repeat' split
  all_goals omega
theorem WmL_le (P : Pm) (g : Gh) (S : SS) : ∀ l : List Mg, WmL P g S l ≤ 123 * l.length
  | [] => Nat.zero_le _
  | x :: l => by
    have h1 := WmL_le P g S l
    have h2 : wM P g S x ≤ 123 := wk_123 (nJ_13 _ _ _ _) _
    show wM P g S x + WmL P g S l ≤ 123 * (l.length + 1)
    omega
theorem Ph_le (g : Gh) (D : Nat → Nat → Int32) (K A : Int64) : Ph g D K A ≤ 7010 := by
  have h1 := Nn_13 g (D 16 960)
  have h2 := TN_le h1
  have h3 := zA_le A
  have h4 := wSt_le (D 18 3)
  rw [TN_13] at h2
  unfold Ph
  have h5 : (if knA K (D 10 9) = 0 then 6 * (12 + 2 * Nn g (D 16 960)) else 0) ≤ 228 := by split <;> omega
  generalize (if knA K (D 10 9) = 0 then 6 * (12 + 2 * Nn g (D 16 960)) else 0) = X at h5 ⊢
  omega
theorem Sm_two {f h : Nat → Nat} : ∀ n, Sm (fun i => f i + h i) n = Sm f n + Sm h n
  | 0 => rfl
  | n + 1 => by
    show Sm (fun i => f i + h i) n + (f n + h n) = Sm f n + f n + (Sm h n + h n)
    rw [Sm_two n]; omega
theorem Sm_swp2 {a : Nat → Nat → Nat} {M : Nat} : ∀ n, Sm (fun j => Sm (fun e => a j e) M) n = Sm (fun e => Sm (fun j => a j e) n) M
  | 0 => by
    show 0 = Sm (fun e => 0) M
    exact (Sm_z (fun _ _ => rfl)).symm
  | n + 1 => by
    show Sm (fun j => Sm (fun e => a j e) M) n + Sm (fun e => a n e) M = Sm (fun e => Sm (fun j => a j e) n + a n e) M
    rw [Sm_swp2 n, Sm_two M]
theorem Sm_uq {f : Nat → Nat} {c : Nat} : ∀ {n : Nat}, (∀ i, i < n → f i ≤ 1) → (∀ i, i < n → ¬ f i = 0 → i = c) → Sm f n ≤ 1 ∧ (n ≤ c → Sm f n = 0)
  | 0, _, _ => ⟨Nat.zero_le _, fun _ => rfl⟩
  | n + 1, h1, h2 => by
    obtain ⟨a1, a2⟩ := Sm_uq (f := f) (c := c) (n := n) (fun i hi => h1 i (by omega)) (fun i hi => h2 i (by omega))
    have b1 := h1 n (by omega)
    show Sm f n + f n ≤ 1 ∧ (n + 1 ≤ c → Sm f n + f n = 0)
    by_cases z : f n = 0
    · rw [z]; exact ⟨a1, fun h => a2 (by omega)⟩
    · have := h2 n (by omega) z
      have := a2 (by omega)
      exact ⟨by omega, fun h => by omega⟩
theorem uns_sum {P : Pm} {g : Gh} {ip : Nat → Prop} {ej : Nat → Nat} (hnn : P.nn ≤ 6) : Sm (fun j => uns P g ip j (ej j)) P.nn ≤ Sm (fun e => ind (ip e)) (g.ep + 1) := by
  unfold uns
  rw [Sm_swp2 P.nn]
  refine Sm_mono (fun e _ => ?_)
  by_cases c : ip e
  · rw [ind_t c]
    refine (Sm_uq (c := lam P g e) (fun i _ => ind_1 _) (fun i hi z => ?_)).1
    by_cases q : ip e ∧ lds P g i e ∧ ej i < e
    · exact (lds_lam (by omega) q.2.1).symm
    · exact absurd (ind_f q) z
  · rw [ind_f c]
    exact Nat.le_of_eq (Sm_z (fun i _ => ind_f (fun q => c q.1)))
theorem ip_sum {M : Nat} : ∀ l : List Mg, Sm (fun e => ind (∃ x, x ∈ l ∧ epM x = e)) M ≤ l.length
  | [] => Nat.le_of_eq (Sm_z (fun e _ => ind_f (fun ⟨x, h, _⟩ => by cases h)))
  | y :: l => by
    have ih := ip_sum (M := M) l
    have h1 : Sm (fun e => ind (∃ x, x ∈ y :: l ∧ epM x = e)) M ≤ Sm (fun e => ind (epM y = e) + ind (∃ x, x ∈ l ∧ epM x = e)) M := Sm_mono (fun e _ => by
      by_cases c : ∃ x, x ∈ y :: l ∧ epM x = e
      · rw [ind_t c]
        obtain ⟨x, x1, x2⟩ := c
        rcases List.mem_cons.mp x1 with q | q
        · rw [ind_t (show epM y = e by rw [← q]; exact x2)]; omega
        · rw [ind_t (show ∃ x, x ∈ l ∧ epM x = e from ⟨x, q, x2⟩)]; omega
      · rw [ind_f c]; exact Nat.zero_le _)
    rw [Sm_two M] at h1
    have h2 : Sm (fun e => ind (epM y = e)) M ≤ 1 := (Sm_uq (c := epM y) (fun i _ => ind_1 _) (fun i _ z => by
      by_cases q : epM y = i
      · exact q.symm
      · exact absurd (ind_f q) z)).1
    show _ ≤ l.length + 1
    omega
/-- the EPOCHS in play -/
def ipS (g : Gh) (S : SS) (e : Nat) : Prop := (∃ x, x ∈ S.2.2.1 ∧ epM x = e) ∨ e = g.ep
theorem ipS_sum {g : Gh} {S : SS} {M : Nat} (h : S.2.2.1.length ≤ 128) : Sm (fun e => ind (ipS g S e)) M ≤ 129 := by
  have h1 : Sm (fun e => ind (ipS g S e)) M ≤ Sm (fun e => ind (∃ x, x ∈ S.2.2.1 ∧ epM x = e) + ind (e = g.ep)) M := Sm_mono (fun e _ => by
    by_cases c : ipS g S e
    · rw [ind_t c]
      rcases c with q | q
      · rw [ind_t q]; omega
      · rw [ind_t q]; omega
    · rw [ind_f c]; exact Nat.zero_le _)
  rw [Sm_two M] at h1
  have h2 := ip_sum (M := M) S.2.2.1
  have h3 : Sm (fun e => ind (e = g.ep)) M ≤ 1 := (Sm_uq (c := g.ep) (fun i _ => ind_1 _) (fun i _ z => by
    by_cases q : i = g.ep
    · exact q
    · exact absurd (ind_f q) z)).1
  omega
theorem VN_sum {P : Pm} {g : Gh} {ip : Nat → Prop} {ej : Nat → Nat} {Dj : Nat → Nat → Nat → Int32} {Kj Aj : Nat → Int64} : ∀ n, Sm (fun j => VN P g ip j (ej j) (Dj j) (Kj j) (Aj j)) n ≤ 7010 * n + 6889 * Sm (fun j => uns P g ip j (ej j)) n
  | 0 => Nat.zero_le _
  | n + 1 => by
    have ih := VN_sum (P := P) (g := g) (ip := ip) (ej := ej) (Dj := Dj) (Kj := Kj) (Aj := Aj) n
    have h1 := Ph_le g (Dj n) (Kj n) (Aj n)
    have h2 := ind_1 (lds P g n (ej n))
    have h3 : Ph g (Dj n) (Kj n) (Aj n) * ind (lds P g n (ej n)) ≤ 7010 * 1 := Nat.mul_le_mul h1 h2
    show Sm (fun j => VN P g ip j (ej j) (Dj j) (Kj j) (Aj j)) n + (Ph g (Dj n) (Kj n) (Aj n) * ind (lds P g n (ej n)) + 6889 * uns P g ip n (ej n)) ≤ 7010 * (n + 1) + 6889 * (Sm (fun j => uns P g ip j (ej j)) n + uns P g ip n (ej n))
    omega
theorem Vs_lt {P : Pm} {g : Gh} {S : SS} (hnn : P.nn ≤ 6) (h : GI P g S) (hl : S.2.2.1.length ≤ 128) : Vs P g (ipS g S) S < 1000000 := by
  have h1 := WmL_le P g S S.2.2.1
  have h2 := VN_sum (P := P) (g := g) (ip := ipS g S) (ej := eN S) (Dj := S.2.2.2.1) (Kj := S.2.2.2.2.1) (Aj := S.2.2.2.2.2) P.nn
  have h3 := uns_sum (P := P) (g := g) (ip := ipS g S) (ej := eN S) hnn
  have h4 := ipS_sum (g := g) (M := g.ep + 1) hl
  obtain ⟨he, ha⟩ := h.as
  have h5 : (S.1 4 9).toNatClampNeg = he := by rw [ha.h2, nI_clamp (by have := ha.h1; have := h.go.1; omega)]
  have h6 := ha.h1.2
  unfold Vs
  rw [h5]
  omega
/-- all that is under way is handed over -/
theorem dr_end {P : Pm} {g : Gh} {S S' : SS} (hP : PmO P) (h : SU P g S) (hl : S.2.2.1.length ≤ 128) (hr : drR P.nn P.gg P.C P.f S S') : S'.2.2.1 = [] ∧ ∃ g', Gs g g' ∧ SU P g' S' ∧ S'.1 100 = S.1 100 := by
  obtain ⟨k, k1, k2, k3⟩ := hr
  obtain ⟨g', a1, a2, _, a4, a5⟩ := it_V (ip := ipS g S) hP k h (fun x hx => Or.inl ⟨x, hx, rfl⟩) (Or.inr rfl) k2
  have := Vs_lt hP.nn h.1 hl
  refine ⟨?_, g', a1, a2, a5⟩
  rcases k3 with q | q
  · omega
  · exact q

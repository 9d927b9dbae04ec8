/-! a NODE's part in the potential -/
def lds (P : Pm) (g : Gh) (j e : Nat) : Prop := ¬ ldB P.f P.nn (nI j) (g.mp e) = 0
/-- EPOCHS in play that NODE j leads and has not come to -/
noncomputable def uns (P : Pm) (g : Gh) (ip : Nat → Prop) (j e : Nat) : Nat := Sm (fun e' => ind (ip e' ∧ lds P g j e' ∧ e < e')) (g.ep + 1)
theorem uns_le {P : Pm} {g : Gh} {ip : Nat → Prop} {j e e2 : Nat} (h : e ≤ e2) : uns P g ip j e2 ≤ uns P g ip j e := Sm_mono (fun i _ => by
  by_cases c : ip i ∧ lds P g j i ∧ e2 < i
  · rw [ind_t c, ind_t ⟨c.1, c.2.1, by omega⟩]; exact Nat.le_refl _
  · rw [ind_f c]; exact Nat.zero_le _)
theorem uns_lt {P : Pm} {g : Gh} {ip : Nat → Prop} {j e e2 : Nat} (h : e < e2) (h2 : e2 ≤ g.ep) (hi : ip e2) (hl : lds P g j e2) : uns P g ip j e2 + 1 ≤ uns P g ip j e := Sm_one_up (a := e2) (by omega) (fun i _ => by
  by_cases c : ip i ∧ lds P g j i ∧ e2 < i
  · rw [ind_t c, ind_t ⟨c.1, c.2.1, by omega⟩]; exact Nat.le_refl _
  · rw [ind_f c]; exact Nat.zero_le _) (by
  have a1 := ind_f (p := ip e2 ∧ lds P g j e2 ∧ e2 < e2) (fun z => by omega)
  have a2 := ind_t (p := ip e2 ∧ lds P g j e2 ∧ e < e2) ⟨hi, hl, h⟩
  omega)
/-- NODE j at EPOCH e -/
noncomputable def VN (P : Pm) (g : Gh) (ip : Nat → Prop) (j e : Nat) (D : Nat → Nat → Int32) (K A : Int64) : Nat := Ph g D K A * ind (lds P g j e) + 6889 * uns P g ip j e
/-- newer ROOTS that the leader j of EPOCH e may still see, NODE j being at EPOCH en -/
noncomputable def nJ (g : Gh) (en : Nat) (D : Nat → Nat → Int32) (e : Nat) : Nat := if en < e then 13 else if en = e then Nn g (D 16 960) else 0
theorem nJ_s {g : Gh} {e : Nat} {D : Nat → Nat → Int32} : nJ g e D e = Nn g (D 16 960) := by
  unfold nJ
  rw [if_neg (by omega), if_pos rfl]
/-- what hearing does to it -/
def NV (P : Pm) (g : Gh) (ip : Nat → Prop) (j e e' e2 : Nat) (k : Int32) (D : Nat → Nat → Int32) (K A : Int64) (D' : Nat → Nat → Int32) (K' A' : Int64) (Z : List Mg) : Prop :=
  (lds P g j e2 → Wt (nJ g e' D' e2) Z + VN P g ip j e' D' K' A' + 1 ≤ VN P g ip j e D K A + wk (nJ g e D e2) k) ∧
  (¬ lds P g j e2 → ∀ N, Wt N Z + VN P g ip j e' D' K' A' + 1 ≤ VN P g ip j e D K A + wk N k) ∧ ∀ x, nJ g e' D' x ≤ nJ g e D x
theorem Ph_cg {g : Gh} {D D' : Nat → Nat → Int32} {K A : Int64} (h : ∀ q, q = 0 ∨ 6 < q → D' q = D q) : Ph g D' K A = Ph g D K A := by
  unfold Ph
  rw [h 16 (by omega), h 10 (by omega), h 18 (by omega)]
theorem NKz.v {P : Pm} {g : Gh} {ip : Nat → Prop} {n e : Nat} {u b : Nat → Int32} {D : Nat → Nat → Int32} {K A : Int64} {D' : Nat → Nat → Int32} {K' A' : Int64} {Z : List Mg} (hm : g.mp e = D 0 8) (h : NKz P g n e u b D K A D' K' A' Z) : NV P g ip n e e e (u 0) D K A D' K' A' Z := by
  rcases h with ⟨_, h1, h2, h3, h4, _⟩ | ⟨_, h1, l1, l2, _, _, _, _⟩ | ⟨_, _, h1, h2, h3, h4⟩
  · rw [h1, h2]
    have e1 : VN P g ip n e D' K A = VN P g ip n e D K A := by unfold VN; rw [Ph_cg h3]
    have e2 : ∀ x, nJ g e D' x = nJ g e D x := fun x => by unfold nJ; rw [h3 16 (by omega)]
    refine ⟨fun _ => ?_, fun _ N => ?_, fun x => by rw [e2]; exact Nat.le_refl _⟩
    · have := h4 (nJ g e D e)
      rw [e1, e2]; omega
    · have := h4 N
      rw [e1]; omega
  · have hl : lds P g n e := by unfold lds; rw [hm]; exact h1
    refine ⟨fun _ => ?_, fun z => absurd hl z, fun x => ?_⟩
    · rw [nJ_s, nJ_s]
      unfold VN
      rw [ind_t hl]
      omega
    · unfold nJ
      split
      · exact Nat.le_refl _
      · split
        · exact l1
        · exact Nat.le_refl _
  · subst h1 h2 h3 h4
    have := @wk1
    refine ⟨fun _ => ?_, fun _ N => ?_, fun x => Nat.le_refl _⟩
    · have := wk1 (N := nJ g e D' e) (k := u 0)
      show 0 + _ + 1 ≤ _
      omega
    · have := wk1 (N := N) (k := u 0)
      show 0 + _ + 1 ≤ _
      omega
theorem HEy.v {P : Pm} {g : Gh} {ip : Nat → Prop} {n e e2 : Nat} {u b : Nat → Int32} {D : Nat → Nat → Int32} {K A : Int64} {D' : Nat → Nat → Int32} {K' A' : Int64} {Z : List Mg} (hN : NU P g n e D K) (he2 : e2 ≤ g.ep) (hip : ip e2) (h : HEy P g n e e2 u b D K A D' K' A' Z) : ∃ e', NV P g ip n e e' e2 (u 0) D K A D' K' A' Z ∧ D' 0 7 = nI e' ∧ e ≤ e' ∧ e' ≤ g.ep ∧ D' 0 6 = D 0 6 := by
  have hnk : ∀ {e : Nat} {D : Nat → Nat → Int32} {K A : Int64} {D' : Nat → Nat → Int32} {K' A' : Int64} {Z : List Mg}, NU P g n e D K → NKz P g n e u b D K A D' K' A' Z → D' 0 7 = nI e ∧ D' 0 6 = D 0 6 := fun hN h => by
    rcases h with ⟨_, _, _, h3, _⟩ | ⟨_, _, _, _, _, h3, _⟩ | ⟨_, _, h3, _⟩
    · rw [h3 0 (Or.inl rfl)]; exact ⟨hN.ep.1, rfl⟩
    · rw [h3 0 (by decide)]; exact ⟨hN.ep.1, rfl⟩
    · rw [h3]; exact ⟨hN.ep.1, rfl⟩
  rcases h with ⟨h0, h1, h2, h3, h4⟩ | ⟨h0, h1⟩ | ⟨h0, D1, K1, A1, Z1, Z2, h1, h2, h3, h4⟩
  · subst h1 h2 h3 h4
    refine ⟨e, ⟨fun _ => ?_, fun _ N => ?_, fun x => Nat.le_refl _⟩, hN.ep.1, Nat.le_refl _, hN.ep.2.1, rfl⟩
    · have := wk1 (N := nJ g e D' e2) (k := u 0)
      show 0 + _ + 1 ≤ _
      omega
    · have := wk1 (N := N) (k := u 0)
      show 0 + _ + 1 ≤ _
      omega
  · subst h0
    exact ⟨e2, h1.v hN.ep.2.2.1.symm, (hnk hN h1).1, Nat.le_refl _, he2, (hnk hN h1).2⟩
  · subst h1
    obtain ⟨v1, v2, v3⟩ := h4.v (ip := ip) h3.ep.2.2.1.symm
    have hle : ∀ x, nJ g e2 D1 x ≤ nJ g e D x := fun x => by
      unfold nJ
      by_cases c1 : e2 < x
      · rw [if_pos c1, if_pos (by omega)]; exact Nat.le_refl _
      · rw [if_neg c1]
        by_cases c2 : e2 = x
        · rw [if_pos c2, if_pos (by omega)]; exact Nn_13 _ _
        · rw [if_neg c2]; exact Nat.zero_le _
    obtain ⟨f1, _, f3⟩ := h2
    refine ⟨e2, ⟨fun hl => ?_, fun hl N => ?_, fun x => Nat.le_trans (v3 x) (hle x)⟩, (hnk h3 h4).1, by omega, he2, by rw [(hnk h3 h4).2, f1, pk_un (by decide), pk_un (by decide)]⟩
    · rcases f3 with ⟨q, _⟩ | ⟨_, q2, q3, _, q5, _⟩
      · exact absurd q hl
      · have a1 := v1 hl
        have a2 : nJ g e2 D1 e2 = 13 := by rw [nJ_s]; exact q3
        have a3 : nJ g e D e2 = 13 := by unfold nJ; rw [if_pos h0]
        rw [a2] at a1
        rw [a3, Wt_app]
        have a4 : Wt (nJ g e2 D' e2) Z1 ≤ Wt 13 Z1 := Wt_mono (by rw [← a2]; exact v3 e2) Z1
        have a5 := uns_lt h0 he2 hip hl
        have a6 : VN P g ip n e2 D1 K1 A1 = Ph g D1 K1 A1 + 6889 * uns P g ip n e2 := by unfold VN; rw [ind_t hl, Nat.mul_one]
        have a7 : 6889 * uns P g ip n e ≤ VN P g ip n e D K A := by unfold VN; omega
        omega
    · rcases f3 with ⟨_, q⟩ | ⟨q, _⟩
      · subst q
        have a1 := v2 hl N
        have a5 := uns_le (P := P) (g := g) (ip := ip) (j := n) (Nat.le_of_lt h0)
        have a6 : VN P g ip n e2 D1 K1 A1 = 6889 * uns P g ip n e2 := by unfold VN; rw [ind_f hl, Nat.mul_zero, Nat.zero_add]
        have a7 : 6889 * uns P g ip n e ≤ VN P g ip n e D K A := by unfold VN; omega
        show Wt N Z2 + _ + 1 ≤ _
        omega
      · exact absurd q hl

/-! holds: the store counts as the reference does -/
theorem isS_v {k : Nat} (hk : k < 5243392) : isS (nI k) = if k / 10240 = 512 ∨ k / 512 % 20 = 19 then 0 else 1 := by
  unfold isS
  have e1 : nI k / 10240 = nI (k / 10240) := pk_div (d := 10240) (by omega) (by omega) (by omega)
  have e2 : nI k / 512 = nI (k / 512) := pk_div (d := 512) (by omega) (by omega) (by omega)
  have e3 : nI (k / 512) / 20 = nI (k / 512 / 20) := pk_div (d := 20) (by omega) (by omega) (by omega)
  have e4 : nI (k / 512 / 20) * 20 = nI (k / 512 / 20 * 20) := pk_mul _ 20
  have e5 : nI (k / 512) - nI (k / 512 / 20 * 20) = nI (k / 512 % 20) := by
    rw [nI_sub (by omega)]
    congr 1
    omega
  rw [e1, e2, e3, e4, e5]
  by_cases c1 : k / 10240 = 512
  · rw [if_pos (Or.inl c1), c1]; rfl
  · have n1 : ¬ nI (k / 10240) = 512 := fun z => c1 (nI_inj (by omega) (by decide) (show nI (k / 10240) = nI 512 from z))
    rw [if_neg n1]
    by_cases c2 : k / 512 % 20 = 19
    · rw [if_pos (Or.inr c2), c2]; rfl
    · have n2 : ¬ (19 : Int32) ≤ nI (k / 512 % 20) := fun z => by
        have := (nI_leI (a := 19) (b := k / 512 % 20) (by decide) (by omega)).mp z
        omega
      rw [if_neg n2, if_neg (fun z => z.elim c1 c2)]
/-- a whole COPY of a STRIPE in a slot -/
def hlW (g : Nat → Int32) (s : Nat) : Nat := if ¬ fstB (g (s * 128)) = 0 ∧ fstB (g (s * 128)) = lstB (g (s * 128 + 127)) then (if isS (g (s * 128 + 1)) = 0 then 0 else 1) else 0
theorem hlS_v {g : Nat → Int32} : ∀ (k i n : Nat), hlS g k i (nI n) = nI (acS (hlW g) k i n)
  | 0, _, _ => rfl
  | k + 1, i, n => by
    unfold hlS acS hlW
    split
    · split
      · rw [Nat.add_zero]; exact hlS_v k (i + 1) n
      · rw [nI_1]; exact hlS_v k (i + 1) (n + 1)
    · rw [Nat.add_zero]; exact hlS_v k (i + 1) n
/-- what NODE n must hold of FILE i, part p -/
noncomputable def hlH (T : TS) (nn gg R n : Nat) (q : Nat) : Nat := if q % 20 < 19 ∧ T.ex (q / 20) = true ∧ ¬ T.vr (q / 20) (q % 20) = -1 ∧ rkS (nI ((q / 20 * 31 + q % 20 * 7) % gg)) (nI n) nn 0 0 < R then 1 else 0
theorem hl_disk {P : Pm} {R : Nat} {g : Gh} {D : Nat → Nat → Nat → Int32} {n : Nat} (hP : PmO P) (hG : GO g) (hA : RwA P.nn P.gg P.f) (hC : P.C = nI R) (hR : R ≤ P.nn) (hR1 : 1 ≤ R) (h : CLM P g D) (hn : n < P.nn) : Sm (hlW (D n 2)) 280 = Sm (hlH (tsp g.ops g.bg) P.nn P.gg R n) 10240 := by
  have h5 := hG.1
  have hT := hG.tok (Nat.le_refl g.bg)
  -- a whole STRIPE
  have hst : ∀ s, s < 280 → hlW (D n 2) s = 0 ∨ ∃ i p v, i < 512 ∧ p < 19 ∧ v < 512 ∧ Cps (D n 2) s (tgN i p v) ∧ (tsp g.ops g.bg).ex i = true ∧ (tsp g.ops g.bg).vr i p = nI v ∧ hlW (D n 2) s = 1 := fun s hs => by
    by_cases c : ¬ fstB (D n 2 (s * 128)) = 0 ∧ fstB (D n 2 (s * 128)) = lstB (D n 2 (s * 128 + 127))
    · obtain ⟨k, k1, k2, k3, _⟩ := h.sl hn hs c
      have e1 := isS_v k1
      have hw : hlW (D n 2) s = if isS (D n 2 (s * 128 + 1)) = 0 then 0 else 1 := by unfold hlW; rw [if_pos c]
      rw [k2.2.2, e1] at hw
      by_cases c2 : k / 10240 = 512 ∨ k / 512 % 20 = 19
      · left
        rw [hw, if_pos c2, if_pos rfl]
      · right
        rw [if_neg c2, if_neg (by decide)] at hw
        rcases k3 with ⟨z, _⟩ | ⟨z1, z2, z3⟩
        · exact absurd (Or.inl z) c2
        · have hp : k / 512 % 20 < 20 := Nat.mod_lt _ (by decide)
          have ek : tgN (k / 10240) (k / 512 % 20) (k % 512) = k := by unfold tgN; omega
          exact ⟨k / 10240, k / 512 % 20, k % 512, z1, by omega, Nat.mod_lt _ (by decide), by rw [ek]; exact k2, z2, z3, hw⟩
    · left
      unfold hlW
      rw [if_neg c]
  have hdiv : ∀ i p v, i < 512 → p < 19 → v < 512 → nI (tgN i p v) / 512 = nI (i * 20 + p) := fun i p v a b c => by
    rw [show nI (tgN i p v) / 512 = nI (tgN i p v / 512) from pk_div (d := 512) (by have := tgN_lt a (show p < 20 by omega) c; omega) (by omega) (by omega)]
    congr 1
    unfold tgN; omega
  refine Sm_bij (jf := fun s => if hlW (D n 2) s = 0 then -1 else D n 2 (s * 128 + 1) / 512) (by decide) (fun s hs => ?_) (fun q hq => ?_) (fun s s' q h1 h2 hq e1 e2 => ?_)
  · rcases hst s hs with z | ⟨i, p, v, a1, a2, a3, a4, a5, a6, a7⟩
    · refine Or.inl ⟨z, fun q hq e => ?_⟩
      have e : (if hlW (D n 2) s = 0 then -1 else D n 2 (s * 128 + 1) / 512) = nI q := e
      rw [if_pos z] at e
      exact nIneg (by omega) e.symm
    · refine Or.inr ⟨i * 20 + p, by omega, ?_, ?_⟩
      · show (if hlW (D n 2) s = 0 then -1 else D n 2 (s * 128 + 1) / 512) = nI (i * 20 + p)
        rw [if_neg (by rw [a7]; decide), a4.2.2, hdiv i p v a1 a2 a3]
      · rw [a7]
        unfold hlH
        rw [show (i * 20 + p) / 20 = i by omega, show (i * 20 + p) % 20 = p by omega, if_pos ⟨a2, a5, by rw [a6]; exact nIneg (by omega), (h.stripe hP hA hC hR hR1 hn a1 a2 a3 a5 a6).mp ⟨s, a4⟩⟩]
  · by_cases c : q % 20 < 19 ∧ (tsp g.ops g.bg).ex (q / 20) = true ∧ ¬ (tsp g.ops g.bg).vr (q / 20) (q % 20) = -1 ∧ rkS (nI ((q / 20 * 31 + q % 20 * 7) % P.gg)) (nI n) P.nn 0 0 < R
    · right
      obtain ⟨c1, c2, c3, c4⟩ := c
      rcases hT.v1 (q / 20) (q % 20) with z | ⟨v, v1, v2⟩
      · exact absurd z c3
      · obtain ⟨s, hs⟩ := (h.stripe hP hA hC hR hR1 hn (show q / 20 < 512 by omega) c1 (show v < 512 by omega) c2 v2).mpr c4
        refine ⟨s, hs.1, ?_⟩
        show (if hlW (D n 2) s = 0 then -1 else D n 2 (s * 128 + 1) / 512) = nI q
        have hw : ¬ hlW (D n 2) s = 0 := by
          have c5 : ¬ fstB (D n 2 (s * 128)) = 0 ∧ fstB (D n 2 (s * 128)) = lstB (D n 2 (s * 128 + 127)) := hs.2.1
          obtain ⟨t1, t2, _⟩ := tgN_d (i := q / 20) (p := q % 20) (v := v) (by omega) (show v < 512 by omega)
          unfold hlW
          have n3 : ¬ (q / 20 = 512 ∨ q % 20 = 19) := by omega
          rw [if_pos c5, hs.2.2, isS_v (tgN_lt (by omega) (by omega) (by omega)), t1, t2, if_neg n3]
          decide
        rw [if_neg hw, hs.2.2, hdiv _ _ _ (by omega) c1 (by omega)]
        congr 1; omega
    · left
      unfold hlH
      rw [if_neg c]
  · rcases hst s h1 with z | ⟨i, p, v, a1, a2, a3, a4, a5, a6, a7⟩
    · have e1 : (if hlW (D n 2) s = 0 then -1 else D n 2 (s * 128 + 1) / 512) = nI q := e1
      rw [if_pos z] at e1
      exact absurd e1.symm (nIneg (by omega))
    · rcases hst s' h2 with z | ⟨i', p', v', b1, b2, b3, b4, b5, b6, b7⟩
      · have e2 : (if hlW (D n 2) s' = 0 then -1 else D n 2 (s' * 128 + 1) / 512) = nI q := e2
        rw [if_pos z] at e2
        exact absurd e2.symm (nIneg (by omega))
      · have e1 : (if hlW (D n 2) s = 0 then -1 else D n 2 (s * 128 + 1) / 512) = nI q := e1
        have e2 : (if hlW (D n 2) s' = 0 then -1 else D n 2 (s' * 128 + 1) / 512) = nI q := e2
        rw [if_neg (by rw [a7]; decide), a4.2.2, hdiv i p v a1 a2 a3] at e1
        rw [if_neg (by rw [b7]; decide), b4.2.2, hdiv i' p' v' b1 b2 b3] at e2
        have q1 := nI_inj (by omega) (by omega) (e1.trans e2.symm)
        have hi : i = i' := by omega
        have hp : p = p' := by omega
        subst hi
        subst hp
        have hv : v = v' := nI_inj (by omega) (by omega) (a6.symm.trans b6)
        subst hv
        exact clm_uq (h.du hn) (h.z hn) a4 b4
theorem hl_ref {P : Pm} {R o n c to : Nat} {T : TS} {M : Nat → Nat → Int32} (hT : TOK T o) (e1 : M 0 1 = nI R) (hR : R ≤ 6) (hnn : P.nn ≤ 6) (hI : FLI c to (M 12) (M 13) (M 15) (M 16) (M 17)) (hl : RFl M T (oL (M 12) c)) : Sm (fun k => Sm (rhW P.nn P.gg M (nI n) k) 19) c = Sm (hlH T P.nn P.gg R n) 10240 := by
  have hb := Sm_blk (hlH T P.nn P.gg R n) 20 512
  rw [show 512 * 20 = 10240 from rfl] at hb
  rw [hb]
  have hj : ∀ j, j < c → (M 12 j).toNatClampNeg ∈ oL (M 12) c := fun j hj => oL_mem.mpr ⟨j, hj, rfl⟩
  have h19 : ∀ i, Sm (fun p => hlH T P.nn P.gg R n (i * 20 + p)) 20 = Sm (fun p => hlH T P.nn P.gg R n (i * 20 + p)) 19 := fun i => by
    show Sm (fun p => hlH T P.nn P.gg R n (i * 20 + p)) 19 + hlH T P.nn P.gg R n (i * 20 + 19) = _
    have : hlH T P.nn P.gg R n (i * 20 + 19) = 0 := by
      unfold hlH
      rw [if_neg (fun z => by have := z.1; omega)]
    rw [this, Nat.add_zero]
  refine Sm_bij (jf := fun k => M 16 (M 12 k).toNatClampNeg) (by decide) (fun k hk => ?_) (fun i hi => ?_) (fun f f' i h1 h2 _ e1 e2 => oL_inj hI.2.2.1 h1 h2 (hl.2.2.1 _ _ (hj f h1) (hj f' h2) (e1.trans e2.symm)))
  · obtain ⟨_, i, i1, i2, i3⟩ := hl.1 _ (hj k hk)
    refine Or.inr ⟨i, i1, i3.1, ?_⟩
    show Sm (rhW P.nn P.gg M (nI n) k) 19 = Sm (fun p => hlH T P.nn P.gg R n (i * 20 + p)) 20
    rw [h19]
    refine Sm_cg (fun s hs => ?_)
    show rhW P.nn P.gg M (nI n) k s = hlH T P.nn P.gg R n (i * 20 + s)
    unfold rhW hlH
    rw [show (i * 20 + s) / 20 = i by omega, show (i * 20 + s) % 20 = s by omega, i3.1, nI_clamp (by omega), e1]
    have hlv := i3.2.2.2.2.2 s hs
    by_cases cz : M 19 (19 * (M 12 k).toNatClampNeg + s) = 0
    · rw [if_pos cz, if_neg (fun z => z.2.2.1 (hlv.mp cz))]
    · rw [if_neg cz]
      have hrl := rkS_le (nI ((i * 31 + s * 7) % P.gg)) (nI n) P.nn 0
      by_cases cr : rkS (nI ((i * 31 + s * 7) % P.gg)) (nI n) P.nn 0 0 < R
      · rw [if_neg (fun z => by have := (nI_leI (by omega) (by omega)).mp z; omega), if_pos ⟨hs, i2, fun z => cz (hlv.mpr z), cr⟩]
      · rw [if_pos ((nI_leI (by omega) (by omega)).mpr (by omega)), if_neg (fun z => cr z.2.2.2)]
  · cases e : T.ex i with
    | false =>
      refine Or.inl (Sm_z (fun p hp => ?_))
      show hlH T P.nn P.gg R n (i * 20 + p) = 0
      unfold hlH
      rw [show (i * 20 + p) / 20 = i by omega, if_neg (fun z => by rw [e] at z; cases z.2.1)]
    | true =>
      obtain ⟨f, f1, f2⟩ := hl.2.1 i hi e
      obtain ⟨k, k1, k2⟩ := oL_mem.mp f1
      exact Or.inr ⟨k, k1, by rw [← k2] at f2; exact f2⟩
theorem hl_eq {P : Pm} {R : Nat} {g : Gh} {E M : Nat → Nat → Int32} {D : Nat → Nat → Nat → Int32} {x : Int32} (hP : PmO P) (hG : GO g) (hA : RwA P.nn P.gg P.f) (hC : P.C = nI R) (hR : R ≤ P.nn) (hR1 : 1 ≤ R) (e0 : M 0 0 = nI P.nn) (e1 : M 0 1 = nI R) (h7 : M 0 7 = E 100 10) (hc : ¬ E 100 10 = 0 → CBO P g E M D) : hlV P.nn E D x = rhoV P.nn P.gg M x := by
  have hnn := hP.nn
  unfold hlV rhoV
  rw [e0]
  by_cases c1 : x < 0
  · rw [if_pos c1, if_pos (Or.inl c1)]
  rw [if_neg c1]
  by_cases c2 : x < nI P.nn
  · have n4 : ¬ (x < 0 ∨ nI P.nn ≤ x) := fun z => z.elim c1 (fun z => absurd c2 (Int32.not_lt.mpr z))
    rw [if_neg (fun z : ¬ x < nI P.nn => z c2), if_neg n4, h7]
    by_cases c3 : E 100 10 = 0
    · rw [if_pos c3, if_pos c3]
    rw [if_neg c3, if_neg c3]
    obtain ⟨n, hn, rfl⟩ := natLt c1 (show P.nn < 2 ^ 31 by omega) c2
    obtain ⟨_, _, ⟨c, to, e20, e21, hI, hl⟩, hL⟩ := hc c3
    have hT := hG.tok (Nat.le_refl g.bg)
    rw [nI_clamp (by omega), e20, nI_clamp (by have := hI.1; omega)]
    have h1 := hlS_v (g := D n 2) 280 0 0
    rw [nI_0] at h1
    rw [h1]
    congr 1
    rw [acS_v, acS_v, Nat.zero_add, Nat.zero_add]
    have q1 : Sm (fun j => hlW (D n 2) (0 + j)) 280 = Sm (hlW (D n 2)) 280 := Sm_cg (fun j _ => by rw [Nat.zero_add])
    have q2 : Sm (fun j => acS (rhW P.nn P.gg M (nI n) (0 + j)) 19 0 0) c = Sm (fun k => Sm (rhW P.nn P.gg M (nI n) k) 19) c := Sm_cg (fun j _ => by
      show acS (rhW P.nn P.gg M (nI n) (0 + j)) 19 0 0 = Sm (rhW P.nn P.gg M (nI n) j) 19
      rw [acS_v, Nat.zero_add, Nat.zero_add]
      exact Sm_cg (fun s _ => by rw [Nat.zero_add]))
    rw [q1, hl_disk hP hG hA hC hR hR1 hL hn, ← hl_ref (P := P) (R := R) (n := n) hT e1 (by omega) hnn hI hl]
    exact q2.symm
  · rw [if_pos c2, if_pos (Or.inr (Int32.not_lt.mp c2))]

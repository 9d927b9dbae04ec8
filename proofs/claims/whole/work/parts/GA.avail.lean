/-! what is wanted stands somewhere; a round with news -/
def AV (P : Pm) (g : Gh) : Prop := ∃ R rc, RK P ∧ P.C = nI R ∧ R ≤ P.nn ∧ ER P g rc ∧ rc < R ∧ g.mp g.ep = allN P.nn ∧ ∀ n, g.er n < g.ep
theorem AV.gs {P : Pm} {g g' : Gh} (hg : Gs g g') (h : AV P g) : AV P g' := by
  obtain ⟨R, rc, a1, a2, a3, a4, a5, a6, a7⟩ := h
  exact ⟨R, rc, a1, a2, a3, a4.gs hg, a5, by rw [hg.mp, hg.ep]; exact a6, fun n => by rw [hg.er, hg.ep]; exact a7 n⟩
theorem rtg_v {v : Nat} (hv : v < 512) : rtg v < 5243392 ∧ rtg v / 10240 = 512 ∧ rtg v % 512 = v := by
  obtain ⟨t1, t2, t3⟩ := tgN_d (i := 512) (p := 0) (v := v) (by decide) hv
  exact ⟨by unfold rtg tgN; omega, t1, t3⟩
theorem nwO_rt {x : Int32} {v : Nat} (hv : v < 512) (hx : x = -1 ∨ ∃ w, w < v ∧ x = nI w) : nwO x (nI (rtg v)) := by
  obtain ⟨t1, t2, t3⟩ := rtg_v hv
  refine ⟨fun z => ?_, fun z => ?_⟩
  · rcases rtB_or (nI (rtg v)) with ⟨_, r1⟩ | ⟨r0, _⟩
    · exact r1 (rtg v) (by omega) rfl t2
    · rw [r0] at z; exact absurd z (by decide)
  · rw [ver_t (by omega), t3] at z
    rcases hx with hx | ⟨w, hw, hx⟩
    · rw [hx] at z
      exact nI_pos (show v < 2 ^ 31 by omega) (Int32.lt_of_le_of_lt z (by decide))
    · rw [hx] at z
      have := (nI_leI (by omega) (by omega)).mp z
      omega
theorem sec_es {P : Pm} {g : Gh} {S : SS} {e k : Nat} (hP : PmO P) (hA : AV P g) (hS : SU P g S) (h : sec P g e k) : g.es ≤ e := by
  obtain ⟨R, rc, hK, hC, hR, hE, hrc, _, _⟩ := hA
  have hnn := hP.nn
  have hcnt := msk_cnt hP hK hC (by omega) h.2.1
  obtain ⟨n, n1, n2⟩ := Sm_ex (g := fun n => if bt (msk P g e k) n = true then 1 else 0) (h := fun _ => 0) (n := P.nn) (by
    have h0 : Sm (fun _ => 0) P.nn = 0 := Sm_z (fun _ _ => rfl)
    unfold cb at hcnt
    omega)
  have hb : bt (msk P g e k) n = true := by
    cases q : bt (msk P g e k) n with
    | true => rfl
    | false => simp only [q] at n2; exact absurd n2 (by simp)
  exact ((hS.nu n1).rk e k (h.2.2 n n1 hb)).2.2
theorem has_st {P : Pm} {g : Gh} {S : SS} {n k : Nat} (hS : SU P g S) (hn : n < P.nn) (h : has S n k) : stb (dN S n) (nI k) := by
  rcases h with ⟨h, _⟩ | ⟨_, h⟩
  · exact absurd h (hS.2.1 n hn)
  · exact h
/-- the newest ROOT of those that are secured stands -/
theorem newest {P : Pm} {g : Gh} {S : SS} (hP : PmO P) (hA : AV P g) (hS : SU P g S) : ∀ (d r e : Nat), g.bg - r = d → eff g r → sec P g e (rtg r) → ∃ n r', n < P.nn ∧ r ≤ r' ∧ r' < g.bg ∧ stb (dN S n) (nI (rtg r')) := fun d => by
  induction d using Nat.strongRecOn with
  | ind d ih =>
    intro r e hd hr hs
    have h5 := hS.1.go.1
    have hrb := hr.1
    obtain ⟨t1, t2, t3⟩ := rtg_v (show r < 512 by omega)
    have hA' := hA
    obtain ⟨R, rc, hK, hC, hR, hE, hrc, _, _⟩ := hA'
    have hnn := hP.nn
    rcases hS.1.kept hP hK hC (by omega) hE hrc t1 (Or.inr ⟨e, sec_es hP hA hS hs, hs⟩) with ⟨r2, e2, q1, q2, q3, q4⟩ | ⟨n, n1, n2⟩
    · rw [t3] at q3
      have hne : ¬ r = r2 := fun z => by
        rw [← z] at q4
        exact q4 (Or.inl ⟨t2, by rw [t3]⟩)
      have := q1.1
      obtain ⟨n, r', a1, a2, a3, a4⟩ := ih (g.bg - r2) (by omega) r2 e2 rfl q1 q2
      exact ⟨n, r', a1, by omega, a3, a4⟩
    · exact ⟨n, r, n1, Nat.le_refl _, hrb, has_st hS n1 n2⟩
theorem kept_or {P : Pm} {g : Gh} {S : SS} {v k : Nat} (hP : PmO P) (hA : AV P g) (hS : SU P g S) (hv : eff g v) (hk : k < 5243392) (hi : isIt (tsp g.ops (v + 1)) (nI v) k) (hkp : kept P g k) : (∃ n, n < P.nn ∧ stb (dN S n) (nI k)) ∨ ∃ n r, n < P.nn ∧ v < r ∧ r < g.bg ∧ stb (dN S n) (nI (rtg r)) := by
  have hA' := hA
  obtain ⟨R, rc, hK, hC, hR, hE, hrc, _, _⟩ := hA'
  have hnn := hP.nn
  rcases hS.1.kept hP hK hC (by omega) hE hrc hk hkp with ⟨r, e, q1, q2, q3, q4⟩ | ⟨n, n1, n2⟩
  · right
    have hvr : v < r := by
      rcases Nat.lt_or_ge v r with z | z
      · exact z
      · exact absurd hi (isIt_no hS.1.go q1 hk q3 q4 v z hv)
    obtain ⟨n, r', a1, a2, a3, a4⟩ := newest hP hA hS _ r e rfl q1 q2
    exact ⟨n, r', a1, by omega, a3, a4⟩
  · exact Or.inl ⟨n, n1, has_st hS n1 n2⟩
/-- a RECORD that is not known stands somewhere, or a newer ROOT -/
theorem unk_av {P : Pm} {g : Gh} {S : SS} {D : Nat → Nat → Int32} {K : Int64} (hP : PmO P) (hA : AV P g) (hS : SU P g S) (hL : LO P g g.ep D K) (hu : knA K (D 10 9) = 0) : ∃ n k, n < P.nn ∧ k < 5243392 ∧ stb (dN S n) (nI k) ∧ nwT D K (nI k) := by
  have hG := hS.1.go
  have h5 := hG.1
  have hs : D 18 3 ≤ 1 := by
    by_cases c : D 18 3 ≤ 1
    · exact c
    · exact absurd hu (hL.kn c)
  obtain ⟨r, zr⟩ := hL.idle hs
  have hr1 := zr.r1
  obtain ⟨fx, f1, f2, f3⟩ : ∃ fx, fx < 48 ∧ ¬ D 11 fx = -1 ∧ bq K fx = false := by
    by_cases c : ∃ fx, fx < 48 ∧ ¬ D 11 fx = -1 ∧ bq K fx = false
    · exact c
    · exfalso
      refine (zr.tr.known.mpr (fun f hf hj => ?_)) hu
      cases q : bq K f with
      | true => rfl
      | false => exact absurd ⟨f, hf, hj, q⟩ c
  rcases zr.tr.b2 fx f1 with ⟨z, _⟩ | ⟨i, i1, i2, i3⟩
  · exact absurd z f2
  · have hex : (tsp g.ops r).ex i = true := by
      rcases zr.tr.b1 i i1 with ⟨_, z⟩ | ⟨z, _⟩
      · rw [z] at i3; exact absurd i3.symm (nIneg (by omega))
      · exact z
    have hv19 := zr.tr.r1 i fx i1 f1 i2
    rcases efv_or g.ops r with z | ⟨v, v1, v2, v3, v4⟩
    · exfalso
      have := same_root (r := r) (o := 0) (by omega) (by omega) (by rw [z]; rfl)
      rw [this.1] at hex
      cases hex
    · have hv : eff g v := ⟨by omega, v3⟩
      have hT := hG.tok hr1
      obtain ⟨w, w1, w2⟩ : ∃ w, w < 512 ∧ (tsp g.ops r).vr i 19 = nI w := by
        obtain ⟨w, w1, w2⟩ := hT.r1 i hex
        exact ⟨w, by omega, w2⟩
      have hkd : tgN i 19 w / 10240 = i ∧ tgN i 19 w / 512 % 20 = 19 ∧ tgN i 19 w % 512 = w := tgN_d (by decide) w1
      have hk : tgN i 19 w < 5242880 := by unfold tgN; omega
      have hi : isIt (tsp g.ops (v + 1)) (nI v) (tgN i 19 w) := by
        rw [v4]
        exact Or.inr ⟨by rw [hkd.1]; exact i1, by rw [hkd.1]; exact hex, by rw [hkd.1, hkd.2.1, hkd.2.2]; exact w2⟩
      have hmd := zr.md v (by omega) v2 (tgN i 19 w) hk hi
      rcases kept_or hP hA hS hv (by omega) hi hmd with ⟨n, n1, n2⟩ | ⟨n, r', n1, n2, n3, n4⟩
      · refine ⟨n, tgN i 19 w, n1, by omega, n2, Or.inr ⟨fx * 20 + 19, by omega, by omega, ?_, by rw [show (fx * 20 + 19) / 20 = fx by omega]; exact f3⟩⟩
        rcases hL.find hP.gg (show tgN i 19 w < 5243392 by omega) with ⟨_, z⟩ | ⟨a, a1, a2, a3, _⟩
        · refine absurd ?_ (z (fx * 20 + 19) (Or.inr ⟨by rw [hkd.1]; exact i1, fx, f1, by rw [hkd.1]; exact i2, by rw [hkd.2.1]⟩))
          rw [hv19, hkd.2.2]; exact w2
        · rw [a2, hL.plcu a3 (Or.inr ⟨by rw [hkd.1]; exact i1, fx, f1, by rw [hkd.1]; exact i2, by rw [hkd.2.1]⟩)]
      · exact ⟨n, rtg r', n1, (rtg_v (by omega)).1, n4, Or.inl (nwO_rt (by omega) (Or.inr ⟨v, n2, by rw [zr.rt]; exact v2⟩))⟩
theorem RG.gh {P : Pm} {g : Gh} {l : Nat} {S : SS} (hl : l < P.nn) (h : RG P g l S) : GH P g (dN S l) (kN S l) := h.2.2.2.2.2.2.2 l hl (h.1.2.1 l hl) (by
  have := (h.nu hl).ep.2.2.1
  show ¬ ldB P.f P.nn (nI l) (dN S l 0 8) = 0
  rw [this]; exact h.2.2.1)
/-- a clean NODE has no news -/
theorem clean_no {P : Pm} {g : Gh} {l n k : Nat} {S : SS} (hP : PmO P) (hl : l < P.nn) (h : RG P g l S) (hms : S.2.2.1 = []) (hPD : PDs P l S) (hs : dN S l 18 3 ≤ 2) (hn : n < P.nn) (hk : k < 5243392) (hm : mem (dN S n) (nI k)) (hw : nwT (dN S l) (kN S l) (nI k)) : bt (dN S l 7 10) n = false := by
  cases hb : bt (dN S l 7 10) n with
  | false => rfl
  | true =>
    exfalso
    have hnn := hP.nn
    have hL := h.lo hl
    have hgh := h.gh hl
    have hkn : ¬ knA (kN S l) (dN S l 10 9) = 0 := hgh.2.2.1.1 hs n (by omega) hb
    obtain ⟨_, c2, _⟩ := h.2.2.2.2.2.2.1 (h.2.2.2.1 l hl) hs n hn hb
    rcases hw with hw | ⟨a, a1, _, a3, a4⟩
    · obtain ⟨s, s1, s2⟩ := hm
      by_cases c : dN S n 5 s = -1
      · rcases c2 k hk ⟨s, s1, s2, c⟩ with ⟨a, a1, a2, _⟩ | ⟨_, x, q, _⟩
        · exact fnd_nw hP.gg hL hk (by rw [a2]; exact nIneg (by omega)) hw
        · rw [hms] at q; cases q
      · exact hPD n k hn hk ⟨s, s1, s2, c⟩ hw
    · exact hkn (hL.unk hP.gg hk a1 a3 a4)
/-- a round with news: something is learned -/
theorem rdA {P : Pm} {g : Gh} {l n k : Nat} {S T S' : SS} (hP : PmO P) (hl : l < P.nn) (h : RG P g l S) (hms : S.2.2.1 = []) (hPD : PDs P l S) (hs : dN S l 18 3 ≤ 2) (hn : n < P.nn) (hk : k < 5243392) (hm : mem (dN S n) (nI k)) (hw : nwT (dN S l) (kN S l) (nI k)) (htk : tkR P.nn P.gg P.C P.f S T) (hdr : drR P.nn P.gg P.C P.f T S') : pgT g (dN S l) (kN S l) (dN S' l) (kN S' l) := by
  obtain ⟨g1, Zs, hg1, hT, ht⟩ := h.tk hP hl hms htk
  have hcl := clean_no hP hl h hms hPD hs hn hk hm hw
  obtain ⟨e1, e2, e3, _, _, _, eK, eA, _⟩ := ht.ld hl
  have hsm : smT (dN S l) (kN S l) (dN T l) (kN T l) := smT.of (e1 16 (by decide) (by decide)) (e1 10 (by decide) (by decide)) (e1 15 (by decide) (by decide)) eK
  have hwT : nwT (dN T l) (kN T l) (nI k) := by
    unfold nwT
    rw [e1 16 (by decide) (by decide), e1 15 (by decide) (by decide), eK]; exact hw
  obtain ⟨D1, D2, Zw, f2, wz, _, w4, wk⟩ := ht.wz hl
  have hst : ¬ (dN S l 18 3 = 3 ∨ dN S l 18 3 = 4) := fun z => by
    rcases z with z | z <;> rw [z] at hs <;> exact absurd hs (by decide)
  have nokd : ∀ y ∈ T.2.2.1, ¬ y.1 0 = 5 ∧ ¬ y.1 0 = 12 := fun y hy => by
    rcases wk y hy with q | q | q | ⟨z, z1, z2⟩
    · rw [q]; decide
    · rw [q]; decide
    · rw [q]; decide
    · rw [z2.1]
      rcases wz.kd z1 with ⟨j, _, _, _, e⟩ | ⟨e, _⟩ | ⟨o, j, _, _, _, e⟩ | ⟨a, m, _, _, _, _, _, e, _⟩
      · rw [e]; exact (show ¬ (4 : Int32) = 5 ∧ ¬ (4 : Int32) = 12 by decide)
      · rw [e]; decide
      · rw [e, mPU_0]; decide
      · rw [e]; decide
  -- the LIST
  obtain ⟨Dq, Zp, Zq, Zm, x1, _, _, _, _, x5, _⟩ := wz
  have hLI : ∃ y ∈ T.2.2.1, y.1 0 = 4 ∧ y.1 1 = nI l ∧ y.1 2 = nI n := by
    rw [f2 18 (by decide) (by decide) (by decide), f2 7 (by decide) (by decide) (by decide)] at x5
    rcases x5 with x5 | x5
    · exact absurd x5 hst
    · obtain ⟨y, y1, y2⟩ := w4 _ (by rw [x1]; exact List.mem_append_left _ (x5 n hn hcl))
      exact ⟨y, y1, by rw [y2.1]; rfl, by rw [y2.1]; rfl, by rw [y2.1]; rfl⟩
  obtain ⟨y, y1, y2, y3, y4⟩ := hLI
  have hOb : NOb P l T := by
    refine ⟨k, hk, hwT, Or.inr (Or.inr ⟨?_, Or.inl ⟨n, y, hn, y1, y2, y3, y4, (ht.st hn).1.mp hm⟩⟩)⟩
    rcases hwT with q | ⟨a, a1, a2, a3, a4⟩
    · exact Or.inl q
    · exact Or.inr ⟨a, a1, a2, a3, a4, by rw [eA]; exact q_0 _⟩
  obtain ⟨_, g2, hg2, _, hp⟩ := news_rd hP hl hT (fun m x k' _ hx h5 _ _ _ _ => absurd h5 (nokd x hx).1) (fun x k' hx h12 _ _ => absurd h12 (nokd x hx).2) hOb hdr
  have : pgT g (dN T l) (kN T l) (dN S' l) (kN S' l) := by
    unfold pgT at hp ⊢
    rw [Nn_gs hg2, Nn_gs hg1] at hp
    exact hp
  exact hsm.pg this

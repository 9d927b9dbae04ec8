/-! each act by itself, further on -/
theorem cu_sz {T : TS} {i a o : Nat} : (T.cut i a o).sz i = a ∧ (T.cut i a o).nl i = T.nl i ∧ (T.cut i a o).nm i = T.nm i ∧ (T.cut i a o).ex i = T.ex i ∧ ∀ y, (T.cut i a o).dt i y = if y < a then T.dt i y else 0 := by
  unfold TS.cut
  refine ⟨fup_s, rfl, rfl, rfl, fun y => ?_⟩
  show fup T.dt i _ i y = _
  rw [fup_s]
theorem cu_vr {T : TS} {i a o s k : Nat} (hT : TOK T k) (hs : s < 19) (ho : o < 512) : (T.cut i a o).vr i s = -1 ↔ (T.vr i s = -1 ∨ a ≤ 448 * s) := by
  have e : (T.cut i a o).vr i s = if s = 19 then nI o else if s = a / 448 ∧ a < T.sz i ∧ ¬ a % 448 = 0 ∧ ¬ T.vr i s < 0 then nI o else if s < 19 ∧ a ≤ s * 448 then -1 else T.vr i s := by
    unfold TS.cut
    show fup (fup (fup T.vr i (fun p => if p < 19 ∧ a ≤ p * 448 then -1 else T.vr i p)) i (fun p => if p = a / 448 ∧ a < T.sz i ∧ ¬ a % 448 = 0 ∧ ¬ T.vr i p < 0 then nI o else fup T.vr i (fun p => if p < 19 ∧ a ≤ p * 448 then -1 else T.vr i p) i p)) i (fun p => if p = 19 then nI o else fup (fup T.vr i (fun p => if p < 19 ∧ a ≤ p * 448 then -1 else T.vr i p)) i (fun p => if p = a / 448 ∧ a < T.sz i ∧ ¬ a % 448 = 0 ∧ ¬ T.vr i p < 0 then nI o else fup T.vr i (fun p => if p < 19 ∧ a ≤ p * 448 then -1 else T.vr i p) i p) i p) i s = _
    rw [fup_s, fup_s, fup_s]
  rw [e]
  rw [if_neg (show ¬ s = 19 by omega)]
  by_cases c : s = a / 448 ∧ a < T.sz i ∧ ¬ a % 448 = 0 ∧ ¬ T.vr i s < 0
  · rw [if_pos c]
    refine ⟨fun q => absurd q (nIneg (by omega)), fun q => ?_⟩
    rcases q with q | q
    · exact absurd (by rw [q]; decide) c.2.2.2
    · omega
  · rw [if_neg c]
    by_cases d : s < 19 ∧ a ≤ s * 448
    · rw [if_pos d]
      exact ⟨fun _ => Or.inr (by omega), fun _ => rfl⟩
    · rw [if_neg d]
      exact ⟨fun q => Or.inl q, fun q => q.resolve_right (by omega)⟩
theorem ac_cu {T : TS} {o w c to n1 n3 t f y0 z : Nat} {m : Mg} {M : Nat → Nat → Int32} (h : ACx T o m w c to n1 n3 t M) (hk : m.1 0 = 3) (hf : fd0 w n1 c f M) (e17 : M 17 f = nI y0) (hy8 : y0 ≤ 8192) (hz8 : z < 8193) (ha : m.1 1 = nI z) :
    (32768 < to - y0 + z → stp T o m = none ∧ ∃ i, fdN T m.2 0 (m.1 3).toNatClampNeg = some i) ∧ (¬ 32768 < to - y0 + z → FLM (acCu w to f y0 z M) → ACy T o m w M (nI y0) (acCu w to f y0 z M)) := by
  obtain ⟨m1, m2, i, i1, i2, i3, i4, _⟩ := h.yes0 hf
  obtain ⟨hT, ho, hN, hO, hD, hw, e20, e21, hI, hl, en1, h1, en3, h3, hct, htt, et, ht⟩ := h
  have hsz : T.sz i = y0 := nI_inj (by have := hT.z1 i; omega) (by omega) (i3.2.1.symm.trans e17)
  have hle : T.sz i ≤ T.tot := Sm_ge (g := T.sz) i1
  have hto := hT.t1
  have hst : stp T o m = if T.sz i + (32768 - T.tot) < z then none else some (T.sz i, T.cut i z o) := by
    unfold stp
    rw [if_neg (by rw [hk]; decide), if_neg (by rw [hk]; decide), if_neg (by rw [hk]; decide), if_pos hk, i4, ha, nI_clamp (by omega)]
  have hcond : T.sz i + (32768 - T.tot) < z ↔ 32768 < to - y0 + z := by rw [htt]; omega
  refine ⟨fun q => ⟨by rw [hst, if_pos (hcond.mpr q)], i, i4⟩, fun q hF => ?_⟩
  rw [if_neg (fun y => q (hcond.mp y))] at hst
  obtain ⟨a1, a2⟩ := an_some hst
  obtain ⟨t1, t2⟩ := td_no (M := M) (M' := acCu w to f y0 z M) (w := w) (tdO_no (T := T) (m := m) (by rw [hk]; decide) (by rw [hk]; decide)) rfl rfl
  obtain ⟨s1, s2, s3, s4, s5⟩ := cu_sz (T := T) (i := i) (a := z) (o := o)
  refine ⟨?_, by rw [a1]; show nI y0 = nI (T.sz i); rw [hsz], t1, t2⟩
  rw [a2]
  refine RF.fl hF e20 hI.1 ?_
  show RFl _ _ (oL (M 12) c)
  refine hl.in1 hT m1 i3 i2 i1 (fun g hg hgf => ?_) ⟨rfl, fun _ _ => rfl⟩ rfl (fun j hj => smF_cut hj) (by rw [s4]; exact i2) ?_
  · refine ⟨rfl, pk_un hgf, rfl, fun _ _ => rfl, fun y hy => ?_, fun s hs => ?_⟩
    · show rgF (fun _ => vp_nar .byte 0) (8192 * f + y0) (z - y0) (M 18) (8192 * g + y) = M 18 (8192 * g + y)
      rw [rgF_o (by omega)]
    · show laF (19 * f) z (M 19) 19 (19 * g + s) = M 19 (19 * g + s)
      rw [laF_v, if_neg (by omega)]
  · refine ⟨i3.1, ?_, ?_, fun x hx => ?_, fun y hy => ?_, fun s hs => ?_⟩
    · show upd (M 17) f (nI z) f = _
      rw [pk_us, s1]
    · rw [s2]; exact i3.2.2.1
    · rw [s2] at hx
      unfold nmP
      rw [s3]; exact i3.2.2.2.1 x hx
    · rw [s1] at hy
      show uN (rgF (fun _ => vp_nar .byte 0) (8192 * f + y0) (z - y0) (M 18) (8192 * f + y) &&& 255) = _
      rw [s5, if_pos hy]
      by_cases c2 : y0 ≤ y
      · rw [rgF_i (by omega) (by omega), hT.d1 i y (by omega)]
        decide
      · rw [rgF_o (by omega)]
        exact i3.2.2.2.2.1 y (by omega)
    · show laF (19 * f) z (M 19) 19 (19 * f + s) = 0 ↔ _
      rw [cu_vr hT hs ho, laF_v]
      by_cases c2 : z ≤ 448 * s
      · rw [if_pos (by omega)]
        exact ⟨fun _ => Or.inr c2, fun _ => rfl⟩
      · rw [if_neg (by omega)]
        exact ⟨fun q => Or.inl ((i3.2.2.2.2.2 s hs).mp q), fun q => (i3.2.2.2.2.2 s hs).mpr (q.resolve_right c2)⟩
theorem ac_go {T : TS} {o w c to n1 n3 t f : Nat} {m : Mg} {M : Nat → Nat → Int32} (h : ACx T o m w c to n1 n3 t M) (hk : m.1 0 = 5) (hf : fd0 w n1 c f M) (hF : FLM (acGo w c to f M)) : ACy T o m w M (M 17 f) (acGo w c to f M) := by
  obtain ⟨m1, m2, i, i1, i2, i3, i4, _⟩ := h.yes0 hf
  obtain ⟨hT, ho, hN, hO, hD, hw, e20, e21, hI, hl, en1, h1, en3, h3, hct, htt, et, ht⟩ := h
  have hst : stp T o m = some (T.sz i, T.rem i) := by
    unfold stp
    rw [if_neg (by rw [hk]; decide), if_neg (by rw [hk]; decide), if_neg (by rw [hk]; decide), if_neg (by rw [hk]; decide), if_pos hk, i4]
  obtain ⟨a1, a2⟩ := an_some hst
  obtain ⟨t1, t2⟩ := td_no (M := M) (M' := acGo w c to f M) (w := w) (tdO_no (T := T) (m := m) (by rw [hk]; decide) (by rw [hk]; decide)) rfl rfl
  obtain ⟨_, p2⟩ := lv_perm hI.2.1 hI.2.2.1 m2 m1
  have hc8 := hI.1
  refine ⟨?_, by rw [a1]; exact i3.2.1, t1, t2⟩
  rw [a2]
  refine RF.fl hF (show nI (lvN (nI f) c 0 0 (M 12)) = nI (lvN (nI f) c 0 0 (M 12)) from rfl) (by omega) ?_
  show RFl _ _ (oL (lvF (nI f) c 0 0 (M 12)) (lvN (nI f) c 0 0 (M 12)))
  rw [lv_oL m2 (fun j hj => (hI.2.1 j hj).1)]
  exact hl.del hT m1 i3 i1 (fun g _ _ => ⟨rfl, rfl, rfl, fun _ _ => rfl, fun _ _ => rfl, fun _ _ => rfl⟩) (fun j hj => smF_rem hj) fup_s
/-- one gets another NAME -/
theorem rn_E {M M' : Nat → Nat → Int32} {T T' : TS} {f i n : Nat} {wd : Nat → Nat} (hi : RFe M T f i) (hn2 : n ≤ 200) (h16 : M' 16 f = M 16 f) (h17 : M' 17 f = M 17 f) (h18 : M' 18 = M 18) (h19 : M' 19 = M 19) (h15 : M' 15 f = nI n) (h14 : ∀ x, x < n → rby (M' 14) (200 * f) x = wd x) (e1 : T'.sz i = T.sz i) (e2 : T'.dt i = T.dt i) (e3 : ∀ p, p < 19 → T'.vr i p = T.vr i p) (e4 : T'.nl i = n) (e5 : ∀ x, x < n → nmP T' i x = wd x) : RFe M' T' f i := by
  refine ⟨h16.trans hi.1, by rw [h17, e1]; exact hi.2.1, by rw [h15, e4], fun x hx => ?_, fun y hy => ?_, fun s hs => ?_⟩
  · rw [e4] at hx
    rw [h14 x hx, e5 x hx]
  · rw [e1] at hy
    unfold rby
    rw [h18, e2]; exact hi.2.2.2.2.1 y hy
  · rw [h19, e3 s hs]; exact hi.2.2.2.2.2 s hs
theorem smF.sy {T T' : TS} {i : Nat} (h : smF T T' i) : smF T' T i := ⟨h.1.symm, h.2.1.symm, h.2.2.1.symm, h.2.2.2.1.symm, h.2.2.2.2.1.symm, fun p hp => (h.2.2.2.2.2 p hp).symm⟩
theorem smF.rm {A B : TS} {j k : Nat} (h : smF A B k) : smF (A.rem j) (B.rem j) k := by
  obtain ⟨h1, h2, h3, h4, h5, h6⟩ := h
  by_cases e : k = j
  · subst e
    refine ⟨?_, ?_, h3, h4, ?_, fun p _ => ?_⟩
    · show fup B.ex k false k = fup A.ex k false k; rw [fup_s, fup_s]
    · show fup B.sz k 0 k = fup A.sz k 0 k; rw [fup_s, fup_s]
    · show fup B.dt k _ k = fup A.dt k _ k; rw [fup_s, fup_s]
    · show fup B.vr k _ k p = fup A.vr k _ k p; rw [fup_s, fup_s]
  · refine ⟨?_, ?_, h3, h4, ?_, fun p hp => ?_⟩
    · show fup B.ex j false k = fup A.ex j false k; rw [fup_n e, fup_n e]; exact h1
    · show fup B.sz j 0 k = fup A.sz j 0 k; rw [fup_n e, fup_n e]; exact h2
    · show fup B.dt j _ k = fup A.dt j _ k; rw [fup_n e, fup_n e]; exact h5
    · show fup B.vr j _ k p = fup A.vr j _ k p; rw [fup_n e, fup_n e]; exact h6 p hp
theorem flt_m {l : List Nat} {f g : Nat} (h : g ∈ l.filter (fun x => !(x == f))) : g ∈ l ∧ ¬ g = f := by
  rw [List.mem_filter] at h
  exact ⟨h.1, fun e => by have := h.2; rw [e] at this; simp at this⟩
/-- two places, two NAMES -/
theorem kLt_ne {M : Nat → Nat → Int32} {og : Nat → Int32} {c x g : Nat} (hs : (oL og c).Pairwise (kLt M)) (hx : x ∈ oL og c) (hg : g ∈ oL og c) (hne : ¬ x = g) : ¬ nEq (rby (M 14) (200 * x)) (M 15 x).toNatClampNeg (rby (M 14) (200 * g)) (M 15 g).toNatClampNeg := fun he => by
  obtain ⟨a, a1, a2⟩ := oL_mem.mp hx
  obtain ⟨b, b1, b2⟩ := oL_mem.mp hg
  rw [oL_pw] at hs
  rcases Nat.lt_or_ge a b with z | z
  · have := hs a b z b1
    rw [a2, b2] at this
    exact nLt.ne this he
  · rcases Nat.lt_or_ge b a with y | y
    · have := hs b a y a1
      rw [a2, b2] at this
      exact nLt.ne this he.sy
    · have : a = b := by omega
      rw [this, b2] at a2
      exact hne a2.symm
/-- a place other than g has not the NAME of g -/
theorem ne_mc {M M1 : Nat → Nat → Int32} {T : TS} {w : Nat → Int32} {k c p l b x g j : Nat} (hT : TOK T k) (h : RFl M T (oL (M 12) c)) (hl : l ≤ 200) (hb : ∀ x, x < l → rby (M 30) b x = nby w p x) (hx : x ∈ oL (M 12) c) (hg : g ∈ oL (M 12) c) (hne : ¬ x = g) (hj : RFe M T g j) (hjx : T.ex j = true) (hq : nEq (nmP T j) (T.nl j) (nby w p) l) (hnm : nmS M M1 x) : ¬ mcF (M1 14) (M 30) (M1 15) b l x = 0 := fun hm => by
  obtain ⟨_, i, i1, i2, i3⟩ := h.1 x hx
  have hn := hT.n1 i i2
  have hn2 := hT.n1 j hjx
  have hq2 : nEq (rby (M1 14) (200 * x)) (T.nl i) (rby (M 30) b) l := by
    rcases mcF_n (ff := M1 14) (pf := M 30) (lf := M1 15) (b := b) (f := x) hl hn (by rw [hnm.1]; exact i3.2.2.1) with ⟨y, _⟩ | ⟨_, y⟩ | ⟨y, _⟩
    · rw [hm] at y; exact absurd y Int32.lt_irrefl
    · exact y
    · rw [hm] at y; exact absurd y Int32.lt_irrefl
  refine kLt_ne h.2.2.2 hx hg hne ?_
  rw [i3.2.2.1, hj.2.2.1, nI_clamp (by omega), nI_clamp (by omega)]
  have e1 : nEq (rby (M 14) (200 * x)) (T.nl i) (rby (M1 14) (200 * x)) (T.nl i) := ⟨rfl, fun y hy => by unfold rby; rw [hnm.2 y (by omega)]⟩
  have e2 : nEq (rby (M 30) b) l (nby w p) l := ⟨rfl, fun y hy => hb y hy⟩
  have e3 : nEq (rby (M 14) (200 * g)) (T.nl j) (nmP T j) (T.nl j) := ⟨rfl, fun y hy => hj.2.2.2.1 y hy⟩
  exact ((e1.tr hq2).tr e2).tr (e3.tr hq).sy
theorem ac_rn {T : TS} {o w c to n1 n3 t f : Nat} {m : Mg} {M : Nat → Nat → Int32} (h : ACx T o m w c to n1 n3 t M) (hk : m.1 0 = 6) (hf : fd0 w n1 c f M) (hn : no1 w n3 c M) (hF : FLM (acRn w c n3 f M)) : ACy T o m w M 0 (acRn w c n3 f M) := by
  obtain ⟨m1, m2, i, i1, i2, i3, i4, _⟩ := h.yes0 hf
  obtain ⟨q1, q2⟩ := h.no1 hn
  obtain ⟨hT, ho, hN, hO, hD, hw, e20, e21, hI, hl, en1, h1, en3, h3, hct, htt, et, ht⟩ := h
  have hst : stp T o m = some (0, (T.nam i (fun x => m.2 (50 + x)) (m.1 4).toNatClampNeg).rcd i o) := by
    unfold stp
    rw [if_neg (by rw [hk]; decide), if_neg (by rw [hk]; decide), if_neg (by rw [hk]; decide), if_neg (by rw [hk]; decide), if_neg (by rw [hk]; decide), if_pos hk, i4]
    show (match fdN T m.2 50 (m.1 4).toNatClampNeg with | none => _ | some j => _) = _
    rw [q1]
  obtain ⟨a1, a2⟩ := an_some hst
  obtain ⟨t1, t2⟩ := td_no (M := M) (M' := acRn w c n3 f M) (w := w) (tdO_no (T := T) (m := m) (by rw [hk]; decide) (by rw [hk]; decide)) rfl rfl
  obtain ⟨_, p2⟩ := lv_perm hI.2.1 hI.2.2.1 m2 m1
  have hc8 := hI.1
  have hlv := lv_oL (og := M 12) (c := c) m2 (fun j hj => (hI.2.1 j hj).1)
  have hd : RFl M (T.rem i) (oL (lvF (nI f) c 0 0 (M 12)) (lvN (nI f) c 0 0 (M 12))) := by
    rw [hlv]
    exact hl.del hT m1 i3 i1 (fun _ _ _ => smP.rf) (fun j hj => smF_rem hj) fup_s
  refine ⟨?_, by rw [a1]; rfl, t1, t2⟩
  rw [a2]
  refine RF.fl hF (show nI (lvN (nI f) c 0 0 (M 12) + 1) = nI (lvN (nI f) c 0 0 (M 12) + 1) from rfl) (by omega) ?_
  show RFl _ _ (oL (enF (M 14) (M 30) (M 15) (400 * w + 200 * 1) n3 (lvN (nI f) c 0 0 (M 12)) (lvF (nI f) c 0 0 (M 12)) f) (lvN (nI f) c 0 0 (M 12) + 1))
  have hnb : ∀ x, x < n3 → rby (acRn w c n3 f M 14) (200 * f) x = rby (M 30) (400 * w + 200 * 1) x := fun x hx => by
    show uN (rgF (fun i => vp_nar .byte (M 30 ((400 * w + 200 * 1) + i))) (200 * f) n3 (M 14) (200 * f + x) &&& 255) = _
    rw [rgF_i (by omega) (by omega), Nat.add_sub_cancel_left, rby_nar]
  refine hd.insE (i := i) (fun j hj => ⟨(hT.rem i).n1 j hj, (hT.rem i).z1 j⟩) fup_s i1 m2 (fun g hg => ?_) (fun j hj => (smF_rem hj).sy.tr ((smF_nam hj).tr smF_rcd)) i2 ?_ (show fup T.nl i _ i = n3 by rw [fup_s]; exact en3) h3 hnb (fun j hj => ?_)
  · rw [hlv] at hg
    obtain ⟨hg1, hgf⟩ := flt_m hg
    exact ⟨rfl, rfl, pk_un hgf, fun x hx => (show rgF (fun i => vp_nar .byte (M 30 ((400 * w + 200 * 1) + i))) (200 * f) n3 (M 14) (200 * g + x) = M 14 (200 * g + x) from rgF_o (by omega)), fun _ _ => rfl, fun _ _ => rfl⟩
  · refine rn_E (wd := nby m.2 50) i3 h3 rfl rfl rfl rfl pk_us (fun x hx => ?_) rfl rfl (fun p hp => ?_) (by show fup T.nl i _ i = n3; rw [fup_s]; exact en3) (fun x hx => ?_)
    · rw [hnb x hx]; exact hD.2.2.2.2.2.2.2 x (by rw [en3]; exact hx)
    · exact (smF_rcd (T := T.nam i (fun x => m.2 (50 + x)) (m.1 4).toNatClampNeg) (i := i) (o := o) (j := i)).2.2.2.2.2 p hp
    · show nby (fup T.nm i (fun x => m.2 (50 + x)) i) 0 x = _
      rw [fup_s, nby_sh]
  · have : (lvF (nI f) c 0 0 (M 12) j).toNatClampNeg ∈ oL (lvF (nI f) c 0 0 (M 12)) (lvN (nI f) c 0 0 (M 12)) := oL_mem.mpr ⟨j, hj, rfl⟩
    rw [hlv] at this
    obtain ⟨k, k1, k2⟩ := oL_mem.mp (flt_m this).1
    rw [← k2]; exact q2 k k1
theorem ac_rg {T : TS} {o w c to n1 n3 t f g : Nat} {m : Mg} {M : Nat → Nat → Int32} (h : ACx T o m w c to n1 n3 t M) (hk : m.1 0 = 6) (hf : fd0 w n1 c f M) (hg : fd1 w n3 c g M) (hgf : ¬ g = f) (hF : FLM (acRg w c to n3 f g M)) : ACy T o m w M 1 (acRg w c to n3 f g M) := by
  obtain ⟨m1, m2, i, i1, i2, i3, i4, _⟩ := h.yes0 hf
  obtain ⟨k1, k2, j, j1, j2, j3, j4, j5⟩ := h.yes1 hg
  obtain ⟨hT, ho, hN, hO, hD, hw, e20, e21, hI, hl, en1, h1, en3, h3, hct, htt, et, ht⟩ := h
  have hji : ¬ j = i := fun z => hgf (hl.2.2.1 g f k1 m1 (by rw [j3.1, i3.1, z]))
  have hst : stp T o m = some (1, ((T.rem j).nam i (fun x => m.2 (50 + x)) (m.1 4).toNatClampNeg).rcd i o) := by
    unfold stp
    rw [if_neg (by rw [hk]; decide), if_neg (by rw [hk]; decide), if_neg (by rw [hk]; decide), if_neg (by rw [hk]; decide), if_neg (by rw [hk]; decide), if_pos hk, i4]
    show (match fdN T m.2 50 (m.1 4).toNatClampNeg with | none => _ | some j => _) = _
    rw [j4]
    exact if_neg hji
  obtain ⟨a1, a2⟩ := an_some hst
  obtain ⟨t1, t2⟩ := td_no (M := M) (M' := acRg w c to n3 f g M) (w := w) (tdO_no (T := T) (m := m) (by rw [hk]; decide) (by rw [hk]; decide)) rfl rfl
  obtain ⟨p1, p2⟩ := lv_perm hI.2.1 hI.2.2.1 k2 k1
  have hc8 := hI.1
  have hlv := lv_oL (og := M 12) (c := c) k2 (fun j hj => (hI.2.1 j hj).1)
  have hb1 := ogB.lv (x := nI g) hI.2.1
  have hlv2 := lv_oL (og := lvF (nI g) c 0 0 (M 12)) (c := lvN (nI g) c 0 0 (M 12)) m2 (fun j hj => (hb1 j hj).1)
  have hd1 : RFl M (T.rem j) (oL (lvF (nI g) c 0 0 (M 12)) (lvN (nI g) c 0 0 (M 12))) := by
    rw [hlv]
    exact hl.del hT k1 j3 j1 (fun _ _ _ => smP.rf) (fun j hj => smF_rem hj) fup_s
  have hmf : f ∈ oL (lvF (nI g) c 0 0 (M 12)) (lvN (nI g) c 0 0 (M 12)) := (List.mem_cons.mp (p1.mem_iff.mpr m1)).resolve_left (fun z => hgf z.symm)
  have hi3 : RFe M (T.rem j) f i := i3.sm (hT.n1 i i2) (hT.z1 i) smP.rf (smF_rem (fun z => hji z.symm))
  have hd : RFl M ((T.rem j).rem i) (oL (l2F g f c (M 12)) (l2N g f c (M 12))) := by
    show RFl M ((T.rem j).rem i) (oL (lvF (nI f) (lvN (nI g) c 0 0 (M 12)) 0 0 (lvF (nI g) c 0 0 (M 12))) (lvN (nI f) (lvN (nI g) c 0 0 (M 12)) 0 0 (lvF (nI g) c 0 0 (M 12))))
    rw [hlv2]
    exact hd1.del (hT.rem j) hmf hi3 i1 (fun _ _ _ => smP.rf) (fun j hj => smF_rem hj) fup_s
  have hsub : ∀ x, x ∈ oL (l2F g f c (M 12)) (l2N g f c (M 12)) → x ∈ oL (M 12) c ∧ ¬ x = f ∧ ¬ x = g := fun x hx => by
    have hx : x ∈ oL (lvF (nI f) (lvN (nI g) c 0 0 (M 12)) 0 0 (lvF (nI g) c 0 0 (M 12))) (lvN (nI f) (lvN (nI g) c 0 0 (M 12)) 0 0 (lvF (nI g) c 0 0 (M 12))) := hx
    rw [hlv2] at hx
    obtain ⟨y1, y2⟩ := flt_m hx
    rw [hlv] at y1
    obtain ⟨z1, z2⟩ := flt_m y1
    exact ⟨z1, y2, z2⟩
  have hlen : l2N g f c (M 12) + 1 ≤ 48 := by
    have hnd := List.Pairwise.sublist (List.Sublist.refl _) hd.2.2.2
    have h9 : l2N g f c (M 12) ≤ lvN (nI g) c 0 0 (M 12) := by
      have e1 : (oL (lvF (nI f) (lvN (nI g) c 0 0 (M 12)) 0 0 (lvF (nI g) c 0 0 (M 12))) (lvN (nI f) (lvN (nI g) c 0 0 (M 12)) 0 0 (lvF (nI g) c 0 0 (M 12)))).length = _ := congrArg List.length hlv2
      rw [oL_len] at e1
      have e2 := List.length_filter_le (fun x => !(x == f)) (oL (lvF (nI g) c 0 0 (M 12)) (lvN (nI g) c 0 0 (M 12)))
      rw [oL_len] at e2
      unfold l2N
      omega
    omega
  refine ⟨?_, by rw [a1]; rfl, t1, t2⟩
  rw [a2]
  refine RF.fl hF (show nI (l2N g f c (M 12) + 1) = nI (l2N g f c (M 12) + 1) from rfl) hlen ?_
  show RFl _ _ (oL (enF (M 14) (M 30) (M 15) (400 * w + 200 * 1) n3 (l2N g f c (M 12)) (l2F g f c (M 12)) f) (l2N g f c (M 12) + 1))
  have hnb : ∀ x, x < n3 → rby (acRg w c to n3 f g M 14) (200 * f) x = rby (M 30) (400 * w + 200 * 1) x := fun x hx => by
    show uN (rgF (fun i => vp_nar .byte (M 30 ((400 * w + 200 * 1) + i))) (200 * f) n3 (M 14) (200 * f + x) &&& 255) = _
    rw [rgF_i (by omega) (by omega), Nat.add_sub_cancel_left, rby_nar]
  refine hd.insE (i := i) (fun j' hj => ⟨((hT.rem j).rem i).n1 j' hj, ((hT.rem j).rem i).z1 j'⟩) fup_s i1 m2 (fun x hx => ?_) (fun j' hj => (smF_rem hj).sy.tr ((smF_nam hj).tr smF_rcd)) (show fup T.ex j false i = true by rw [fup_n (fun z => hji z.symm)]; exact i2) ?_ (show fup T.nl i _ i = n3 by rw [fup_s]; exact en3) h3 hnb (fun j' hj => ?_)
  · obtain ⟨x1, x2, x3⟩ := hsub x hx
    exact ⟨rfl, rfl, pk_un x2, fun y hy => (show rgF (fun i => vp_nar .byte (M 30 ((400 * w + 200 * 1) + i))) (200 * f) n3 (M 14) (200 * x + y) = M 14 (200 * x + y) from rgF_o (by omega)), fun _ _ => rfl, fun _ _ => rfl⟩
  · refine rn_E (wd := nby m.2 50) hi3 h3 rfl rfl rfl rfl pk_us (fun x hx => ?_) rfl rfl (fun p hp => ?_) (by show fup T.nl i _ i = n3; rw [fup_s]; exact en3) (fun x hx => ?_)
    · rw [hnb x hx]; exact hD.2.2.2.2.2.2.2 x (by rw [en3]; exact hx)
    · exact (smF_rcd (T := (T.rem j).nam i (fun x => m.2 (50 + x)) (m.1 4).toNatClampNeg) (i := i) (o := o) (j := i)).2.2.2.2.2 p hp
    · show nby (fup T.nm i (fun x => m.2 (50 + x)) i) 0 x = _
      rw [fup_s, nby_sh]
  · obtain ⟨x1, x2, x3⟩ := hsub _ (oL_mem.mpr ⟨j', hj, rfl⟩)
    subst en3
    exact ne_mc (M1 := M) hT hl h3 hD.2.2.2.2.2.2.2 x1 k1 x3 j3 j2 j5 ⟨rfl, fun _ _ => rfl⟩

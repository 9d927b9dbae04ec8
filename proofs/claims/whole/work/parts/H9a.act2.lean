/-! each act by itself -/
theorem RFl.insE {M M' : Nat → Nat → Int32} {T T' : TS} {og pf : Nat → Int32} {c f i b n : Nat} (hnl : ∀ j, T.ex j = true → T.nl j ≤ 200 ∧ T.sz j ≤ 8192) (hl : RFl M T (oL og c)) (hi : T.ex i = false) (hi5 : i < 512) (hf : f < 48) (hP : ∀ g, g ∈ oL og c → smP M M' g) (hF : ∀ j, ¬ j = i → smF T T' j) (hex : T'.ex i = true) (hE : RFe M' T' f i) (hn : T'.nl i = n) (hn2 : n ≤ 200) (h14 : ∀ x, x < n → rby (M' 14) (200 * f) x = rby pf b x) (hne : ∀ j, j < c → ¬ mcF (M 14) pf (M 15) b n (og j).toNatClampNeg = 0) : RFl M' T' (oL (enF (M 14) pf (M 15) b n c og f) (c + 1)) := by
  have hmem : ∀ j, j < c → (og j).toNatClampNeg ∈ oL og c := fun j hj => oL_mem.mpr ⟨j, hj, rfl⟩
  refine hl.ins hnl hi hi5 hf (en_perm hf) hP hF hex hE (oL_pw.mpr (srt_en hf hn2 (fun j hj => ?_) (oL_pw.mp hl.2.2.2) (fun j hj => ?_) (by rw [hE.2.2.1, hn]) h14 hne))
  · obtain ⟨_, k, _, k2, k3⟩ := hl.1 _ (hmem j hj)
    exact ⟨T.nl k, (hnl k k2).1, k3.2.2.1⟩
  · have := hP _ (hmem j hj)
    exact ⟨this.2.2.1, this.2.2.2.1⟩
theorem TOK.new {T : TS} {o : Nat} (h : TOK T o) : T.ex o = false := by
  cases e : T.ex o with
  | false => rfl
  | true => exact absurd (h.e1 o e) (Nat.lt_irrefl o)
theorem smF_rcd {T : TS} {i o j : Nat} : smF T (T.rcd i o) j := ⟨rfl, rfl, rfl, rfl, rfl, fun p hp => by
  show fup T.vr i _ j p = T.vr j p
  by_cases e : j = i
  · subst e; rw [fup_s]; exact if_neg (by omega)
  · rw [fup_n e]⟩
theorem smF.tr {T T' T2 : TS} {i : Nat} (h1 : smF T T' i) (h2 : smF T' T2 i) : smF T T2 i := ⟨h2.1.trans h1.1, h2.2.1.trans h1.2.1, h2.2.2.1.trans h1.2.2.1, h2.2.2.2.1.trans h1.2.2.2.1, h2.2.2.2.2.1.trans h1.2.2.2.2.1, fun p hp => (h2.2.2.2.2.2 p hp).trans (h1.2.2.2.2.2 p hp)⟩
theorem smF_mk1 {T : TS} {o l j : Nat} {w : Nat → Int32} (h : ¬ j = o) : smF T (T.mk1 o w l) j := ⟨fup_n h, rfl, fup_n h, fup_n h, rfl, fun _ _ => rfl⟩
theorem smF_nam {T : TS} {i l j : Nat} {w : Nat → Int32} (h : ¬ j = i) : smF T (T.nam i w l) j := ⟨rfl, rfl, fup_n h, fup_n h, rfl, fun _ _ => rfl⟩
theorem smF_rem {T : TS} {i j : Nat} (h : ¬ j = i) : smF T (T.rem i) j := ⟨fup_n h, fup_n h, rfl, rfl, fup_n h, fun p _ => by
  show fup T.vr i (fun _ => -1) j p = _
  rw [fup_n h]⟩
theorem smF_wrt {T : TS} {i a l o j : Nat} {tp : Nat → Int32} (h : ¬ j = i) : smF T (T.wrt i a l o tp) j := by
  unfold TS.wrt
  by_cases z : l = 0
  · rw [if_pos z]; exact smF_rcd
  · rw [if_neg z]
    refine ⟨rfl, fup_n h, rfl, rfl, fup_n h, fun p _ => ?_⟩
    show fup (fup T.vr i _) i _ j p = _
    rw [fup_n h, fup_n h]
theorem smF_cut {T : TS} {i a o j : Nat} (h : ¬ j = i) : smF T (T.cut i a o) j := by
  unfold TS.cut
  refine ⟨rfl, fup_n h, rfl, rfl, fup_n h, fun p _ => ?_⟩
  show fup (fup (fup T.vr i _) i _) i _ j p = _
  rw [fup_n h, fup_n h, fup_n h]
theorem ACx.fr {T : TS} {o w c to n1 n3 t : Nat} {m : Mg} {M : Nat → Nat → Int32} (h : ACx T o m w c to n1 n3 t M) (hc : ¬ c = 48) : frN (M 13) 48 0 < 48 ∧ ¬ frN (M 13) 48 0 ∈ oL (M 12) c := by
  obtain ⟨_, _, _, _, _, _, _, _, hI, _⟩ := h
  have := hI.1
  exact hI.free (by omega)
theorem ac_mk {T : TS} {o w c to n1 n3 t : Nat} {m : Mg} {M : Nat → Nat → Int32} (h : ACx T o m w c to n1 n3 t M) (hk : m.1 0 = 0) (hn : no0 w n1 c M) (hc : ¬ c = 48) (hF : FLM (acMk w o c n1 (frN (M 13) 48 0) M)) : ACy T o m w M 0 (acMk w o c n1 (frN (M 13) 48 0) M) := by
  obtain ⟨f1, f2⟩ := h.fr hc
  obtain ⟨q1, q2⟩ := h.no0 hn
  obtain ⟨hT, ho, hN, hO, hD, hw, e20, e21, hI, hl, en1, h1, en3, h3, hct, htt, et, ht⟩ := h
  generalize frN (M 13) 48 0 = f at f1 f2 hF ⊢
  have hst : stp T o m = some (0, (T.mk1 o (fun x => m.2 x) (m.1 3).toNatClampNeg).rcd o o) := by
    unfold stp
    rw [if_pos hk, q1]
    exact if_neg (by rw [← hct]; exact hc)
  obtain ⟨a1, a2⟩ := an_some hst
  obtain ⟨t1, t2⟩ := td_no (M := M) (M' := acMk w o c n1 f M) (w := w) (tdO_no (T := T) (m := m) (by rw [hk]; decide) (by rw [hk]; decide)) rfl rfl
  have hc8 := hI.1
  have hnew := hT.new
  refine ⟨?_, by rw [a1]; rfl, t1, t2⟩
  rw [a2]
  refine RF.fl hF (show nI (c + 1) = nI (c + 1) from rfl) (by omega) ?_
  show RFl _ _ (oL (enF (M 14) (M 30) (M 15) (400 * w + 200 * 0) n1 c (M 12) f) (c + 1))
  refine hl.insE (i := o) (fun j hj => ⟨hT.n1 j hj, hT.z1 j⟩) hnew ho f1 (fun g hg => ?_) (fun j hj => (smF_mk1 hj).tr smF_rcd) (show fup T.ex o true o = true from fup_s) ?_ (show fup T.nl o _ o = n1 by rw [fup_s]; exact en1) h1 (fun x hx => ?_) q2
  · have hgf : ¬ g = f := fun z => f2 (z ▸ hg)
    have hg8 := (hl.1 g hg).1
    refine ⟨pk_un hgf, pk_un hgf, pk_un hgf, fun x hx => ?_, fun _ _ => rfl, fun s hs => ?_⟩
    · show rgF (fun i => vp_nar .byte (M 30 ((400 * w + 200 * 0) + i))) (200 * f) n1 (M 14) (200 * g + x) = M 14 (200 * g + x)
      exact rgF_o (by omega)
    · show rgF (fun _ => vp_nar .boolean 0) (19 * f) 19 (M 19) (19 * g + s) = M 19 (19 * g + s)
      exact rgF_o (by omega)
  · refine ⟨pk_us, ?_, ?_, fun x hx => ?_, fun y hy => ?_, fun s hs => ?_⟩
    · show upd (M 17) f 0 f = nI (T.sz o)
      rw [pk_us, (hT.e2 o hnew).1]; rfl
    · show upd (M 15) f (nI n1) f = nI (fup T.nl o _ o)
      rw [pk_us, fup_s, en1]
    · have hx : x < fup T.nl o (m.1 3).toNatClampNeg o := hx
      rw [fup_s, en1] at hx
      show uN (rgF (fun i => vp_nar .byte (M 30 ((400 * w + 200 * 0) + i))) (200 * f) n1 (M 14) (200 * f + x) &&& 255) = nby (fup T.nm o (fun x => m.2 x) o) 0 x
      rw [rgF_i (by omega) (by omega), Nat.add_sub_cancel_left, rby_nar, fup_s]
      exact hD.2.2.2.2.2.2.1 x (by rw [en1]; exact hx)
    · have hy : y < T.sz o := hy
      rw [(hT.e2 o hnew).1] at hy; omega
    · show rgF (fun _ => vp_nar .boolean 0) (19 * f) 19 (M 19) (19 * f + s) = 0 ↔ fup T.vr o _ o s = -1
      rw [rgF_i (by omega) (by omega), fup_s]
      have : (if s = 19 then nI o else T.vr o s) = -1 := by rw [if_neg (by omega)]; exact (hT.e2 o hnew).2 s
      exact ⟨fun _ => this, fun _ => rfl⟩
  · show uN (rgF (fun i => vp_nar .byte (M 30 ((400 * w + 200 * 0) + i))) (200 * f) n1 (M 14) (200 * f + x) &&& 255) = _
    rw [rgF_i (by omega) (by omega), Nat.add_sub_cancel_left, rby_nar]
theorem wr_vr {T : TS} {i a l o s : Nat} {tp : Nat → Int32} (hs : s < 19) (ho : o < 512) : (T.wrt i a l o tp).vr i s = -1 ↔ (T.vr i s = -1 ∧ ¬ (0 < l ∧ a / 448 ≤ s ∧ s ≤ (a + l - 1) / 448)) := by
  unfold TS.wrt
  by_cases z : l = 0
  · rw [if_pos z]
    show fup T.vr i _ i s = -1 ↔ _
    rw [fup_s, if_neg (show ¬ s = 19 by omega)]
    exact ⟨fun q => ⟨q, by omega⟩, fun q => q.1⟩
  · rw [if_neg z]
    have e : ∀ f : Nat → Int32, f = (fun p => if a / 448 ≤ p ∧ p ≤ (a + l - 1) / 448 then nI o else T.vr i p) → (((((T.siz i (max (T.sz i) (a + l))).ver i (fun p => a / 448 ≤ p ∧ p ≤ (a + l - 1) / 448) (nI o)).rcd i o).dat i (fun y => if a ≤ y ∧ y < a + l then tp (y - a) else T.dt i y)).vr i s) = if s = 19 then nI o else f s := fun f hf => by
      show fup (fup T.vr i (fun p => if a / 448 ≤ p ∧ p ≤ (a + l - 1) / 448 then nI o else T.vr i p)) i (fun p => if p = 19 then nI o else fup T.vr i (fun p => if a / 448 ≤ p ∧ p ≤ (a + l - 1) / 448 then nI o else T.vr i p) i p) i s = _
      rw [fup_s, fup_s, hf]
    rw [e _ rfl]
    show (if s = 19 then nI o else if a / 448 ≤ s ∧ s ≤ (a + l - 1) / 448 then nI o else T.vr i s) = -1 ↔ _
    rw [if_neg (show ¬ s = 19 by omega)]
    by_cases q : a / 448 ≤ s ∧ s ≤ (a + l - 1) / 448
    · rw [if_pos q]
      exact ⟨fun y => absurd y (nIneg (by omega)), fun y => absurd ⟨by omega, q⟩ y.2⟩
    · rw [if_neg q]
      exact ⟨fun y => ⟨y, fun y2 => q y2.2⟩, fun y => y.1⟩
theorem wr_sz {T : TS} {i a l o : Nat} {tp : Nat → Int32} : (T.wrt i a l o tp).sz i = (if l = 0 then T.sz i else max (T.sz i) (a + l)) ∧ (T.wrt i a l o tp).nl i = T.nl i ∧ (T.wrt i a l o tp).nm i = T.nm i ∧ (T.wrt i a l o tp).ex i = T.ex i ∧ ∀ y, (T.wrt i a l o tp).dt i y = if a ≤ y ∧ y < a + l then tp (y - a) else T.dt i y := by
  unfold TS.wrt
  by_cases z : l = 0
  · rw [if_pos z, if_pos z]
    refine ⟨rfl, rfl, rfl, rfl, fun y => ?_⟩
    rw [if_neg (by omega)]; rfl
  · rw [if_neg z, if_neg z]
    refine ⟨fup_s, rfl, rfl, rfl, fun y => ?_⟩
    show fup T.dt i _ i y = _
    rw [fup_s]
theorem ac_wo {T : TS} {o w c to n1 n3 t f y0 a z : Nat} {m : Mg} {M : Nat → Nat → Int32} (h : ACx T o m w c to n1 n3 t M) (hk : m.1 0 = 1 ∨ m.1 0 = 2) (hf : fd0 w n1 c f M) (e17 : M 17 f = nI y0) (hy8 : y0 ≤ 8192) (ha : (m.1 0 = 1 ∧ a < 8193 ∧ m.1 1 = nI a) ∨ (m.1 0 = 2 ∧ a = y0)) (hz : ((t = 0 ∨ a + t < y0) ∧ z = y0) ∨ (0 < t ∧ y0 ≤ a + t ∧ z = a + t)) :
    ((8192 < z ∨ 32768 < to - y0 + z) → stp T o m = none) ∧ (¬ (8192 < z ∨ 32768 < to - y0 + z) → FLM (acWO w to t f y0 a z M) → ACy T o m w M (nI t) (acWO w to t f y0 a z M)) := by
  obtain ⟨m1, m2, i, i1, i2, i3, i4, _⟩ := h.yes0 hf
  obtain ⟨hT, ho, hN, hO, hD, hw, e20, e21, hI, hl, en1, h1, en3, h3, hct, htt, et, ht⟩ := h
  have hsz : T.sz i = y0 := nI_inj (by have := hT.z1 i; omega) (by omega) (i3.2.1.symm.trans e17)
  have hle : T.sz i ≤ T.tot := Sm_ge (g := T.sz) i1
  obtain ⟨d5, dt⟩ := hD.2.2.2.2.2.1 hk
  have ht5 : (m.1 5).toNatClampNeg = t := by rw [← d5, et, nI_clamp (by omega)]
  have hto := hT.t1
  have hst : stp T o m = if 8192 < T.sz i + (if t = 0 then 0 else a + t - T.sz i) ∨ 32768 - T.tot < (if t = 0 then 0 else a + t - T.sz i) then none else some (t, T.wrt i a t o (fun x => bytA m.2 (400 + x))) := by
    unfold stp
    rcases ha with ⟨k1, k2, k3⟩ | ⟨k1, k2⟩
    · rw [if_neg (by rw [k1]; decide), if_pos k1, i4, k3, nI_clamp (by omega), ht5]
      rfl
    · rw [if_neg (by rw [k1]; decide), if_neg (by rw [k1]; decide), if_pos k1, i4, ht5]
      show wrS T o m.2 _ t (some i) (T.sz i) = _
      rw [k2, ← hsz]
      rfl
  have hcond : (8192 < T.sz i + (if t = 0 then 0 else a + t - T.sz i) ∨ 32768 - T.tot < (if t = 0 then 0 else a + t - T.sz i)) ↔ (8192 < z ∨ 32768 < to - y0 + z) := by
    rw [htt]
    split <;> omega
  refine ⟨fun q => by rw [hst, if_pos (hcond.mpr q)], fun q hF => ?_⟩
  rw [if_neg (fun y => q (hcond.mp y))] at hst
  obtain ⟨a1, a2⟩ := an_some hst
  obtain ⟨t1, t2⟩ := td_no (M := M) (M' := acWO w to t f y0 a z M) (w := w) (tdO_no (T := T) (m := m) (by rcases hk with y | y <;> rw [y] <;> decide) (by rcases hk with y | y <;> rw [y] <;> decide)) rfl rfl
  obtain ⟨s1, s2, s3, s4, s5⟩ := wr_sz (T := T) (i := i) (a := a) (l := t) (o := o) (tp := fun x => bytA m.2 (400 + x))
  have hzz : z = (if t = 0 then T.sz i else max (T.sz i) (a + t)) := by rw [hsz]; split <;> omega
  refine ⟨?_, a1.symm, t1, t2⟩
  rw [a2]
  refine RF.fl hF e20 hI.1 ?_
  show RFl _ _ (oL (M 12) c)
  refine hl.in1 hT m1 i3 i2 i1 (fun g hg hgf => ?_) ⟨rfl, fun _ _ => rfl⟩ rfl (fun j hj => smF_wrt hj) (by rw [s4]; exact i2) ?_
  · refine ⟨rfl, pk_un hgf, rfl, fun _ _ => rfl, fun y hy => ?_, fun s hs => ?_⟩
    · show rgF (fun i => vp_nar .byte (M 32 (2048 * w + i))) (8192 * f + a) t (rgF (fun _ => vp_nar .byte 0) (8192 * f + y0) (z - y0) (M 18)) (8192 * g + y) = M 18 (8192 * g + y)
      rw [rgF_o (by omega), rgF_o (by omega)]
    · show wlF f a (laF (19 * f) z (M 19) 19) t (19 * g + s) = M 19 (19 * g + s)
      rw [wlF_v, if_neg (by omega), laF_v, if_neg (by omega)]
  · refine ⟨i3.1, ?_, ?_, fun x hx => ?_, fun y hy => ?_, fun s hs => ?_⟩
    · show upd (M 17) f (nI z) f = _
      rw [pk_us, s1, hzz]
    · rw [s2]; exact i3.2.2.1
    · rw [s2] at hx
      unfold nmP
      rw [s3]; exact i3.2.2.2.1 x hx
    · rw [s1, ← hzz] at hy
      show uN (rgF (fun i => vp_nar .byte (M 32 (2048 * w + i))) (8192 * f + a) t (rgF (fun _ => vp_nar .byte 0) (8192 * f + y0) (z - y0) (M 18)) (8192 * f + y) &&& 255) = _
      rw [s5]
      by_cases c1 : a ≤ y ∧ y < a + t
      · rw [if_pos c1, rgF_i (by omega) (by omega), show 8192 * f + y - (8192 * f + a) = y - a by omega, rby_nar]
        exact dt (y - a) (by rw [ht5]; omega)
      · rw [if_neg c1, rgF_o (by omega)]
        by_cases c2 : y0 ≤ y
        · rw [rgF_i (by omega) (by omega), hT.d1 i y (by omega)]
          decide
        · rw [rgF_o (by omega)]
          exact i3.2.2.2.2.1 y (by omega)
    · show wlF f a (laF (19 * f) z (M 19) 19) t (19 * f + s) = 0 ↔ _
      rw [wr_vr hs ho, wlF_v]
      by_cases c1 : 0 < t ∧ a / 448 ≤ s ∧ s ≤ (a + t - 1) / 448
      · rw [if_pos (by omega)]
        exact ⟨fun q => absurd q (by decide), fun q => absurd c1 q.2⟩
      · rw [if_neg (by omega), laF_v]
        by_cases c2 : z ≤ 448 * s
        · rw [if_pos (by omega)]
          refine ⟨fun _ => ⟨?_, c1⟩, fun _ => rfl⟩
          by_cases c3 : T.vr i s = -1
          · exact c3
          · have := hT.v2 i s hs c3
            omega
        · rw [if_neg (by omega)]
          exact ⟨fun q => ⟨(i3.2.2.2.2.2 s hs).mp q, c1⟩, fun q => (i3.2.2.2.2.2 s hs).mpr q.1⟩
theorem ac_wn {T : TS} {o w c to n1 n3 t a z : Nat} {m : Mg} {M : Nat → Nat → Int32} (h : ACx T o m w c to n1 n3 t M) (hk : m.1 0 = 1 ∨ m.1 0 = 2) (hn : no0 w n1 c M) (ha : (m.1 0 = 1 ∧ a < 8193 ∧ m.1 1 = nI a) ∨ (m.1 0 = 2 ∧ a = 0)) (hz : (t = 0 ∧ z = 0) ∨ (0 < t ∧ z = a + t)) :
    ((c = 48 ∨ 8192 < z ∨ 32768 < to + z) → stp T o m = none) ∧ (¬ (c = 48 ∨ 8192 < z ∨ 32768 < to + z) → FLM (acWN w o c to n1 t (frN (M 13) 48 0) a z M) → ACy T o m w M (nI t) (acWN w o c to n1 t (frN (M 13) 48 0) a z M)) := by
  obtain ⟨q1, q2⟩ := h.no0 hn
  have hfr := h.fr
  obtain ⟨hT, ho, hN, hO, hD, hw, e20, e21, hI, hl, en1, h1, en3, h3, hct, htt, et, ht⟩ := h
  obtain ⟨d5, dt⟩ := hD.2.2.2.2.2.1 hk
  have ht5 : (m.1 5).toNatClampNeg = t := by rw [← d5, et, nI_clamp (by omega)]
  have hto := hT.t1
  have hst : stp T o m = if T.cnt = 48 ∨ 8192 < (if t = 0 then 0 else a + t) ∨ 32768 - T.tot < (if t = 0 then 0 else a + t) then none else some (t, (T.mk1 o (fun x => m.2 x) (m.1 3).toNatClampNeg).wrt o a t o (fun x => bytA m.2 (400 + x))) := by
    unfold stp
    rcases ha with ⟨k1, k2, k3⟩ | ⟨k1, k2⟩
    · rw [if_neg (by rw [k1]; decide), if_pos k1, q1, k3, nI_clamp (by omega), ht5]
      rfl
    · rw [if_neg (by rw [k1]; decide), if_neg (by rw [k1]; decide), if_pos k1, q1, ht5, k2]
      rfl
  have hcond : (T.cnt = 48 ∨ 8192 < (if t = 0 then 0 else a + t) ∨ 32768 - T.tot < (if t = 0 then 0 else a + t)) ↔ (c = 48 ∨ 8192 < z ∨ 32768 < to + z) := by
    rw [htt, hct]
    split <;> omega
  refine ⟨fun q => by rw [hst, if_pos (hcond.mpr q)], fun q hF => ?_⟩
  rw [if_neg (fun y => q (hcond.mp y))] at hst
  obtain ⟨f1, f2⟩ := hfr (fun y => q (Or.inl y))
  generalize frN (M 13) 48 0 = f at f1 f2 hF ⊢
  obtain ⟨a1, a2⟩ := an_some hst
  obtain ⟨t1, t2⟩ := td_no (M := M) (M' := acWN w o c to n1 t f a z M) (w := w) (tdO_no (T := T) (m := m) (by rcases hk with y | y <;> rw [y] <;> decide) (by rcases hk with y | y <;> rw [y] <;> decide)) rfl rfl
  obtain ⟨s1, s2, s3, s4, s5⟩ := wr_sz (T := T.mk1 o (fun x => m.2 x) (m.1 3).toNatClampNeg) (i := o) (a := a) (l := t) (o := o) (tp := fun x => bytA m.2 (400 + x))
  have hc8 := hI.1
  have hnew := hT.new
  have hs0 : (T.mk1 o (fun x => m.2 x) (m.1 3).toNatClampNeg).sz o = 0 := (hT.e2 o hnew).1
  have hzz : z = (if t = 0 then (T.mk1 o (fun x => m.2 x) (m.1 3).toNatClampNeg).sz o else max ((T.mk1 o (fun x => m.2 x) (m.1 3).toNatClampNeg).sz o) (a + t)) := by rw [hs0]; split <;> omega
  have hnl : (T.mk1 o (fun x => m.2 x) (m.1 3).toNatClampNeg).nl o = n1 := by show fup T.nl o _ o = n1; rw [fup_s]; exact en1
  refine ⟨?_, a1.symm, t1, t2⟩
  rw [a2]
  refine RF.fl hF (show nI (c + 1) = nI (c + 1) from rfl) (by omega) ?_
  show RFl _ _ (oL (enF (M 14) (M 30) (M 15) (400 * w + 200 * 0) n1 c (M 12) f) (c + 1))
  refine hl.insE (i := o) (fun j hj => ⟨hT.n1 j hj, hT.z1 j⟩) hnew ho f1 (fun g hg => ?_) (fun j hj => (smF_mk1 hj).tr (smF_wrt hj)) (by rw [s4]; exact fup_s) ?_ (by rw [s2]; exact hnl) h1 (fun x hx => ?_) q2
  · have hgf : ¬ g = f := fun z => f2 (z ▸ hg)
    have hg8 := (hl.1 g hg).1
    refine ⟨pk_un hgf, ?_, pk_un hgf, fun x hx => ?_, fun y hy => ?_, fun s hs => ?_⟩
    rotate_left
    · show rgF (fun i => vp_nar .byte (M 30 ((400 * w + 200 * 0) + i))) (200 * f) n1 (M 14) (200 * g + x) = M 14 (200 * g + x)
      exact rgF_o (by omega)
    rotate_right
    · show upd (upd (M 17) f 0) f (nI z) g = _
      rw [pk_un hgf, pk_un hgf]
    · show rgF (fun i => vp_nar .byte (M 32 (2048 * w + i))) (8192 * f + a) t (rgF (fun _ => vp_nar .byte 0) (8192 * f + 0) (z - 0) (M 18)) (8192 * g + y) = M 18 (8192 * g + y)
      rw [rgF_o (by omega), rgF_o (by omega)]
    · show wlF f a (laF (19 * f) z (rgF (fun _ => vp_nar .boolean 0) (19 * f) 19 (M 19)) 19) t (19 * g + s) = M 19 (19 * g + s)
      rw [wlF_v, if_neg (by omega), laF_v, if_neg (by omega), rgF_o (by omega)]
  · refine ⟨pk_us, ?_, ?_, fun x hx => ?_, fun y hy => ?_, fun s hs => ?_⟩
    · show upd (upd (M 17) f 0) f (nI z) f = _
      rw [pk_us, s1, ← hzz]
    · show upd (M 15) f (nI n1) f = _
      rw [pk_us, s2, hnl]
    · rw [s2, hnl] at hx
      show uN (rgF (fun i => vp_nar .byte (M 30 ((400 * w + 200 * 0) + i))) (200 * f) n1 (M 14) (200 * f + x) &&& 255) = _
      unfold nmP
      rw [rgF_i (by omega) (by omega), Nat.add_sub_cancel_left, rby_nar, s3]
      show _ = nby (fup T.nm o (fun x => m.2 x) o) 0 x
      rw [fup_s]
      exact hD.2.2.2.2.2.2.1 x (by rw [en1]; exact hx)
    · rw [s1, ← hzz] at hy
      show uN (rgF (fun i => vp_nar .byte (M 32 (2048 * w + i))) (8192 * f + a) t (rgF (fun _ => vp_nar .byte 0) (8192 * f + 0) (z - 0) (M 18)) (8192 * f + y) &&& 255) = _
      rw [s5]
      by_cases c1 : a ≤ y ∧ y < a + t
      · rw [if_pos c1, rgF_i (by omega) (by omega), show 8192 * f + y - (8192 * f + a) = y - a by omega, rby_nar]
        exact dt (y - a) (by rw [ht5]; omega)
      · rw [if_neg c1, rgF_o (by omega), rgF_i (by omega) (by omega)]
        show _ = uN (T.dt o y)
        rw [hT.d1 o y (by rw [(hT.e2 o hnew).1]; exact Nat.zero_le _)]
        decide
    · show wlF f a (laF (19 * f) z (rgF (fun _ => vp_nar .boolean 0) (19 * f) 19 (M 19)) 19) t (19 * f + s) = 0 ↔ _
      rw [wr_vr hs ho, wlF_v]
      have hv : (T.mk1 o (fun x => m.2 x) (m.1 3).toNatClampNeg).vr o s = -1 := (hT.e2 o hnew).2 s
      by_cases c1 : 0 < t ∧ a / 448 ≤ s ∧ s ≤ (a + t - 1) / 448
      · rw [if_pos (by omega)]
        exact ⟨fun q => absurd q (by decide), fun q => absurd c1 q.2⟩
      · rw [if_neg (by omega), laF_v]
        refine ⟨fun _ => ⟨hv, c1⟩, fun _ => ?_⟩
        split
        · rfl
        · rw [rgF_i (by omega) (by omega)]; rfl
  · show uN (rgF (fun i => vp_nar .byte (M 30 ((400 * w + 200 * 0) + i))) (200 * f) n1 (M 14) (200 * f + x) &&& 255) = _
    rw [rgF_i (by omega) (by omega), Nat.add_sub_cancel_left, rby_nar]

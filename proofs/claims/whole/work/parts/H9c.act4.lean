/-! swap, read, next; any act -/
theorem ac_sw {T : TS} {o w c to n1 n3 t f g : Nat} {m : Mg} {M : Nat → Nat → Int32} (h : ACx T o m w c to n1 n3 t M) (hk : m.1 0 = 7) (hf : fd0 w n1 c f M) (hg : fd1 w n3 c g M) (hgf : ¬ g = f) (hF : FLM (acSw w c n1 n3 f g M)) : ACy T o m w M 0 (acSw w c n1 n3 f g M) := by
  obtain ⟨m1, m2, i, i1, i2, i3, i4, i5⟩ := h.yes0 hf
  obtain ⟨k1, k2, j, j1, j2, j3, j4, j5⟩ := h.yes1 hg
  obtain ⟨hT, ho, hN, hO, hD, hw, e20, e21, hI, hl, en1, h1, en3, h3, hct, htt, et, ht⟩ := h
  have hji : ¬ j = i := fun z => hgf (hl.2.2.1 g f k1 m1 (by rw [j3.1, i3.1, z]))
  have hst : stp T o m = some (0, (((T.nam i (fun x => m.2 (50 + x)) (m.1 4).toNatClampNeg).nam j (fun x => m.2 x) (m.1 3).toNatClampNeg).rcd i o).rcd j o) := by
    unfold stp
    rw [if_neg (by rw [hk]; decide), if_neg (by rw [hk]; decide), if_neg (by rw [hk]; decide), if_neg (by rw [hk]; decide), if_neg (by rw [hk]; decide), if_neg (by rw [hk]; decide), if_pos hk, i4]
    show (match fdN T m.2 50 (m.1 4).toNatClampNeg with | none => none | some j => _) = _
    rw [j4]
    exact if_neg hji
  obtain ⟨a1, a2⟩ := an_some hst
  obtain ⟨t1, t2⟩ := td_no (M := M) (M' := acSw w c n1 n3 f g M) (w := w) (tdO_no (T := T) (m := m) (by rw [hk]; decide) (by rw [hk]; decide)) rfl rfl
  obtain ⟨ec, _, hpm⟩ := hI.two m2 m1 k2 k1 hgf
  obtain ⟨p1, p2⟩ := lv_perm hI.2.1 hI.2.2.1 m2 m1
  have hc8 := hI.1
  have hlv := lv_oL (og := M 12) (c := c) m2 (fun j hj => (hI.2.1 j hj).1)
  have hb1 := ogB.lv (x := nI f) hI.2.1
  have hlv2 := lv_oL (og := lvF (nI f) c 0 0 (M 12)) (c := lvN (nI f) c 0 0 (M 12)) k2 (fun j hj => (hb1 j hj).1)
  have hd1 : RFl M (T.rem i) (oL (lvF (nI f) c 0 0 (M 12)) (lvN (nI f) c 0 0 (M 12))) := by
    rw [hlv]
    exact hl.del hT m1 i3 i1 (fun _ _ _ => smP.rf) (fun j hj => smF_rem hj) fup_s
  have hmg : g ∈ oL (lvF (nI f) c 0 0 (M 12)) (lvN (nI f) c 0 0 (M 12)) := (List.mem_cons.mp (p1.mem_iff.mpr k1)).resolve_left hgf
  have hj3 : RFe M (T.rem i) g j := j3.sm (hT.n1 j j2) (hT.z1 j) smP.rf (smF_rem hji)
  have hd : RFl M ((T.rem i).rem j) (oL (l2F f g c (M 12)) (l2N f g c (M 12))) := by
    show RFl M ((T.rem i).rem j) (oL (lvF (nI g) (lvN (nI f) c 0 0 (M 12)) 0 0 (lvF (nI f) c 0 0 (M 12))) (lvN (nI g) (lvN (nI f) c 0 0 (M 12)) 0 0 (lvF (nI f) c 0 0 (M 12))))
    rw [hlv2]
    exact hd1.del (hT.rem i) hmg hj3 j1 (fun _ _ _ => smP.rf) (fun j hj => smF_rem hj) fup_s
  have hsub : ∀ x, x ∈ oL (l2F f g c (M 12)) (l2N f g c (M 12)) → x ∈ oL (M 12) c ∧ ¬ x = g ∧ ¬ x = f := fun x hx => by
    have hx : x ∈ oL (lvF (nI g) (lvN (nI f) c 0 0 (M 12)) 0 0 (lvF (nI f) c 0 0 (M 12))) (lvN (nI g) (lvN (nI f) c 0 0 (M 12)) 0 0 (lvF (nI f) c 0 0 (M 12))) := hx
    rw [hlv2] at hx
    obtain ⟨y1, y2⟩ := flt_m hx
    rw [hlv] at y1
    obtain ⟨z1, z2⟩ := flt_m y1
    exact ⟨z1, y2, z2⟩
  refine ⟨?_, by rw [a1]; rfl, t1, t2⟩
  rw [a2]
  -- f takes the second NAME
  let M1 : Nat → Nat → Int32 := va_up (va_up M 14 (rgF (fun i => vp_nar .byte (M 30 ((400 * w + 200 * 1) + i))) (200 * f) n3 (M 14))) 15 (upd (M 15) f (nI n3))
  have hnb : ∀ x, x < n3 → rby (M1 14) (200 * f) x = rby (M 30) (400 * w + 200 * 1) x := fun x hx => by
    show uN (rgF (fun i => vp_nar .byte (M 30 ((400 * w + 200 * 1) + i))) (200 * f) n3 (M 14) (200 * f + x) &&& 255) = _
    rw [rgF_i (by omega) (by omega), Nat.add_sub_cancel_left, rby_nar]
  have hsm1 : ∀ x, ¬ x = f → smP M M1 x := fun x hx => ⟨rfl, rfl, pk_un hx, fun y hy => (show rgF (fun i => vp_nar .byte (M 30 ((400 * w + 200 * 1) + i))) (200 * f) n3 (M 14) (200 * x + y) = M 14 (200 * x + y) from rgF_o (by omega)), fun _ _ => rfl, fun _ _ => rfl⟩
  have hE1 : RFe M1 (((T.nam i (fun x => m.2 (50 + x)) (m.1 4).toNatClampNeg).rcd i o).rem j) f i := by
    have hs := smF_rem (T := (T.nam i (fun x => m.2 (50 + x)) (m.1 4).toNatClampNeg).rcd i o) (i := j) (j := i) (fun z => hji z.symm)
    refine rn_E (wd := nby m.2 50) i3 h3 rfl rfl rfl rfl pk_us (fun x hx => ?_) hs.2.1 hs.2.2.2.2.1 (fun p hp => ?_) (by show fup T.nl i _ i = n3; rw [fup_s]; exact en3) (fun x hx => ?_)
    · rw [hnb x hx]; exact hD.2.2.2.2.2.2.2 x (by rw [en3]; exact hx)
    · rw [hs.2.2.2.2.2 p hp]
      exact (smF_rcd (T := T.nam i (fun x => m.2 (50 + x)) (m.1 4).toNatClampNeg) (i := i) (o := o) (j := i)).2.2.2.2.2 p hp
    · show nby (fup T.nm i (fun x => m.2 (50 + x)) i) 0 x = _
      rw [fup_s, nby_sh]
  have hr1 : RFl M1 (((T.nam i (fun x => m.2 (50 + x)) (m.1 4).toNatClampNeg).rcd i o).rem j) (oL (enF (M 14) (M 30) (M 15) (400 * w + 200 * 1) n3 (l2N f g c (M 12)) (l2F f g c (M 12)) f) (l2N f g c (M 12) + 1)) := by
    refine hd.insE (i := i) (fun j' hj => ⟨((hT.rem i).rem j).n1 j' hj, ((hT.rem i).rem j).z1 j'⟩) (show fup (fup T.ex i false) j false i = false by rw [fup_n (fun z => hji z.symm), fup_s]) i1 m2 (fun x hx => hsm1 x (hsub x hx).2.2) (fun k hk => (((smF_rem hk).sy.tr ((smF_nam hk).tr smF_rcd)).rm)) (show fup T.ex j false i = true by rw [fup_n (fun z => hji z.symm)]; exact i2) hE1 (show fup T.nl i _ i = n3 by rw [fup_s]; exact en3) h3 hnb (fun j' hj => ?_)
    obtain ⟨x1, x2, x3⟩ := hsub _ (oL_mem.mpr ⟨j', hj, rfl⟩)
    subst en3
    exact ne_mc (M1 := M) hT hl h3 hD.2.2.2.2.2.2.2 x1 k1 x2 j3 j2 j5 ⟨rfl, fun _ _ => rfl⟩
  refine RF.fl hF (show nI (l2N f g c (M 12) + 1 + 1) = nI (l2N f g c (M 12) + 1 + 1) from rfl) (by omega) ?_
  show RFl _ _ (oL (enF (M1 14) (M 30) (M1 15) (400 * w + 200 * 0) n1 (l2N f g c (M 12) + 1) (enF (M 14) (M 30) (M 15) (400 * w + 200 * 1) n3 (l2N f g c (M 12)) (l2F f g c (M 12)) f) g) (l2N f g c (M 12) + 1 + 1))
  have hnb2 : ∀ x, x < n1 → rby (acSw w c n1 n3 f g M 14) (200 * g) x = rby (M 30) (400 * w + 200 * 0) x := fun x hx => by
    show uN (rgF (fun i => vp_nar .byte (M 30 ((400 * w + 200 * 0) + i))) (200 * g) n1 (rgF (fun i => vp_nar .byte (M 30 ((400 * w + 200 * 1) + i))) (200 * f) n3 (M 14)) (200 * g + x) &&& 255) = _
    rw [rgF_i (by omega) (by omega), Nat.add_sub_cancel_left, rby_nar]
  have hmm : ∀ x, x ∈ oL (enF (M 14) (M 30) (M 15) (400 * w + 200 * 1) n3 (l2N f g c (M 12)) (l2F f g c (M 12)) f) (l2N f g c (M 12) + 1) → x = f ∨ (x ∈ oL (M 12) c ∧ ¬ x = g ∧ ¬ x = f) := fun x hx => by
    rcases List.mem_cons.mp ((en_perm m2).mem_iff.mp hx) with e | e
    · exact Or.inl e
    · exact Or.inr (hsub x e)
  have hTX : ∀ k, (((T.nam i (fun x => m.2 (50 + x)) (m.1 4).toNatClampNeg).rcd i o).rem j).ex k = true → (((T.nam i (fun x => m.2 (50 + x)) (m.1 4).toNatClampNeg).rcd i o).rem j).nl k ≤ 200 ∧ (((T.nam i (fun x => m.2 (50 + x)) (m.1 4).toNatClampNeg).rcd i o).rem j).sz k ≤ 8192 := fun k hk => by
    have hkj : ¬ k = j := fun z => by
      have hk : fup T.ex j false k = true := hk
      rw [z, fup_s] at hk; cases hk
    have hk : fup T.ex j false k = true := hk
    rw [fup_n hkj] at hk
    refine ⟨?_, ?_⟩
    · show fup T.nl i (m.1 4).toNatClampNeg k ≤ 200
      by_cases e : k = i
      · rw [e, fup_s, en3]; exact h3
      · rw [fup_n e]; exact hT.n1 k hk
    · show fup T.sz j 0 k ≤ 8192
      rw [fup_n hkj]; exact hT.z1 k
  refine hr1.insE (i := j) hTX fup_s j1 k2 (fun x hx => ?_) (fun k hk => (smF_rem hk).sy.tr (smF_rcd.sy.tr ((smF_nam hk).tr (smF_rcd.tr smF_rcd)))) j2 ?_ (show fup (fup T.nl i _) j _ j = n1 by rw [fup_s]; exact en1) h1 hnb2 (fun j' hj => ?_)
  · have hxg : ¬ x = g := by
      rcases hmm x hx with e | e
      · rw [e]; exact fun z => hgf z.symm
      · exact e.2.1
    exact ⟨rfl, rfl, pk_un hxg, fun y hy => (show rgF (fun i => vp_nar .byte (M 30 ((400 * w + 200 * 0) + i))) (200 * g) n1 (rgF (fun i => vp_nar .byte (M 30 ((400 * w + 200 * 1) + i))) (200 * f) n3 (M 14)) (200 * x + y) = rgF (fun i => vp_nar .byte (M 30 ((400 * w + 200 * 1) + i))) (200 * f) n3 (M 14) (200 * x + y) from rgF_o (by omega)), fun _ _ => rfl, fun _ _ => rfl⟩
  · refine rn_E (wd := nby m.2 0) (T := T) (M := M) j3 h1 rfl rfl rfl rfl pk_us (fun x hx => ?_) rfl rfl (fun p hp => ?_) (by show fup (fup T.nl i _) j _ j = n1; rw [fup_s]; exact en1) (fun x hx => ?_)
    · rw [hnb2 x hx]; exact hD.2.2.2.2.2.2.1 x (by rw [en1]; exact hx)
    · exact ((smF_rcd (T := (T.nam i (fun x => m.2 (50 + x)) (m.1 4).toNatClampNeg).nam j (fun x => m.2 x) (m.1 3).toNatClampNeg) (i := i) (o := o) (j := j)).tr smF_rcd).2.2.2.2.2 p hp
    · show nby (fup (fup T.nm i _) j (fun x => m.2 x) j) 0 x = _
      rw [fup_s]
  · rcases hmm _ (oL_mem.mpr ⟨j', hj, rfl⟩) with e | ⟨x1, x2, x3⟩
    · rw [e]
      intro hm
      have hq2 : nEq (rby (M1 14) (200 * f)) n3 (rby (M 30) (400 * w + 200 * 0)) n1 := by
        rcases mcF_n (ff := M1 14) (pf := M 30) (lf := M1 15) (b := 400 * w + 200 * 0) (f := f) h1 h3 pk_us with ⟨y, _⟩ | ⟨_, y⟩ | ⟨y, _⟩
        · rw [hm] at y; exact absurd y Int32.lt_irrefl
        · exact y
        · rw [hm] at y; exact absurd y Int32.lt_irrefl
      refine kLt_ne hl.2.2.2 k1 m1 hgf ?_
      have hn1 := hT.n1 i i2
      have hn2 := hT.n1 j j2
      rw [j3.2.2.1, i3.2.2.1, nI_clamp (by omega), nI_clamp (by omega)]
      subst en1 en3
      have b1 : nEq (rby (M 14) (200 * g)) (T.nl j) (nmP T j) (T.nl j) := ⟨rfl, fun y hy => j3.2.2.2.1 y hy⟩
      have b2 : nEq (rby (M1 14) (200 * f)) (m.1 4).toNatClampNeg (nby m.2 50) (m.1 4).toNatClampNeg := ⟨rfl, fun y hy => (hnb y hy).trans (hD.2.2.2.2.2.2.2 y hy)⟩
      have b3 : nEq (rby (M 30) (400 * w + 200 * 0)) (m.1 3).toNatClampNeg (nby m.2 0) (m.1 3).toNatClampNeg := ⟨rfl, fun y hy => hD.2.2.2.2.2.2.1 y hy⟩
      have b4 : nEq (rby (M 14) (200 * f)) (T.nl i) (nmP T i) (T.nl i) := ⟨rfl, fun y hy => i3.2.2.2.1 y hy⟩
      exact ((b1.tr j5).tr (b2.sy.tr (hq2.tr b3))).tr (b4.tr i5).sy
    · subst en1
      exact ne_mc (M1 := M1) hT hl h1 hD.2.2.2.2.2.2.1 x1 m1 x3 i3 i2 i5 ⟨pk_un x3, (hsm1 _ x3).2.2.2.1⟩
theorem ac_rd {T : TS} {o w c to n1 n3 t f y0 z b2 : Nat} {m : Mg} {M : Nat → Nat → Int32} (h : ACx T o m w c to n1 n3 t M) (hk : m.1 0 = 4) (hf : fd0 w n1 c f M) (e17 : M 17 f = nI y0) (hy8 : y0 ≤ 8192) (hz8 : z < 8193) (ha : m.1 1 = nI z) (hb8 : b2 < 2049) (hb : m.1 2 = nI b2) (hF : FLM (acRd w f y0 z b2 M)) : ACy T o m w M (nI (min (y0 - z) b2)) (acRd w f y0 z b2 M) := by
  obtain ⟨m1, m2, i, i1, i2, i3, i4, _⟩ := h.yes0 hf
  obtain ⟨hT, ho, hN, hO, hD, hw, e20, e21, hI, hl, en1, h1, en3, h3, hct, htt, et, ht⟩ := h
  have hsz : T.sz i = y0 := nI_inj (by have := hT.z1 i; omega) (by omega) (i3.2.1.symm.trans e17)
  have hst : stp T o m = none := by
    unfold stp
    rw [if_neg (by rw [hk]; decide), if_neg (by rw [hk]; decide), if_neg (by rw [hk]; decide), if_neg (by rw [hk]; decide), if_neg (by rw [hk]; decide), if_neg (by rw [hk]; decide), if_neg (by rw [hk]; decide)]
  have hd : tdO T m = some (min (y0 - z) b2, fun x => uN (T.dt i (z + x))) := by
    unfold tdO
    rw [if_pos hk, i4, ha, hb, nI_clamp (by omega), nI_clamp (by omega), ← hsz]
  obtain ⟨a1, a2, a3, a4⟩ := an_told hst hd
  refine ⟨?_, a1.symm, ⟨?_, fun x hx => ?_⟩, fun w' hw' => ⟨?_, fun x hx => ?_⟩⟩
  · rw [a2]
    exact RF.fl hF e20 hI.1 hl
  · rw [a3]
    show upd (upd (M 36) w 0) w (nI (min (y0 - z) b2)) w = _
    rw [pk_us]
  · rw [a3] at hx
    rw [a4]
    have hx : x < min (y0 - z) b2 := hx
    show rgF (fun i => (M 18 (8192 * f + z + i)) &&& 255) (2048 * w) (min (y0 - z) b2) (M 35) (2048 * w + x) = nI (uN (T.dt i (z + x)))
    rw [rgF_i (by omega) (by omega), Nat.add_sub_cancel_left, Nat.add_assoc, rby_e, i3.2.2.2.2.1 (z + x) (by omega)]
  · show upd (upd (M 36) w 0) w (nI (min (y0 - z) b2)) w' = _
    rw [pk_un hw', pk_un hw']
  · show rgF (fun i => (M 18 (8192 * f + z + i)) &&& 255) (2048 * w) (min (y0 - z) b2) (M 35) (2048 * w' + x) = _
    exact rgF_o (by omega)
theorem ac_nx {T : TS} {o w c to n1 n3 t k f l : Nat} {m : Mg} {M : Nat → Nat → Int32} (h : ACx T o m w c to n1 n3 t M) (hk : m.1 0 = 9) (hkn : k = nxA (M 14) (M 30) (M 15) (400 * w + 200 * 0) n1 (M 12) c 0) (hkc : k < c) (hf : M 12 k = nI f) (hf8 : f < 48) (hl15 : M 15 f = nI l) (hl8 : l ≤ 200) (hF : FLM (acNx w f l M)) : ACy T o m w M (nI l) (acNx w f l M) := by
  obtain ⟨hT, ho, hN, hO, hD, hw, e20, e21, hI, hl, en1, h1, en3, h3, hct, htt, et, ht⟩ := h
  have hfm : f ∈ oL (M 12) c := oL_mem.mpr ⟨k, hkc, by rw [hf, nI_clamp (by omega)]⟩
  obtain ⟨_, i, i1, i2, i3⟩ := hl.1 f hfm
  have hnl : T.nl i = l := nI_inj (by have := hT.n1 i i2; omega) (by omega) (i3.2.2.1.symm.trans hl15)
  have hst : stp T o m = none := by
    unfold stp
    rw [if_neg (by rw [hk]; decide), if_neg (by rw [hk]; decide), if_neg (by rw [hk]; decide), if_neg (by rw [hk]; decide), if_neg (by rw [hk]; decide), if_neg (by rw [hk]; decide), if_neg (by rw [hk]; decide)]
  obtain ⟨_, _, p3, p4⟩ := nx_p (ff := M 14) (pf := M 30) (lf := M 15) (og := M 12) (b := 400 * w + 200 * 0) (n := n1) c 0
  rw [← hkn] at p3 p4
  have hop : nEq (rby (M 30) (400 * w + 200 * 0)) n1 (nby m.2 0) n1 := ⟨rfl, fun y hy => hD.2.2.2.2.2.2.1 y (by rw [en1]; exact hy)⟩
  have hgt : ∀ g j, g ∈ oL (M 12) c → RFe M T g j → T.ex j = true → (nLt (nby m.2 0) n1 (nmP T j) (T.nl j) ↔ ¬ mcF (M 14) (M 30) (M 15) (400 * w + 200 * 0) n1 g ≤ 0) := fun g j hg hj hjx => by
    have e1 : nEq (rby (M 14) (200 * g)) (T.nl j) (nmP T j) (T.nl j) := ⟨rfl, fun y hy => hj.2.2.2.1 y hy⟩
    rcases mcF_n (ff := M 14) (pf := M 30) (lf := M 15) (b := 400 * w + 200 * 0) (f := g) h1 (hT.n1 j hjx) hj.2.2.1 with ⟨y1, y2⟩ | ⟨y1, y2⟩ | ⟨y1, y2⟩
    · refine ⟨fun z => ?_, fun z => absurd (Int32.le_of_lt y1) z⟩
      exact absurd (nLt.el e1.sy (y2.er hop)) (fun q => z.as q)
    · refine ⟨fun z => ?_, fun z => absurd (by rw [y1]; exact Int32.le_refl _) z⟩
      exact absurd ((e1.sy.tr y2).tr hop).sy (fun q => z.ne q)
    · exact ⟨fun _ => Int32.not_le.mpr y1, fun _ => nLt.el hop.sy (y2.er e1)⟩
  have hp4 := p4 (by omega)
  rw [hf, nI_clamp (by omega)] at hp4
  have hnx : isNx T m.2 (m.1 3).toNatClampNeg i := by
    rw [en1]
    refine ⟨i1, i2, (hgt f i hfm i3 i2).mpr hp4, fun j hj hjx hjl => ?_⟩
    obtain ⟨g, g1, g2, g3⟩ := hl.at hj hjx
    have hg := (hgt g j g1 g3 hjx).mp hjl
    obtain ⟨k', k1, k2⟩ := oL_mem.mp g1
    rcases Nat.lt_or_ge k' k with z | z
    · have := p3 k' (Nat.zero_le _) z
      rw [k2] at this
      exact absurd this hg
    · rcases Nat.lt_or_ge k k' with y | y
      · right
        have := oL_pw.mp hl.2.2.2 k k' y k1
        rw [k2, hf, nI_clamp (by omega)] at this
        unfold kLt at this
        have hn1 := hT.n1 i i2
        have hn2 := hT.n1 j hjx
        rw [i3.2.2.1, g3.2.2.1, nI_clamp (by omega), nI_clamp (by omega)] at this
        exact this.cg (fun x hx => (i3.2.2.2.1 x hx).symm) (fun x hx => (g3.2.2.2.1 x hx).symm)
      · left
        have e : k' = k := by omega
        rw [e, hf, nI_clamp (by omega)] at k2
        rw [← k2] at g3
        exact nI_inj (by omega) (by omega) (g3.1.symm.trans i3.1)
  have hd : tdO T m = some (l, nmP T i) := by
    unfold tdO
    rw [if_neg (by rw [hk]; decide), if_pos hk, nxN_eq hnx, ← hnl]
  obtain ⟨a1, a2, a3, a4⟩ := an_told hst hd
  refine ⟨?_, a1.symm, ⟨?_, fun x hx => ?_⟩, fun w' hw' => ⟨?_, fun x hx => ?_⟩⟩
  · rw [a2]
    exact RF.fl hF e20 hI.1 hl
  · rw [a3]
    show upd (upd (M 36) w 0) w (nI l) w = _
    rw [pk_us]
  · rw [a3] at hx
    rw [a4]
    have hx : x < l := hx
    show rgF (fun i => (M 14 (200 * f + i)) &&& 255) (2048 * w) l (M 35) (2048 * w + x) = nI (nmP T i x)
    rw [rgF_i (by omega) (by omega), Nat.add_sub_cancel_left, rby_e, i3.2.2.2.1 x (by omega)]
  · show upd (upd (M 36) w 0) w (nI l) w' = _
    rw [pk_un hw', pk_un hw']
  · show rgF (fun i => (M 14 (200 * f + i)) &&& 255) (2048 * w) l (M 35) (2048 * w' + x) = _
    exact rgF_o (by omega)
/-- any act -/
theorem act_rf {T : TS} {o w : Nat} {m : Mg} {M M' : Nat → Nat → Int32} {y : Int32} (hT : TOK T o) (ho : o < 512) (hw : w < 12) (hN : NZ T) (hO : OZ m) (hA : AQ (m.1 0) (m.1 1) (m.1 2) (m.1 3) (m.1 4) (m.1 5)) (hD : OD M w m) (hR : RF M T) (hF : FLM M') (h : ACT w o M y M') : ACy T o m w M y M' := by
  obtain ⟨c, to, n1, n3, t, e20, e21, hI, en1, hn1, en3, hn3, et, ht, h⟩ := h
  obtain ⟨c0, to0, f20, f21, hI0, hl⟩ := hR
  have hc0 : c0 = c := nI_inj (by have := hI0.1; omega) (by have := hI.1; omega) (f20.symm.trans e20)
  subst hc0
  obtain ⟨hct, htt⟩ := hl.cnt hT hI
  have hx : ACx T o m w c0 to n1 n3 t M := ⟨hT, ho, hN, hO, hD, hw, e20, e21, hI, hl, by rw [← hD.2.2.2.1, en1, nI_clamp (by omega)], by omega, by rw [← hD.2.2.2.2.1, en3, nI_clamp (by omega)], by omega, hct, htt, et, ht⟩
  have d0 := hD.1
  have d1 := hD.2.1
  have d2 := hD.2.2.1
  rcases h with ⟨k, h⟩ | ⟨k, h⟩ | ⟨k, h⟩ | ⟨k, h⟩ | ⟨k, h⟩ | ⟨k, h⟩ | ⟨k, h⟩ | ⟨k, h⟩ | ⟨k, h⟩
  · rw [d0] at k
    have hd := tdO_no (T := T) (m := m) (by rw [k]; decide) (by rw [k]; decide)
    rcases h with ⟨hn, ⟨z1, z2, z3⟩ | ⟨z1, z2, z3⟩⟩ | ⟨f, hf, z2, z3⟩
    · subst z2 z3
      exact ac_mk hx k hn z1 hF
    · have hst : stp T o m = none := by
        unfold stp
        rw [if_pos k, (hx.no0 hn).1]
        exact if_pos (by rw [← hct]; exact z1)
      obtain ⟨a1, a2⟩ := an_none hst hd
      refine hx.keep z3 hF a2 hd ?_
      rw [z2, a1]
      unfold erS
      rw [if_pos k, (hx.no0 hn).1]
    · obtain ⟨_, _, i, _, _, _, i4, _⟩ := hx.yes0 hf
      have hst : stp T o m = none := by
        unfold stp
        rw [if_pos k, i4]
      obtain ⟨a1, a2⟩ := an_none hst hd
      refine hx.keep z3 hF a2 hd ?_
      rw [z2, a1]
      unfold erS
      rw [if_pos k, i4]
  · rw [d0] at k
    have hd := tdO_no (T := T) (m := m) (by rcases k with k | k <;> rw [k] <;> decide) (by rcases k with k | k <;> rw [k] <;> decide)
    have her : erS T m = -4 := by
      unfold erS
      rw [if_neg (by rcases k with k | k <;> rw [k] <;> decide), if_pos k]
    rcases h with ⟨hn, a, z, ha, hz, h⟩ | ⟨f, y0, a, z, hf, e17, hy8, hyt, ha, hz, h⟩
    · rw [d0, d1] at ha
      obtain ⟨w1, w2⟩ := ac_wn hx k hn ha hz
      rcases h with ⟨z1, z2, z3⟩ | ⟨z1, z2, z3⟩
      · obtain ⟨a1, a2⟩ := an_none (w1 z1) hd
        exact hx.keep z3 hF a2 hd (by rw [z2, a1, her])
      · subst z2 z3
        exact w2 z1 hF
    · rw [d0, d1] at ha
      obtain ⟨w1, w2⟩ := ac_wo hx k hf e17 hy8 ha hz
      rcases h with ⟨z1, z2, z3⟩ | ⟨z1, z2, z3⟩
      · obtain ⟨a1, a2⟩ := an_none (w1 z1) hd
        exact hx.keep z3 hF a2 hd (by rw [z2, a1, her])
      · subst z2 z3
        exact w2 z1 hF
  · rw [d0] at k
    have hd := tdO_no (T := T) (m := m) (by rw [k]; decide) (by rw [k]; decide)
    obtain ⟨z, hz8, hz, h⟩ := h
    rw [d1] at hz
    rcases h with ⟨hn, z2, z3⟩ | ⟨f, y0, hf, e17, hy8, hyt, h⟩
    · have hst : stp T o m = none := by
        unfold stp
        rw [if_neg (by rw [k]; decide), if_neg (by rw [k]; decide), if_neg (by rw [k]; decide), if_pos k, (hx.no0 hn).1]
      obtain ⟨a1, a2⟩ := an_none hst hd
      refine hx.keep z3 hF a2 hd ?_
      rw [z2, a1]
      unfold erS
      rw [if_neg (by rw [k]; decide), if_neg (by rw [k]; decide), if_pos k, (hx.no0 hn).1]
    · obtain ⟨w1, w2⟩ := ac_cu hx k hf e17 hy8 hz8 hz
      rcases h with ⟨z1, z2, z3⟩ | ⟨z1, z2, z3⟩
      · obtain ⟨q1, i, q2⟩ := w1 z1
        obtain ⟨a1, a2⟩ := an_none q1 hd
        refine hx.keep z3 hF a2 hd ?_
        rw [z2, a1]
        unfold erS
        rw [if_neg (by rw [k]; decide), if_neg (by rw [k]; decide), if_pos k, q2]
      · subst z2 z3
        exact w2 z1 hF
  · rw [d0] at k
    obtain ⟨z, b2, hz8, hz, hb8, hb, h⟩ := h
    rw [d1] at hz
    rw [d2] at hb
    rcases h with ⟨hn, z2, z3⟩ | ⟨f, y0, hf, e17, hy8, z2, z3⟩
    · have hst : stp T o m = none := by
        unfold stp
        rw [if_neg (by rw [k]; decide), if_neg (by rw [k]; decide), if_neg (by rw [k]; decide), if_neg (by rw [k]; decide), if_neg (by rw [k]; decide), if_neg (by rw [k]; decide), if_neg (by rw [k]; decide)]
      have hd : tdO T m = none := by
        unfold tdO
        rw [if_pos k, (hx.no0 hn).1]
      obtain ⟨a1, a2⟩ := an_none hst hd
      refine hx.keep z3 hF a2 hd ?_
      rw [z2, a1]
      unfold erS
      rw [if_neg (by rw [k]; decide), if_neg (by rw [k]; decide), if_neg (by rw [k]; decide), if_neg (by rw [k]; decide)]
    · subst z2 z3
      exact ac_rd hx k hf e17 hy8 hz8 hz hb8 hb hF
  · rw [d0] at k
    have hd := tdO_no (T := T) (m := m) (by rw [k]; decide) (by rw [k]; decide)
    rcases h with ⟨hn, z2, z3⟩ | ⟨f, hf, z2, z3⟩
    · have hst : stp T o m = none := by
        unfold stp
        rw [if_neg (by rw [k]; decide), if_neg (by rw [k]; decide), if_neg (by rw [k]; decide), if_neg (by rw [k]; decide), if_pos k, (hx.no0 hn).1]
      obtain ⟨a1, a2⟩ := an_none hst hd
      refine hx.keep z3 hF a2 hd ?_
      rw [z2, a1]
      unfold erS
      rw [if_neg (by rw [k]; decide), if_neg (by rw [k]; decide), if_neg (by rw [k]; decide), if_neg (by rw [k]; decide)]
    · subst z2 z3
      exact ac_go hx k hf hF
  · rw [d0] at k
    have hd := tdO_no (T := T) (m := m) (by rw [k]; decide) (by rw [k]; decide)
    rcases h with ⟨hn, z2, z3⟩ | ⟨f, hf, h⟩
    · have hst : stp T o m = none := by
        unfold stp
        rw [if_neg (by rw [k]; decide), if_neg (by rw [k]; decide), if_neg (by rw [k]; decide), if_neg (by rw [k]; decide), if_neg (by rw [k]; decide), if_pos k, (hx.no0 hn).1]
      obtain ⟨a1, a2⟩ := an_none hst hd
      refine hx.keep z3 hF a2 hd ?_
      rw [z2, a1]
      unfold erS
      rw [if_neg (by rw [k]; decide), if_neg (by rw [k]; decide), if_neg (by rw [k]; decide), if_neg (by rw [k]; decide)]
    · rcases h with ⟨hn, z2, z3⟩ | ⟨g, hg, ⟨z1, z2, z3⟩ | ⟨z1, z2, z3⟩⟩
      · subst z2 z3
        exact ac_rn hx k hf hn hF
      · obtain ⟨_, _, i, i1, _, i3, i4, _⟩ := hx.yes0 hf
        obtain ⟨_, _, j, j1, _, j3, j4, _⟩ := hx.yes1 hg
        have hji : j = i := by
          rw [z1] at j3
          exact nI_inj (by omega) (by omega) (j3.1.symm.trans i3.1)
        have hst : stp T o m = some (0, T) := by
          unfold stp
          rw [if_neg (by rw [k]; decide), if_neg (by rw [k]; decide), if_neg (by rw [k]; decide), if_neg (by rw [k]; decide), if_neg (by rw [k]; decide), if_pos k, i4]
          show (match fdN T m.2 50 (m.1 4).toNatClampNeg with | none => _ | some j => _) = _
          rw [j4]
          exact if_pos hji
        obtain ⟨a1, a2⟩ := an_some hst
        exact hx.keep z3 hF a2 hd (by rw [z2, a1]; rfl)
      · subst z2 z3
        exact ac_rg hx k hf hg z1 hF
  · rw [d0] at k
    have hd := tdO_no (T := T) (m := m) (by rw [k]; decide) (by rw [k]; decide)
    have her : erS T m = -2 := by
      unfold erS
      rw [if_neg (by rw [k]; decide), if_neg (by rw [k]; decide), if_neg (by rw [k]; decide), if_neg (by rw [k]; decide)]
    rcases h with ⟨hn, z2, z3⟩ | ⟨f, hf, h⟩
    · have hst : stp T o m = none := by
        unfold stp
        rw [if_neg (by rw [k]; decide), if_neg (by rw [k]; decide), if_neg (by rw [k]; decide), if_neg (by rw [k]; decide), if_neg (by rw [k]; decide), if_neg (by rw [k]; decide), if_pos k, (hx.no0 hn).1]
      obtain ⟨a1, a2⟩ := an_none hst hd
      exact hx.keep z3 hF a2 hd (by rw [z2, a1, her])
    · obtain ⟨_, _, i, i1, _, i3, i4, _⟩ := hx.yes0 hf
      rcases h with ⟨hn, z2, z3⟩ | ⟨g, hg, ⟨z1, z2, z3⟩ | ⟨z1, z2, z3⟩⟩
      · have hst : stp T o m = none := by
          unfold stp
          rw [if_neg (by rw [k]; decide), if_neg (by rw [k]; decide), if_neg (by rw [k]; decide), if_neg (by rw [k]; decide), if_neg (by rw [k]; decide), if_neg (by rw [k]; decide), if_pos k, i4]
          show (match fdN T m.2 50 (m.1 4).toNatClampNeg with | none => none | some j => _) = _
          rw [(hx.no1 hn).1]
        obtain ⟨a1, a2⟩ := an_none hst hd
        exact hx.keep z3 hF a2 hd (by rw [z2, a1, her])
      · obtain ⟨_, _, j, j1, _, j3, j4, _⟩ := hx.yes1 hg
        have hji : j = i := by
          rw [z1] at j3
          exact nI_inj (by omega) (by omega) (j3.1.symm.trans i3.1)
        have hst : stp T o m = some (0, T) := by
          unfold stp
          rw [if_neg (by rw [k]; decide), if_neg (by rw [k]; decide), if_neg (by rw [k]; decide), if_neg (by rw [k]; decide), if_neg (by rw [k]; decide), if_neg (by rw [k]; decide), if_pos k, i4]
          show (match fdN T m.2 50 (m.1 4).toNatClampNeg with | none => none | some j => _) = _
          rw [j4]
          exact if_pos hji
        obtain ⟨a1, a2⟩ := an_some hst
        exact hx.keep z3 hF a2 hd (by rw [z2, a1]; rfl)
      · subst z2 z3
        exact ac_sw hx k hf hg z1 hF
  · rw [d0] at k
    have hd := tdO_no (T := T) (m := m) (by rw [k]; decide) (by rw [k]; decide)
    have hst : stp T o m = none := by
      unfold stp
      rw [if_neg (by rw [k]; decide), if_neg (by rw [k]; decide), if_neg (by rw [k]; decide), if_neg (by rw [k]; decide), if_neg (by rw [k]; decide), if_neg (by rw [k]; decide), if_neg (by rw [k]; decide)]
    obtain ⟨a1, a2⟩ := an_none hst hd
    rcases h with ⟨hn, z2, z3⟩ | ⟨f, hf, z2, z3⟩
    · refine hx.keep z3 hF a2 hd ?_
      rw [z2, a1]
      unfold erS
      rw [if_neg (by rw [k]; decide), if_neg (by rw [k]; decide), if_neg (by rw [k]; decide), if_pos k, (hx.no0 hn).1]
    · obtain ⟨_, _, i, i1, _, i3, i4, _⟩ := hx.yes0 hf
      refine hx.keep z3 hF a2 hd ?_
      rw [z2, a1]
      unfold erS
      rw [if_neg (by rw [k]; decide), if_neg (by rw [k]; decide), if_neg (by rw [k]; decide), if_pos k, i4]
      exact i3.2.1
  · rw [d0] at k
    rcases h with ⟨hn, z2, z3⟩ | ⟨i, f, l, e1, e2, e3, e4, e5, e6, z2, z3⟩
    · have hst : stp T o m = none := by
        unfold stp
        rw [if_neg (by rw [k]; decide), if_neg (by rw [k]; decide), if_neg (by rw [k]; decide), if_neg (by rw [k]; decide), if_neg (by rw [k]; decide), if_neg (by rw [k]; decide), if_neg (by rw [k]; decide)]
      have hd : tdO T m = none := by
        unfold tdO
        rw [if_neg (by rw [k]; decide), if_pos k, nxN_no]
        intro j hj hjx hjl
        obtain ⟨g, g1, g2, g3⟩ := hl.at hj hjx
        obtain ⟨_, p2, p3, _⟩ := nx_p (ff := M 14) (pf := M 30) (lf := M 15) (og := M 12) (b := 400 * w + 200 * 0) (n := n1) c0 0
        obtain ⟨k', k1, k2⟩ := oL_mem.mp g1
        have hp := p3 k' (Nat.zero_le _) (by omega)
        rw [k2] at hp
        have en : (m.1 3).toNatClampNeg = n1 := by rw [← hD.2.2.2.1, en1, nI_clamp (by omega)]
        rw [en] at hjl
        have hop : nEq (rby (M 30) (400 * w + 200 * 0)) n1 (nby m.2 0) n1 := ⟨rfl, fun y hy => hD.2.2.2.2.2.2.1 y (by rw [en]; exact hy)⟩
        have e1 : nEq (rby (M 14) (200 * g)) (T.nl j) (nmP T j) (T.nl j) := ⟨rfl, fun y hy => g3.2.2.2.1 y hy⟩
        rcases mcF_n (ff := M 14) (pf := M 30) (lf := M 15) (b := 400 * w + 200 * 0) (f := g) (show n1 ≤ 200 by omega) (hT.n1 j hjx) g3.2.2.1 with ⟨y1, y2⟩ | ⟨y1, y2⟩ | ⟨y1, y2⟩
        · exact hjl.as (nLt.el e1.sy (y2.er hop))
        · exact hjl.ne ((e1.sy.tr y2).tr hop).sy
        · exact absurd hp (Int32.not_le.mpr y1)
      obtain ⟨a1, a2⟩ := an_none hst hd
      refine hx.keep z3 hF a2 hd ?_
      rw [z2, a1]
      unfold erS
      rw [if_neg (by rw [k]; decide), if_neg (by rw [k]; decide), if_neg (by rw [k]; decide), if_neg (by rw [k]; decide)]
    · subst z2 z3
      exact ac_nx hx k e1 e2 e3 e4 e5 e6 hF

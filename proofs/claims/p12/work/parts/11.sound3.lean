/-! writes, makings and returns are sound -/
theorem ax_nar {base b : Nat} {ty : FieldType} {v : Value} (h : narrow ty v = v) : narrow ty (ax_tv base b v) = ax_tv base b v := by
  cases v <;> first | exact h | (cases ty <;> first | rfl | exact h | (simp [narrow, ax_tv] at h ⊢))
theorem ax_fit {base b : Nat} {ty : FieldType} {v : Value} (h : fits ty v = true) : fits ty (ax_tv base b v) = true := by
  cases v <;> first | exact h | (cases ty <;> first | rfl | exact h)
theorem ax_after {base b L a : Nat} {xs : Nat → Int32} {s : State} {H H1 : Heap} {locs : List Loc} (hbb : b ≤ base) (ha : 0 < a) (oq : ∀ x, x ≠ ax_ad base b a → H1[x]? = H[x]?) (hX : va_X b L xs s H) (hF : ∀ q, q ≤ base → H[q]? = s.heap[q]?) (hO : ∀ q ∈ locs, base < q.base) :
    va_X b L xs s H1 ∧ (∀ q, q ≤ base → H1[q]? = s.heap[q]?) ∧ ∀ k : Nat, ∀ q ∈ locs ++ [(⟨ax_ad base b a, k⟩ : Loc)], base < q.base := by
  rw [ax_ad_pos ha] at oq ⊢
  refine ⟨hX.kept (oq b (by omega)), fun q hq => by rw [oq q (by omega)]; exact hF q hq, fun k q hq => ?_⟩
  rcases List.mem_append.mp hq with h1 | h1
  · exact hO q h1
  · rw [List.mem_singleton.mp h1]
    show base < base + a
    omega
theorem ax_afterP {base b L : Nat} {xs : Nat → Int32} {s : State} {D : va_G} {dA : Nat → ClassId} {h : ax_H} {H H1 : Heap} (hbb : b ≤ base) (hR : ax_R D dA base b h H) (h1 : 0 < h.1) (oq : ∀ x, x < H.size → H1[x]? = H[x]?) (hX : va_X b L xs s H) (hF : ∀ q, q ≤ base → H[q]? = s.heap[q]?) :
    va_X b L xs s H1 ∧ (∀ q, q ≤ base → H1[q]? = s.heap[q]?) := by
  have hs := hR.1
  exact ⟨hX.kept (oq b (by omega)), fun q hq => by rw [oq q (by omega)]; exact hF q hq⟩
theorem axs_iastore : ax_I .iastore := by
  intro p l e R s m args below meth c D dA base b L xs Q n0 s0 P post mi pc fr lo len lv st h hbb hn0 C hd hfit hend hw ih
  obtain ⟨⟨x, i, a, r⟩, hq, hw⟩ := ax_o_s (q := ax_pIIR st) hw
  obtain rfl := ax_pIIR_s hq
  obtain ⟨⟨n, f⟩, hg, hw⟩ := ax_o_s (q := ax_gi h a 0) hw
  obtain ⟨⟨rfl, hi⟩, -, hw⟩ := ax_F_i hw
  have hg' := ax_gi_s hg
  have ha := (ax_g_s hg').1
  intro H locs ls g1 g2 hR hX hF hL hO
  have hc : H[ax_ad base b a]? = some (vp_cell (dA 0) (n, .inl f)) := hR.at hg'
  refine W.iast C.1 C.2.1 hc ((C.2.2.2.2.2.2.2.2.1.1.2 0 _ (ax_tys_at axt_ty0)).1 n (fun j => .int (f j))) (fun q => by cases q) (by show ¬ (i < 0 ∨ (arrV _ _ _).slots.size ≤ _); rw [arrV_size]; exact hi) rfl rfl hd fun H1 e z oq => ?_
  have hR1 := hR.set (e' := .inl (0, n, .inl (upd f i.toNatClampNeg x))) hg' (by
    show H1[ax_ad base b a]? = some (vp_cell (dA 0) (n, .inl (upd f i.toNatClampNeg x)))
    rw [e, vp_cell_i, vp_cell_i, arrV_store]
    congr 2
    funext q
    by_cases hq : q = i.toNatClampNeg
    · subst hq
      simp [updV, upd]
    · simp [updV, upd, hq]) z oq
  obtain ⟨hX1, hF1, hO1⟩ := ax_after hbb ha oq hX hF hO
  exact ih _ hw rfl rfl H1 _ ls g1 g2 hR1 hX1 hF1 hL (hO1 _)
theorem axs_bastore : ax_I .bastore := by
  intro p l e R s m args below meth c D dA base b L xs Q n0 s0 P post mi pc fr lo len lv st h hbb hn0 C hd hfit hend hw ih
  obtain ⟨⟨x, i, a, r⟩, hq, hw⟩ := ax_o_s (q := ax_pIIR st) hw
  obtain rfl := ax_pIIR_s hq
  have q : ax_F (ax_o2 (ax_gi h a 1) (fun q => ((len = 1 ∧ vp_in i q.1), .inl (ax_nx (mi, pc, fr, lo) 1 lv r (ax_put h a (.inl (1, q.1, .inl (upd q.2 i.toNatClampNeg (vp_nar .byte x)))))))) (ax_o (ax_gi h a 2) (fun q => ((len = 1 ∧ vp_in i q.1), .inl (ax_nx (mi, pc, fr, lo) 1 lv r (ax_put h a (.inl (2, q.1, .inl (upd q.2 i.toNatClampNeg (vp_nar .boolean x)))))))))) P h post := hw
  cases hg : ax_gi h a 1 with
  | some z =>
    obtain ⟨n, f⟩ := z
    rw [hg] at q
    obtain ⟨⟨rfl, hi⟩, -, hw2⟩ := ax_F_i q
    have hg' := ax_gi_s hg
    have ha := (ax_g_s hg').1
    intro H locs ls g1 g2 hR hX hF hL hO
    have hc : H[ax_ad base b a]? = some (vp_cell (dA 1) (n, .inl f)) := hR.at hg'
    refine W.bast C.1 C.2.1 hc ((C.2.2.2.2.2.2.2.2.1.1.2 1 _ (ax_tys_at axt_ty1)).1 n (fun j => .int (f j))) (fun q => by cases q) (by show ¬ (i < 0 ∨ (arrV _ _ _).slots.size ≤ _); rw [arrV_size]; exact hi) rfl rfl hd fun H1 e z oq => ?_
    have hR1 := hR.set (e' := .inl (1, n, .inl (upd f i.toNatClampNeg (vp_nar .byte x)))) hg' (by
      show H1[ax_ad base b a]? = some (vp_cell (dA 1) (n, .inl (upd f i.toNatClampNeg (vp_nar .byte x))))
      rw [e, vp_cell_i, vp_cell_i, arrV_store]
      congr 2
      funext q
      by_cases hq : q = i.toNatClampNeg
      · subst hq
        simp [updV, upd, vp_nar]
        try rfl
      · simp [updV, upd, hq]) z oq
    obtain ⟨hX1, hF1, hO1⟩ := ax_after hbb ha oq hX hF hO
    exact ih _ hw2 rfl rfl H1 _ ls g1 g2 hR1 hX1 hF1 hL (hO1 _)
  | none =>
    rw [hg] at q
    obtain ⟨⟨n, f⟩, hg, hw2⟩ := ax_o_s (q := ax_gi h a 2) q
    obtain ⟨⟨rfl, hi⟩, -, hw2⟩ := ax_F_i hw2
    have hg' := ax_gi_s hg
    have ha := (ax_g_s hg').1
    intro H locs ls g1 g2 hR hX hF hL hO
    have hc : H[ax_ad base b a]? = some (vp_cell (dA 2) (n, .inl f)) := hR.at hg'
    refine W.zast C.1 C.2.1 hc ((C.2.2.2.2.2.2.2.2.1.1.2 2 _ (ax_tys_at axt_ty2)).1 n (fun j => .int (f j))) (fun q => by cases q) (by show ¬ (i < 0 ∨ (arrV _ _ _).slots.size ≤ _); rw [arrV_size]; exact hi) rfl rfl hd fun H1 e z oq => ?_
    have hR1 := hR.set (e' := .inl (2, n, .inl (upd f i.toNatClampNeg (vp_nar .boolean x)))) hg' (by
      show H1[ax_ad base b a]? = some (vp_cell (dA 2) (n, .inl (upd f i.toNatClampNeg (vp_nar .boolean x))))
      rw [e, vp_cell_i, vp_cell_i, arrV_store]
      congr 2
      funext q
      by_cases hq : q = i.toNatClampNeg
      · subst hq
        simp [updV, upd, vp_nar]
        try rfl
      · simp [updV, upd, hq]) z oq
    obtain ⟨hX1, hF1, hO1⟩ := ax_after hbb ha oq hX hF hO
    exact ih _ hw2 rfl rfl H1 _ ls g1 g2 hR1 hX1 hF1 hL (hO1 _)
theorem axs_aastore : ax_I .aastore := by
  intro p l e R s m args below meth c D dA base b L xs Q n0 s0 P post mi pc fr lo len lv st h hbb hn0 C hd hfit hend hw ih
  obtain ⟨⟨x, i, a, r⟩, hq, hw⟩ := ax_o_s (q := ax_pRIR st) hw
  obtain rfl := ax_pRIR_s hq
  obtain ⟨⟨t, n, f⟩, hg, hw⟩ := ax_o_s (q := ax_gq h a) hw
  obtain ⟨ci, hec, hw⟩ := ax_o_s (q := axt_ec t) hw
  obtain ⟨fs, hgx, hw⟩ := ax_o_s (q := ax_go h x ci) hw
  obtain ⟨⟨rfl, hi⟩, -, hw⟩ := ax_F_i hw
  obtain ⟨r0, hc0, ht⟩ := axt_ec_ok hec
  have hg' := ax_gq_s hg
  have ha := (ax_g_s hg').1
  intro H locs ls g1 g2 hR hX hF hL hO
  have hK := C.2.2.2.2.2.2.2.2.1.1
  have hc : H[ax_ad base b a]? = some (vp_cell (dA t) (n, .inr (.inr (.inr (.inr (fun j => (f j).map (ax_ad base b))))))) := hR.at hg'
  have hlt : i.toNatClampNeg < n := Nat.not_le.mp fun q => hi (Or.inr q)
  have h0 : ¬ i < 0 := fun q => hi (Or.inl q)
  obtain ⟨r', hr', cellV, v1, v2, v3, -⟩ := hR.at (ax_go_s hgx)
  have hcls := (hK.1 ci r0 hc0).2
  obtain ⟨kA, comp, k1, k2, k3, -⟩ := (hK.2 t _ (ax_tys_at ht)).2
  have hcomp : comp = D.1 ci := Option.some.inj (k3.symm.trans hcls.1)
  subst hcomp
  obtain ⟨kC, hkC, -⟩ := hcls.2
  refine W.aast C.1 C.2.1 hc (fun q h => by cases h) (fun h => by cases h) k1 k2 rfl hkC ⟨h0, by show _ < (arrV _ _ _).slots.size; rw [arrV_size]; exact hlt⟩ v1 (fun q h => by rw [v3] at h; cases h) (by rw [v2]; exact hkC) (by rw [v2]; exact va_assign hcls) rfl rfl hd fun H1 e z oq => ?_
  have hR1 := hR.set (e' := .inl (t, n, .inr (.inr (.inr (.inr (va_up f i.toNatClampNeg (some x))))))) hg' (by
    show H1[ax_ad base b a]? = some (vp_cell (dA t) (n, .inr (.inr (.inr (.inr (fun j => (va_up f i.toNatClampNeg (some x) j).map (ax_ad base b)))))))
    rw [e, vp_cell_q, vp_cell_q, arrV_store]
    congr 2
    funext q
    by_cases hq : q = i.toNatClampNeg
    · subst hq
      simp [updV, va_up, va_rf]
    · simp [updV, va_up, hq]) z oq
  obtain ⟨hX1, hF1, hO1⟩ := ax_after hbb ha oq hX hF hO
  exact ih _ hw rfl rfl H1 _ ls g1 g2 hR1 hX1 hF1 hL (hO1 _)
theorem axs_putfield (i : Nat) : ax_I (.putfield i) := by
  intro p l e R s m args below meth c D dA base b L xs Q n0 s0 P post mi pc fr lo len lv st h hbb hn0 C hd hfit hend hw ih
  obtain ⟨⟨v, a, r⟩, hq, hw⟩ := ax_o_s (q := ax_pVR st) hw
  obtain rfl := ax_pVR_s hq
  obtain ⟨⟨ci, k⟩, hf, hw⟩ := ax_o_s (q := axt_fld (axt_ow mi) i) hw
  obtain ⟨fs, hg, hw⟩ := ax_o_s hw
  obtain ⟨⟨rfl, hpok, hkl, hnar, hfits⟩, -, hw⟩ := ax_F_i hw
  obtain ⟨r0, hc, hk, hin, hlk⟩ := axt_fld_ok hf
  obtain ⟨hty, hnm⟩ := axt_cl_ok hc
  have hg' := ax_go_s hg
  have ha := (ax_g_s hg').1
  have hfin := axt_pok_ok hpok hc
  intro H locs ls g1 g2 hR hX hF hL hO
  have hts := C.2.2.2.2.1
  have hown := C.2.2.2.1
  have hK := C.2.2.2.2.2.2.2.2.1.1
  have hap := va_apart (own := "") hts hin (axt_fty ci) hty hnm hK hc
  obtain ⟨rr, h1c, cell, q1, q2, q3, q4⟩ := hR.at hg'
  have hrr : rr = r0 := Option.some.inj (h1c.symm.trans hc)
  subst hrr
  obtain ⟨hS, hfc, kC, hkC, hkind⟩ := hK.1 ci _ hc
  obtain ⟨cf, kf, fi, f, hi, hsl⟩ := hS k hk
  have hst := (u_facts hfc hkC (u_lays hts hin hk) hi).1
  have hlay := hts _ (hin _ (u_in_lay hk))
  unfold u_lay at hlay
  have hnar' := ax_nar (base := base) (b := b) hnar
  have hfits' := ax_fit (base := base) (b := b) hfits
  have fini : ∀ H1 : Heap, H1[ax_ad base b a]? = some (cell.setSlot f.slot (ax_tv base b v)) → H1.size = H.size → (∀ q, q ≠ ax_ad base b a → H1[q]? = H[q]?) → W p l e R s m args below meth c H1 (locs ++ [⟨ax_ad base b a, f.slot⟩]) (h.1 - n0) (h.2.1 - s0) Q (F0 m (pc + 3) ls (r.map (ax_tv base b))) := by
    intro H1 e1 e2 e3
    rw [hsl] at e1
    have hR1 := hR.set (e' := .inr (ci, fs.set k v)) hg' ⟨_, hc, t_OB.to (V := updV (vp_V (fs.map (ax_tv base b))) k (ax_tv base b v)) ⟨_, e1, q2, q3, t_set q4 hap hk _⟩ (fun j _ => by
      rw [vp_updV_set (by rw [List.length_map]; exact hkl), ← List.map_set])⟩ e2 e3
    obtain ⟨hX1, hF1, hO1⟩ := ax_after hbb ha e3 hX hF hO
    exact ih _ hw rfl rfl H1 _ ls g1 g2 hR1 hX1 hF1 hL (hO1 _)
  rcases hfin with hfin | ⟨hfin, hnmi, hdecl⟩
  · rw [if_neg (by rw [hfin]; decide)] at hlay
    have h6 := u_store hfc hkC hkind hlay hi (hty k hk) hnar' hfits'
    rcases hlk with hlk | ⟨ho, hlk⟩
    · exact W.putK C.1 C.2.1 (f := f) ⟨hown, hts _ hlk, ⟨_, _, _, hi⟩, hst⟩ (by rw [q2]; exact h6) q1 q3 (by rw [hsl]; exact k2_hasslot (q4 k hk)) rfl rfl hd fini
    · exact va_WputK C.1 C.2.1 (f := f) hown (va_Nw.use rfl (C.2.2.2.2.2.2.2.2.1.2.1 _ hlk)) hi hst (by rw [q2]; exact h6) q1 q3 (by rw [hsl]; exact k2_hasslot (q4 k hk)) rfl rfl hd fini
  · rw [if_pos hfin] at hlay
    have hcf : m.cls = cf := by
      obtain ⟨_, _, c', _, _, _, -, -, hf', -, -, -, hown2, -⟩ := Cond.laysFinal_spec hlay
      have e1 : c' = cf := by have := hi.symm.trans hf'; simp at this; exact this.1.symm
      rw [hdecl] at hown2
      rw [← e1]; exact Option.some.inj (hown.symm.trans hown2)
    have hlt : mi < axt_n := by
      rcases Nat.lt_or_eq_of_le C.2.2.2.2.2.2.2.2.2.2.2 with z | z
      · exact z
      · subst z
        exact absurd (show (axt_y axt_n).name = "<init>" from hnmi) (by decide +kernel)
    have h6 := u_fits hfc hkC hkind (Or.inr hlay) hi (hty k hk) hnar' hfits'
    rcases hlk with hlk | ⟨ho, hlk⟩
    · exact W.putFinK C.1 C.2.1 hown (hts _ hlk) hi hst hcf ((C.2.2.2.2.2.2.2.1 hlt).trans hnmi) (by rw [q2]; exact h6) q1 q3 (by rw [hsl]; exact k2_hasslot (q4 k hk)) rfl rfl hd fini
    · exact absurd hlk (axt_fin_own ho)
theorem ax_dfT (base b : Nat) {vs : List Value} (h : ∀ v ∈ vs, ∀ a, v ≠ .ref a) : vs.map (ax_tv base b) = vs := by
  induction vs with
  | nil => rfl
  | cons v t ih =>
    rw [List.map_cons, ih (fun w hw => h w (List.mem_cons_of_mem _ hw))]
    congr 1
    have := h v List.mem_cons_self
    cases v <;> first | rfl | exact absurd rfl (this _)
theorem axs_new (i : Nat) : ax_I (.new i) := by
  intro p l e R s m args below meth c D dA base b L xs Q n0 s0 P post mi pc fr lo len lv st h hbb hn0 C hd hfit hend hw ih
  obtain ⟨ci, hn, hw⟩ := ax_o_s (q := axt_new (axt_ow mi) i) hw
  obtain ⟨rfl, -, hw⟩ := ax_F_i hw
  obtain ⟨r0, hc, hin, w1, w2, w3, hN, hdf, hnr⟩ := axt_new_ok hn
  obtain ⟨hty, hnm⟩ := axt_cl_ok hc
  obtain ⟨v', h', hp', hle⟩ := hend _ hw
  obtain ⟨f1, f2⟩ := hfit _ _ hp'
  have le1 : h.1 + 1 ≤ h'.1 := hle.1
  have le2 : h.2.1 + axt_N ci ≤ h'.2.1 := hle.2
  intro H locs ls g1 g2 hR hX hF hL hO
  have g1' : n0 ≤ h.1 := g1
  have g2' : s0 ≤ h.2.1 := g2
  have hts := C.2.2.2.2.1
  have hK := C.2.2.2.2.2.2.2.2.1.1
  have hKn := hK.1 ci _ hc
  refine W.newcK C.1 C.2.1 C.2.2.2.1 (hts _ w1) (hts _ w2) (hts _ w3) rfl hd (by show h.1 - n0 + 1 ≤ _; omega) (by show h.2.1 - s0 + r0.2.2 ≤ _; rw [← hN]; omega) hKn.2.1 rfl fun H1 kC hkC e1 z1 o1 => ?_
  have hR1 := hR.push (n := axt_N ci) (e := .inr (ci, axt_df ci)) (by
    show va_at D axt_cl (H.size, .inr (ci, (axt_df ci).map (ax_tv base b))) H1
    rw [ax_dfT base b hnr]
    exact ⟨_, hc, (u_born (axt_fty ci) hts hin hKn hkC e1 hty).to hdf⟩) z1 o1
  have h0 : 0 < h.1 := by omega
  obtain ⟨hX1, hF1⟩ := ax_afterP hbb hR h0 o1 hX hF
  have k := ih _ hw rfl rfl H1 locs ls (by show n0 ≤ h.1 + 1; omega) (by show s0 ≤ h.2.1 + _; omega) hR1 hX1 hF1 hL hO
  have e : (ax_nx (mi, pc, fr, lo) 3 lv (.ref h.1 :: st) (ax_push h (axt_N ci) (.inr (ci, axt_df ci)))).2.2.1.map (ax_tv base b) = .ref H.size :: st.map (ax_tv base b) := by
    show Value.ref (ax_ad base b h.1) :: _ = _
    rw [ax_ad_pos h0, hR.1]
  rw [e] at k
  refine W.cs ?_ ?_ k
  · show h.1 - n0 + 1 = h.1 + 1 - n0
    omega
  · show h.2.1 - s0 + r0.2.2 = h.2.1 + axt_N ci - s0
    rw [hN]
    omega
theorem axs_newarray (at_ : Jvm.ClassFile.ArrayType) : ax_I (.newarray at_) := by
  intro p l e R s m args below meth c D dA base b L xs Q n0 s0 P post mi pc fr lo len lv st h hbb hn0 C hd hfit hend hw ih
  obtain ⟨⟨x, r⟩, hq, hw⟩ := ax_o_s (q := ax_pI st) hw
  obtain rfl := ax_pI_s hq
  obtain ⟨⟨t, ty⟩, ht, hw⟩ := ax_o_s (q := ax_aty at_) hw
  obtain ⟨⟨rfl, hx0, hx4⟩, -, hw⟩ := ax_F_i hw
  obtain ⟨hty, htt, hwd, hcb, hdv⟩ := axt_aty_ok ht
  obtain ⟨v', h', hp', hle⟩ := hend _ hw
  obtain ⟨f1, f2⟩ := hfit _ _ hp'
  have le1 : h.1 + 1 ≤ h'.1 := hle.1
  have le2 : h.2.1 + x.toNatClampNeg ≤ h'.2.1 := hle.2
  intro H locs ls g1 g2 hR hX hF hL hO
  have g1' : n0 ≤ h.1 := g1
  have g2' : s0 ≤ h.2.1 := g2
  have hts := C.2.2.2.2.1
  have hK := C.2.2.2.2.2.2.2.2.1.1
  refine va_newaK C.1 C.2.1 (by rw [hty]; exact hts _ hwd) rfl hd rfl hx0 rfl (by rw [hty]; exact Nat.le_trans (Nat.mul_le_mul_left _ hcb) hx4) (by show h.1 - n0 + 1 ≤ _; omega) (by show h.2.1 - s0 + _ ≤ _; omega) rfl fun H1 cA e1 z1 o1 hAr hNm => ?_
  have hA : cA = dA t := by
    have k := (hK.2 t _ (ax_tys_at htt)).2
    rw [hty] at hNm
    have k' : s.vm.findClass ("[" ++ ty.toString) = some (dA t) := by rcases hdv with ⟨rfl, -⟩ | ⟨rfl, -⟩ | ⟨rfl, -⟩ <;> exact k
    exact Option.some.inj (hNm.symm.trans k')
  subst hA
  have hR1 := hR.push (n := x.toNatClampNeg) (e := .inl (t, x.toNatClampNeg, .inl (fun _ => 0))) (by
    show H1[H.size]? = some (vp_cell (dA t) (x.toNatClampNeg, .inl (fun _ => 0)))
    rw [e1, hty, vp_cell_i]
    rcases hdv with ⟨-, k⟩ | ⟨-, k⟩ | ⟨-, k⟩ <;> rw [k]) z1 o1
  have h0 : 0 < h.1 := by omega
  obtain ⟨hX1, hF1⟩ := ax_afterP hbb hR h0 o1 hX hF
  have k := ih _ hw rfl rfl H1 locs ls (by show n0 ≤ h.1 + 1; omega) (by show s0 ≤ h.2.1 + _; omega) hR1 hX1 hF1 hL hO
  have e : (ax_nx (mi, pc, fr, lo) 2 lv (.ref h.1 :: r) (ax_push h x.toNatClampNeg (.inl (t, x.toNatClampNeg, .inl (fun _ => 0))))).2.2.1.map (ax_tv base b) = .ref H.size :: r.map (ax_tv base b) := by
    show Value.ref (ax_ad base b h.1) :: _ = _
    rw [ax_ad_pos h0, hR.1]
  rw [e] at k
  refine W.cs ?_ ?_ k
  · show h.1 - n0 + 1 = h.1 + 1 - n0
    omega
  · show h.2.1 - s0 + _ = h.2.1 + x.toNatClampNeg - s0
    omega
theorem axs_anewarray (i : Nat) : ax_I (.anewarray i) := by
  intro p l e R s m args below meth c D dA base b L xs Q n0 s0 P post mi pc fr lo len lv st h hbb hn0 C hd hfit hend hw ih
  obtain ⟨⟨x, r⟩, hq, hw⟩ := ax_o_s (q := ax_pI st) hw
  obtain rfl := ax_pI_s hq
  obtain ⟨t, ht, hw⟩ := ax_o_s (q := axt_anw (axt_ow mi) i) hw
  obtain ⟨⟨rfl, hx0, hx4⟩, -, hw⟩ := ax_F_i hw
  obtain ⟨K, htt, hwd, hao⟩ := axt_anw_ok ht
  obtain ⟨v', h', hp', hle⟩ := hend _ hw
  obtain ⟨f1, f2⟩ := hfit _ _ hp'
  have le1 : h.1 + 1 ≤ h'.1 := hle.1
  have le2 : h.2.1 + x.toNatClampNeg ≤ h'.2.1 := hle.2
  intro H locs ls g1 g2 hR hX hF hL hO
  have g1' : n0 ≤ h.1 := g1
  have g2' : s0 ≤ h.2.1 := g2
  have hts := C.2.2.2.2.1
  have hK := C.2.2.2.2.2.2.2.2.1.1
  refine W.anew C.1 C.2.1 C.2.2.2.1 (hts _ hwd) (va_AO.use (C.2.2.2.2.2.2.2.2.1.2.2.2 K hao)) rfl hd rfl hx0 hx4 (by show h.1 - n0 + 1 ≤ _; omega) (by show h.2.1 - s0 + _ ≤ _; omega) fun cA kA comp f1 f2 f3 f4 => ?_
  generalize hH1 : H.push ({ cls := cA, slots := Array.replicate x.toNatClampNeg .null, vm := .none } : Cell) = H1
  have z1 : H1.size = H.size + 1 := by rw [← hH1, Array.size_push]
  have e1 : H1[H.size]? = some (arrV cA x.toNatClampNeg (fun _ => .null)) := by rw [← hH1, Array.getElem?_push_size, ← arrV_new]
  have o1 : ∀ q : Nat, q < H.size → H1[q]? = H[q]? := fun q hq => by rw [← hH1, Array.getElem?_push, if_neg (Nat.ne_of_lt hq)]
  have hA : cA = dA t := by
    obtain ⟨_, _, -, -, -, k⟩ := (hK.2 t _ (ax_tys_at htt)).2
    exact Option.some.inj (f1.symm.trans k)
  subst hA
  have hR1 := hR.push (n := x.toNatClampNeg) (e := .inl (t, x.toNatClampNeg, .inr (.inr (.inr (.inr (fun _ => none)))))) (by
    show H1[H.size]? = some (vp_cell (dA t) (x.toNatClampNeg, .inr (.inr (.inr (.inr (fun _ => none))))))
    rw [e1, vp_cell_q]
    rfl) z1 o1
  have h0 : 0 < h.1 := by omega
  obtain ⟨hX1, hF1⟩ := ax_afterP hbb hR h0 o1 hX hF
  have k := ih _ hw rfl rfl H1 locs ls (by show n0 ≤ h.1 + 1; omega) (by show s0 ≤ h.2.1 + _; omega) hR1 hX1 hF1 hL hO
  have e : (ax_nx (mi, pc, fr, lo) 3 lv (.ref h.1 :: r) (ax_push h x.toNatClampNeg (.inl (t, x.toNatClampNeg, .inr (.inr (.inr (.inr (fun _ => none)))))))).2.2.1.map (ax_tv base b) = .ref H.size :: r.map (ax_tv base b) := by
    show Value.ref (ax_ad base b h.1) :: _ = _
    rw [ax_ad_pos h0, hR.1]
  rw [e] at k
  refine W.cs ?_ ?_ k
  · show h.1 - n0 + 1 = h.1 + 1 - n0
    omega
  · show h.2.1 - s0 + _ = h.2.1 + x.toNatClampNeg - s0
    omega
/-- what a return needs: the end -/
def ax_E (s : State) (args : Array Value) (below : List Frame) (D : va_G) (dA : Nat → ClassId) (base b : Nat) (Q : State → Prop) (n0 s0 : Nat) (post : ax_Po) : Prop := ∀ v h', post v h' → ∃ Qc : Array Value → State → Outcome → State → Prop, Q = MQ below Qc args s (h'.1 - n0) (h'.2.1 - s0) (fun q => base < q) ∧ ∀ t : State, ax_R D dA base b h' t.heap → (∀ q, q ≤ base → t.heap[q]? = s.heap[q]?) → s.WarmedH t.vm → Qc args s (.returned (v.map (ax_tv base b))) t
def ax_IR (ins : Jvm.ClassFile.Instr) : Prop := ∀ {p : Program} {l : Launch} {e : Env} {R : Room} {s : State} {m : MethodId} {args : Array Value} {below : List Frame} {meth : Method} {c : Code} {D : va_G} {dA : Nat → ClassId} {base b L : Nat} {xs : Nat → Int32} {Q : State → Prop} {n0 s0 : Nat} {P : ax_S → ax_Po → Prop} {post : ax_Po} {mi pc fr lo len : Nat} {lv : List (Nat × Value)} {st : List Value} {h : ax_H},
  ax_C p R s m args meth c D dA mi fr lo → decode (axt_b mi) pc = .ok (ins, len) → ax_E s args below D dA base b Q n0 s0 post →
  ax_F (ax_ins L xs ins len (mi, pc, fr, lo) lv st h) P h post → ax_G p l e R s m args below meth c D dA base b L xs Q n0 s0 ((mi, pc, fr, lo), lv, st, h)
theorem axs_ireturn : ax_IR .ireturn := by
  intro p l e R s m args below meth c D dA base b L xs Q n0 s0 P post mi pc fr lo len lv st h C hd hE hw
  obtain ⟨⟨x, r⟩, hq, hw⟩ := ax_o_s (q := ax_pI st) hw
  obtain rfl := ax_pI_s hq
  obtain ⟨ty, ht, hw⟩ := ax_o_s (q := axt_rt mi) hw
  obtain ⟨⟨rfl, hr0, hn⟩, -, hw⟩ := ax_F_r hw
  have hr0 : r = [] := hr0
  subst hr0
  obtain ⟨Qc, rfl, hQ⟩ := hE _ _ hw
  intro H locs ls g1 g2 hR hX hF hL hO
  exact W.zret C.1 C.2.1 (C.2.2.2.2.2.1.trans ht) hn (fun t ht hW => hQ t (by rw [ht]; exact hR) (by rw [ht]; exact hF) hW) hO hd C.2.2.2.2.2.2.1
theorem axs_lreturn : ax_IR .lreturn := by
  intro p l e R s m args below meth c D dA base b L xs Q n0 s0 P post mi pc fr lo len lv st h C hd hE hw
  obtain ⟨⟨x, r⟩, hq, hw⟩ := ax_o_s (q := ax_pL st) hw
  obtain rfl := ax_pL_s hq
  obtain ⟨⟨rfl, hr0, ht⟩, -, hw⟩ := ax_F_r hw
  have hr0 : r = [] := hr0
  subst hr0
  obtain ⟨Qc, rfl, hQ⟩ := hE _ _ hw
  intro H locs ls g1 g2 hR hX hF hL hO
  exact W.lret C.1 C.2.1 (C.2.2.2.2.2.1.trans ht) (fun t ht hW => hQ t (by rw [ht]; exact hR) (by rw [ht]; exact hF) hW) hO hd C.2.2.2.2.2.2.1
theorem axs_areturn : ax_IR .areturn := by
  intro p l e R s m args below meth c D dA base b L xs Q n0 s0 P post mi pc fr lo len lv st h C hd hE hw
  obtain ⟨⟨x, r⟩, hq, hw⟩ := ax_o_s (q := ax_pR st) hw
  obtain rfl := ax_pR_s hq
  obtain ⟨ty, ht, hw⟩ := ax_o_s (q := axt_rt mi) hw
  obtain ⟨⟨rfl, hr0, hn⟩, -, hw⟩ := ax_F_r hw
  have hr0 : r = [] := hr0
  subst hr0
  obtain ⟨Qc, rfl, hQ⟩ := hE _ _ hw
  intro H locs ls g1 g2 hR hX hF hL hO
  exact W.aret C.1 C.2.1 (C.2.2.2.2.2.1.trans ht) hn (Or.inr ⟨_, rfl⟩) (fun t ht hW => hQ t (by rw [ht]; exact hR) (by rw [ht]; exact hF) hW) hO hd C.2.2.2.2.2.2.1
theorem axs_return_ : ax_IR .return_ := by
  intro p l e R s m args below meth c D dA base b L xs Q n0 s0 P post mi pc fr lo len lv st h C hd hE hw
  obtain ⟨⟨rfl, hr0, ht⟩, -, hw2⟩ := ax_F_r hw
  have hr0 : st = [] := hr0
  subst hr0
  obtain ⟨Qc, rfl, hQ⟩ := hE _ _ hw2
  intro H locs ls g1 g2 hR hX hF hL hO
  exact W.vret C.1 C.2.1 (C.2.2.2.2.2.1.trans ht) (fun t ht hW => hQ t (by rw [ht]; exact hR) (by rw [ht]; exact hF) hW) hO hd C.2.2.2.2.2.2.1
/-- arraycopy of ints, with the heap's size -/
theorem ax_copyW {p : Program} {l : Launch} {e : Env} {R : Room} {s : State} {m : MethodId} {args : Array Value} {below : List Frame} {meth : Method} {c : Code} {H : Heap} {locs : List Loc} {cells slots : Nat} {Q : State → Prop} {pc : Nat} {ls : Array Slot} {rest : List Value} {base : Nat} {cc : ByteArray} (hexec : p.tables.exec = Jvm.exec) (hb : c.code = cc) (hml : c.maxLocals = ls.size) {own : String} {index : Nat} (hown : s.vm.findClass own = some m.cls) (hlink : (Cond.methodLink own index arraycopyName).before args s = true) (hnat : (Cond.native arraycopyName).before args s = true) (hstat : (Cond.static arraycopyName).before args s = true) (hini : (Cond.initialized "java/lang/System").before args s = true)
    {cA : ClassId} (hA : ArrOfT s cA .int) {a0 a : Nat} {n0 n1 : Nat} {f g : Nat → Int32} (hc0 : H[a0]? = some (vp_cell cA (n0, .inl f))) (hc1 : H[a]? = some (vp_cell cA (n1, .inl g)))
    {sp dp n : Int32} (h1 : ¬ sp < 0) (h2 : ¬ dp < 0) (h3 : ¬ n < 0) (h4 : sp.toNatClampNeg + n.toNatClampNeg ≤ n0) (h5 : dp.toNatClampNeg + n.toNatClampNeg ≤ n1)
    (hframes : 1 ≤ R.frames) (hlocals : (rest.map fun v => v.category).sum + (nativeFrameWords "java/lang/System" "arraycopy" 5 + 11) ≤ R.locals) (hdg : decode cc pc = .ok (.invokestatic index, 3)) (hab : base < a) (hO : ∀ q ∈ locs, base < q.base)
    (kk : ∀ (H1 : Heap) (locs1 : List Loc), H1[a]? = some (vp_cell cA (n1, .inl (va_cpy f g sp.toNatClampNeg dp.toNatClampNeg n.toNatClampNeg))) → H1.size = H.size → (∀ q, q ≠ a → H1[q]? = H[q]?) → (∀ q ∈ locs1, base < q.base) → W p l e R s m args below meth c H1 locs1 cells slots Q (F0 m (pc + 3) ls rest)) : W p l e R s m args below meth c H locs cells slots Q (F0 m pc ls (.int n :: .int dp :: .ref a :: .int sp :: .ref a0 :: rest)) := by
  have nn : ∀ z : Int32, ¬ z < 0 → z.toInt = (z.toNatClampNeg : Int) := by
    intro z hz
    have hz0 : (0 : Int) ≤ z.toInt := by
      have := Int32.not_lt.mp hz
      simpa using Int32.le_iff_toInt_le.mp this
    show z.toInt = ((z.toInt.toNat : Nat) : Int)
    omega
  intro T hT X
  obtain ⟨-, k0, hk0, cm0, hkk0⟩ := hA n0 (fun j => .int (f j))
  obtain ⟨-, k1, hk1, cm1, hkk1⟩ := hA n1 (fun j => .int (g j))
  obtain ⟨vm', X', step⟩ := X.arraycopy hexec hown hlink hnat hstat hini (src := a0) (dst := a) (cs := vp_cell cA (n0, .inl f)) (cd := vp_cell cA (n1, .inl g)) (srcPos := sp) (destPos := dp) (n := n) (by rw [hT]; exact hc0) (by rw [hT]; exact hc1)
    (fun _ h => by cases h) (fun _ h => by cases h) (fun h => by cases h) (fun h => by cases h) hk0 hk1 hkk0 hkk1 (by simp [refKind]) h1 h2 h3
    (by rw [nn sp h1, nn n h3]; show ¬ _ > ((arrV cA n0 (fun j => .int (f j))).slots.size : Int); rw [arrV_size]; omega)
    (by rw [nn dp h2, nn n h3]; show ¬ _ > ((arrV cA n1 (fun j => .int (g j))).slots.size : Int); rw [arrV_size]; omega)
    (fun vm₁ _ i hi => by
      have e : (vp_cell cA (n0, .inl f)).slots.getD (sp.toNatClampNeg + i) .null = .int (f (sp.toNatClampNeg + i)) := by
        show (arrV cA n0 (fun j => .int (f j))).slots.getD _ _ = _
        rw [Array.getD_eq_getD_getElem?, arrV_read _ _ (by omega)]
        rfl
      refine ⟨?_, ?_⟩
      · rw [e]
        rfl
      · rw [e]
        exact trivial)
    (g := F0 m pc ls (.int n :: .int dp :: .ref a :: .int sp :: .ref a0 :: rest)) rfl (by rw [hml]) (rest := rest) rfl (by rw [hb]; exact hdg) hframes (by show 2 * 0 + _ + _ ≤ _; omega)
  have e1 : copied (vp_cell cA (n0, .inl f)) (vp_cell cA (n1, .inl g)) sp dp n = vp_cell cA (n1, .inl (va_cpy f g sp.toNatClampNeg dp.toNatClampNeg n.toNatClampNeg)) := va_copied (fun z => .int z) cA cA f g h4
  rw [e1] at X' step
  have hl : a < H.size := (Array.getElem?_eq_some_iff.mp hc1).1
  have hheap : ((T.setVm vm').setCell a (vp_cell cA (n1, .inl (va_cpy f g sp.toNatClampNeg dp.toNatClampNeg n.toNatClampNeg)))).heap = H.setIfInBounds a (vp_cell cA (n1, .inl (va_cpy f g sp.toNatClampNeg dp.toNatClampNeg n.toNatClampNeg))) := by rw [← hT]; rfl
  obtain ⟨t, a1, b1⟩ := kk _ _ (show (H.setIfInBounds a _)[a]? = some _ by simp [Array.getElem?_setIfInBounds, hl]) (by simp) (fun q hq => by simp [Array.getElem?_setIfInBounds, Ne.symm hq]) (fun q hq => by
      rcases List.mem_append.mp hq with h | h
      · exact hO q h
      · obtain ⟨z, -, hz⟩ := List.mem_map.mp h
        rw [← hz]
        exact hab) _ hheap X'
  exact ⟨t, step t a1, b1⟩


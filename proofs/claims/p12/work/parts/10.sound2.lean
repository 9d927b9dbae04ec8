/-! each simple instruction is sound (printed by program) -/
theorem ax_F_i {g : Prop} {s' : ax_S} {P : ax_S → ax_Po → Prop} {h0 : ax_H} {post : ax_Po} (h : ax_F (g, .inl s') P h0 post) : g ∧ ax_le h0 s'.2.2.2 ∧ P s' post := h
theorem ax_F_r {g : Prop} {v : Option Value} {h : ax_H} {P : ax_S → ax_Po → Prop} {h0 : ax_H} {post : ax_Po} (q : ax_F (g, .inr (.inl (v, h))) P h0 post) : g ∧ ax_le h0 h ∧ post v h := q
theorem ax_F_c {g : Prop} {ce : ax_S} {k : Option Value → ax_H → ax_S} {P : ax_S → ax_Po → Prop} {h0 : ax_H} {post : ax_Po} (q : ax_F (g, .inr (.inr (ce, k))) P h0 post) : g ∧ ax_le h0 ce.2.2.2 ∧ P ce (fun v h => ax_le h (k v h).2.2.2 ∧ P (k v h) post) := q
theorem ax_Pif {P : ax_S → ax_Po → Prop} {c : Bool} {a d : ax_S} {post : ax_Po} (h : P (if c = true then a else d) post) : (c = true → P a post) ∧ (c = false → P d post) := ⟨fun e => by rw [if_pos e] at h; exact h, fun e => by rw [if_neg (by rw [e]; decide)] at h; exact h⟩
theorem ax_tgt {pc : Nat} {off : Int} (h : 0 ≤ (pc : Int) + off) : (pc : Int) + off = ((((pc : Int) + off).toNat : Nat) : Int) := (Int.toNat_of_nonneg h).symm
theorem axs_iconst (n : Int) : ax_I (.iconst n) := by
  intro p l e R s m args below meth c D dA base b L xs Q n0 s0 P post mi pc fr lo len lv st h hbb hn0 C hd hfit hend hw ih
  obtain ⟨rfl, -, hw⟩ := ax_F_i hw
  intro H locs ls g1 g2 hR hX hF hL hO
  exact lv_iconst C.1 C.2.1 hd rfl (ih _ hw rfl rfl H locs ls g1 g2 hR hX hF hL hO)
theorem axs_bipush (n : Int) : ax_I (.bipush n) := by
  intro p l e R s m args below meth c D dA base b L xs Q n0 s0 P post mi pc fr lo len lv st h hbb hn0 C hd hfit hend hw ih
  obtain ⟨rfl, -, hw⟩ := ax_F_i hw
  intro H locs ls g1 g2 hR hX hF hL hO
  exact lv_bipush C.1 C.2.1 hd rfl (ih _ hw rfl rfl H locs ls g1 g2 hR hX hF hL hO)
theorem axs_sipush (n : Int) : ax_I (.sipush n) := by
  intro p l e R s m args below meth c D dA base b L xs Q n0 s0 P post mi pc fr lo len lv st h hbb hn0 C hd hfit hend hw ih
  obtain ⟨rfl, -, hw⟩ := ax_F_i hw
  intro H locs ls g1 g2 hR hX hF hL hO
  exact lv_sipush C.1 C.2.1 hd rfl (ih _ hw rfl rfl H locs ls g1 g2 hR hX hF hL hO)
theorem axs_lconst (n : Fin 2) : ax_I (.lconst n) := by
  intro p l e R s m args below meth c D dA base b L xs Q n0 s0 P post mi pc fr lo len lv st h hbb hn0 C hd hfit hend hw ih
  obtain ⟨rfl, -, hw⟩ := ax_F_i hw
  intro H locs ls g1 g2 hR hX hF hL hO
  exact lv_lconst C.1 C.2.1 hd rfl (ih _ hw rfl rfl H locs ls g1 g2 hR hX hF hL hO)
theorem axs_ldc (i : Nat) : ax_I (.ldc i) := by
  intro p l e R s m args below meth c D dA base b L xs Q n0 s0 P post mi pc fr lo len lv st h hbb hn0 C hd hfit hend hw ih
  obtain ⟨v, hv, hw⟩ := ax_o_s (q := axt_cst (axt_ow mi) i) hw
  obtain ⟨rfl, -, hw⟩ := ax_F_i hw
  intro H locs ls g1 g2 hR hX hF hL hO
  exact lv_ldc C.1 C.2.1 C.2.2.2.1 (C.2.2.2.2.1 _ (axt_cst_ok hv)) hd (ih _ hw rfl rfl H locs ls g1 g2 hR hX hF hL hO)
theorem axs_ldc_w (i : Nat) : ax_I (.ldc_w i) := by
  intro p l e R s m args below meth c D dA base b L xs Q n0 s0 P post mi pc fr lo len lv st h hbb hn0 C hd hfit hend hw ih
  obtain ⟨v, hv, hw⟩ := ax_o_s (q := axt_cst (axt_ow mi) i) hw
  obtain ⟨rfl, -, hw⟩ := ax_F_i hw
  intro H locs ls g1 g2 hR hX hF hL hO
  exact lv_ldcw C.1 C.2.1 C.2.2.2.1 (C.2.2.2.2.1 _ (axt_cst_ok hv)) hd (ih _ hw rfl rfl H locs ls g1 g2 hR hX hF hL hO)
theorem axs_ldc2_w (i : Nat) : ax_I (.ldc2_w i) := by
  intro p l e R s m args below meth c D dA base b L xs Q n0 s0 P post mi pc fr lo len lv st h hbb hn0 C hd hfit hend hw ih
  obtain ⟨v, hv, hw⟩ := ax_o_s (q := axt_cstl (axt_ow mi) i) hw
  obtain ⟨rfl, -, hw⟩ := ax_F_i hw
  intro H locs ls g1 g2 hR hX hF hL hO
  exact lv_ldc2 C.1 C.2.1 C.2.2.2.1 (C.2.2.2.2.1 _ (axt_cstl_ok hv)) hd (ih _ hw rfl rfl H locs ls g1 g2 hR hX hF hL hO)
theorem axs_iload (i : Nat) : ax_I (.iload i) := by
  intro p l e R s m args below meth c D dA base b L xs Q n0 s0 P post mi pc fr lo len lv st h hbb hn0 C hd hfit hend hw ih
  obtain ⟨v, hv, hw⟩ := ax_o_s (q := ax_lkI lv i) hw
  obtain ⟨rfl, -, hw⟩ := ax_F_i hw
  intro H locs ls g1 g2 hR hX hF hL hO
  exact lv_iload C.1 C.2.1 hd (ax_lv hL (ax_lkI_s hv)) (ih _ hw rfl rfl H locs ls g1 g2 hR hX hF hL hO)
theorem axs_iload_n (i : Fin 4) : ax_I (.iload_n i) := by
  intro p l e R s m args below meth c D dA base b L xs Q n0 s0 P post mi pc fr lo len lv st h hbb hn0 C hd hfit hend hw ih
  obtain ⟨v, hv, hw⟩ := ax_o_s (q := ax_lkI lv i) hw
  obtain ⟨rfl, -, hw⟩ := ax_F_i hw
  intro H locs ls g1 g2 hR hX hF hL hO
  exact lv_iload_n C.1 C.2.1 hd rfl (ax_lv hL (ax_lkI_s hv)) (ih _ hw rfl rfl H locs ls g1 g2 hR hX hF hL hO)
theorem axs_lload (i : Nat) : ax_I (.lload i) := by
  intro p l e R s m args below meth c D dA base b L xs Q n0 s0 P post mi pc fr lo len lv st h hbb hn0 C hd hfit hend hw ih
  obtain ⟨v, hv, hw⟩ := ax_o_s (q := ax_lkL lv i) hw
  obtain ⟨rfl, -, hw⟩ := ax_F_i hw
  intro H locs ls g1 g2 hR hX hF hL hO
  exact lv_lload C.1 C.2.1 hd (ax_lv hL (ax_lkL_s hv)) (ih _ hw rfl rfl H locs ls g1 g2 hR hX hF hL hO)
theorem axs_lload_n (i : Fin 4) : ax_I (.lload_n i) := by
  intro p l e R s m args below meth c D dA base b L xs Q n0 s0 P post mi pc fr lo len lv st h hbb hn0 C hd hfit hend hw ih
  obtain ⟨v, hv, hw⟩ := ax_o_s (q := ax_lkL lv i) hw
  obtain ⟨rfl, -, hw⟩ := ax_F_i hw
  intro H locs ls g1 g2 hR hX hF hL hO
  exact lv_lload_n C.1 C.2.1 hd rfl (ax_lv hL (ax_lkL_s hv)) (ih _ hw rfl rfl H locs ls g1 g2 hR hX hF hL hO)
theorem axs_aload (i : Nat) : ax_I (.aload i) := by
  intro p l e R s m args below meth c D dA base b L xs Q n0 s0 P post mi pc fr lo len lv st h hbb hn0 C hd hfit hend hw ih
  obtain ⟨v, hv, hw⟩ := ax_o_s (q := ax_lkR lv i) hw
  obtain ⟨rfl, -, hw⟩ := ax_F_i hw
  intro H locs ls g1 g2 hR hX hF hL hO
  exact lv_aload C.1 C.2.1 hd (ax_lv hL (ax_lkR_s hv)) (ih _ hw rfl rfl H locs ls g1 g2 hR hX hF hL hO)
theorem axs_aload_n (i : Fin 4) : ax_I (.aload_n i) := by
  intro p l e R s m args below meth c D dA base b L xs Q n0 s0 P post mi pc fr lo len lv st h hbb hn0 C hd hfit hend hw ih
  obtain ⟨v, hv, hw⟩ := ax_o_s (q := ax_lkR lv i) hw
  obtain ⟨rfl, -, hw⟩ := ax_F_i hw
  intro H locs ls g1 g2 hR hX hF hL hO
  exact lv_aload_n C.1 C.2.1 hd rfl (ax_lv hL (ax_lkR_s hv)) (ih _ hw rfl rfl H locs ls g1 g2 hR hX hF hL hO)
theorem axs_istore (i : Nat) : ax_I (.istore i) := by
  intro p l e R s m args below meth c D dA base b L xs Q n0 s0 P post mi pc fr lo len lv st h hbb hn0 C hd hfit hend hw ih
  obtain ⟨⟨x, r⟩, hq, hw⟩ := ax_o_s (q := ax_pI st) hw
  obtain rfl := ax_pI_s hq
  obtain ⟨⟨rfl, hn⟩, -, hw⟩ := ax_F_i hw
  intro H locs ls g1 g2 hR hX hF hL hO
  exact lv_istore C.1 C.2.1 hd hL hn rfl (fun ls hL => ih _ hw rfl rfl H locs ls g1 g2 hR hX hF (ax_st1T (v := .int x) hL) hO)
theorem axs_istore_n (i : Fin 4) : ax_I (.istore_n i) := by
  intro p l e R s m args below meth c D dA base b L xs Q n0 s0 P post mi pc fr lo len lv st h hbb hn0 C hd hfit hend hw ih
  obtain ⟨⟨x, r⟩, hq, hw⟩ := ax_o_s (q := ax_pI st) hw
  obtain rfl := ax_pI_s hq
  obtain ⟨⟨rfl, hn⟩, -, hw⟩ := ax_F_i hw
  intro H locs ls g1 g2 hR hX hF hL hO
  exact lv_istore_n C.1 C.2.1 hd rfl hL hn rfl (fun ls hL => ih _ hw rfl rfl H locs ls g1 g2 hR hX hF (ax_st1T (v := .int x) hL) hO)
theorem axs_lstore (i : Nat) : ax_I (.lstore i) := by
  intro p l e R s m args below meth c D dA base b L xs Q n0 s0 P post mi pc fr lo len lv st h hbb hn0 C hd hfit hend hw ih
  obtain ⟨⟨x, r⟩, hq, hw⟩ := ax_o_s (q := ax_pL st) hw
  obtain rfl := ax_pL_s hq
  obtain ⟨⟨rfl, hn⟩, -, hw⟩ := ax_F_i hw
  intro H locs ls g1 g2 hR hX hF hL hO
  exact lv_lstore C.1 C.2.1 hd hL hn rfl (fun ls hL => ih _ hw rfl rfl H locs ls g1 g2 hR hX hF (ax_st2T (v := .long x) hL) hO)
theorem axs_lstore_n (i : Fin 4) : ax_I (.lstore_n i) := by
  intro p l e R s m args below meth c D dA base b L xs Q n0 s0 P post mi pc fr lo len lv st h hbb hn0 C hd hfit hend hw ih
  obtain ⟨⟨x, r⟩, hq, hw⟩ := ax_o_s (q := ax_pL st) hw
  obtain rfl := ax_pL_s hq
  obtain ⟨⟨rfl, hn⟩, -, hw⟩ := ax_F_i hw
  intro H locs ls g1 g2 hR hX hF hL hO
  exact lv_lstore_n C.1 C.2.1 hd rfl hL hn rfl (fun ls hL => ih _ hw rfl rfl H locs ls g1 g2 hR hX hF (ax_st2T (v := .long x) hL) hO)
theorem axs_astore (i : Nat) : ax_I (.astore i) := by
  intro p l e R s m args below meth c D dA base b L xs Q n0 s0 P post mi pc fr lo len lv st h hbb hn0 C hd hfit hend hw ih
  obtain ⟨⟨x, r⟩, hq, hw⟩ := ax_o_s (q := ax_pR st) hw
  obtain rfl := ax_pR_s hq
  obtain ⟨⟨rfl, hn⟩, -, hw⟩ := ax_F_i hw
  intro H locs ls g1 g2 hR hX hF hL hO
  exact lv_astore C.1 C.2.1 hd hL hn rfl (fun ls hL => ih _ hw rfl rfl H locs ls g1 g2 hR hX hF (ax_st1T (v := .ref x) hL) hO)
theorem axs_astore_n (i : Fin 4) : ax_I (.astore_n i) := by
  intro p l e R s m args below meth c D dA base b L xs Q n0 s0 P post mi pc fr lo len lv st h hbb hn0 C hd hfit hend hw ih
  obtain ⟨⟨x, r⟩, hq, hw⟩ := ax_o_s (q := ax_pR st) hw
  obtain rfl := ax_pR_s hq
  obtain ⟨⟨rfl, hn⟩, -, hw⟩ := ax_F_i hw
  intro H locs ls g1 g2 hR hX hF hL hO
  exact lv_astore_n C.1 C.2.1 hd rfl hL hn rfl (fun ls hL => ih _ hw rfl rfl H locs ls g1 g2 hR hX hF (ax_st1T (v := .ref x) hL) hO)
theorem axs_iinc (i : Nat) (n : Int) : ax_I (.iinc i n) := by
  intro p l e R s m args below meth c D dA base b L xs Q n0 s0 P post mi pc fr lo len lv st h hbb hn0 C hd hfit hend hw ih
  obtain ⟨v, hv, hw⟩ := ax_o_s (q := ax_lkI lv i) hw
  obtain ⟨⟨rfl, hn⟩, -, hw⟩ := ax_F_i hw
  obtain ⟨k, hk⟩ := ax_lvk (base := base) (b := b) (ax_lkI_s hv)
  intro H locs ls g1 g2 hR hX hF hL hO
  exact lv_iinc C.1 C.2.1 hd hL hk rfl hn rfl (fun ls hL => ih _ hw rfl rfl H locs ls g1 g2 hR hX hF (ax_st1T (v := .int (v + Int32.ofInt n)) hL) hO)
theorem axs_iadd : ax_I (.iadd) := by
  intro p l e R s m args below meth c D dA base b L xs Q n0 s0 P post mi pc fr lo len lv st h hbb hn0 C hd hfit hend hw ih
  obtain ⟨⟨y, x, r⟩, hq, hw⟩ := ax_o_s (q := ax_p2 st) hw
  obtain rfl := ax_p2_s hq
  obtain ⟨rfl, -, hw⟩ := ax_F_i hw
  intro H locs ls g1 g2 hR hX hF hL hO
  exact lv_iadd C.1 C.2.1 hd (ih _ hw rfl rfl H locs ls g1 g2 hR hX hF hL hO)
theorem axs_isub : ax_I (.isub) := by
  intro p l e R s m args below meth c D dA base b L xs Q n0 s0 P post mi pc fr lo len lv st h hbb hn0 C hd hfit hend hw ih
  obtain ⟨⟨y, x, r⟩, hq, hw⟩ := ax_o_s (q := ax_p2 st) hw
  obtain rfl := ax_p2_s hq
  obtain ⟨rfl, -, hw⟩ := ax_F_i hw
  intro H locs ls g1 g2 hR hX hF hL hO
  exact lv_isub C.1 C.2.1 hd (ih _ hw rfl rfl H locs ls g1 g2 hR hX hF hL hO)
theorem axs_imul : ax_I (.imul) := by
  intro p l e R s m args below meth c D dA base b L xs Q n0 s0 P post mi pc fr lo len lv st h hbb hn0 C hd hfit hend hw ih
  obtain ⟨⟨y, x, r⟩, hq, hw⟩ := ax_o_s (q := ax_p2 st) hw
  obtain rfl := ax_p2_s hq
  obtain ⟨rfl, -, hw⟩ := ax_F_i hw
  intro H locs ls g1 g2 hR hX hF hL hO
  exact lv_imul C.1 C.2.1 hd (ih _ hw rfl rfl H locs ls g1 g2 hR hX hF hL hO)
theorem axs_iand : ax_I (.iand) := by
  intro p l e R s m args below meth c D dA base b L xs Q n0 s0 P post mi pc fr lo len lv st h hbb hn0 C hd hfit hend hw ih
  obtain ⟨⟨y, x, r⟩, hq, hw⟩ := ax_o_s (q := ax_p2 st) hw
  obtain rfl := ax_p2_s hq
  obtain ⟨rfl, -, hw⟩ := ax_F_i hw
  intro H locs ls g1 g2 hR hX hF hL hO
  exact lv_iand C.1 C.2.1 hd (ih _ hw rfl rfl H locs ls g1 g2 hR hX hF hL hO)
theorem axs_ior : ax_I (.ior) := by
  intro p l e R s m args below meth c D dA base b L xs Q n0 s0 P post mi pc fr lo len lv st h hbb hn0 C hd hfit hend hw ih
  obtain ⟨⟨y, x, r⟩, hq, hw⟩ := ax_o_s (q := ax_p2 st) hw
  obtain rfl := ax_p2_s hq
  obtain ⟨rfl, -, hw⟩ := ax_F_i hw
  intro H locs ls g1 g2 hR hX hF hL hO
  exact lv_ior C.1 C.2.1 hd (ih _ hw rfl rfl H locs ls g1 g2 hR hX hF hL hO)
theorem axs_ixor : ax_I (.ixor) := by
  intro p l e R s m args below meth c D dA base b L xs Q n0 s0 P post mi pc fr lo len lv st h hbb hn0 C hd hfit hend hw ih
  obtain ⟨⟨y, x, r⟩, hq, hw⟩ := ax_o_s (q := ax_p2 st) hw
  obtain rfl := ax_p2_s hq
  obtain ⟨rfl, -, hw⟩ := ax_F_i hw
  intro H locs ls g1 g2 hR hX hF hL hO
  exact lv_ixor C.1 C.2.1 hd (ih _ hw rfl rfl H locs ls g1 g2 hR hX hF hL hO)
theorem axs_ishl : ax_I (.ishl) := by
  intro p l e R s m args below meth c D dA base b L xs Q n0 s0 P post mi pc fr lo len lv st h hbb hn0 C hd hfit hend hw ih
  obtain ⟨⟨y, x, r⟩, hq, hw⟩ := ax_o_s (q := ax_p2 st) hw
  obtain rfl := ax_p2_s hq
  obtain ⟨rfl, -, hw⟩ := ax_F_i hw
  intro H locs ls g1 g2 hR hX hF hL hO
  exact lv_ishl C.1 C.2.1 hd (ih _ hw rfl rfl H locs ls g1 g2 hR hX hF hL hO)
theorem axs_ishr : ax_I (.ishr) := by
  intro p l e R s m args below meth c D dA base b L xs Q n0 s0 P post mi pc fr lo len lv st h hbb hn0 C hd hfit hend hw ih
  obtain ⟨⟨y, x, r⟩, hq, hw⟩ := ax_o_s (q := ax_p2 st) hw
  obtain rfl := ax_p2_s hq
  obtain ⟨rfl, -, hw⟩ := ax_F_i hw
  intro H locs ls g1 g2 hR hX hF hL hO
  exact lv_ishr C.1 C.2.1 hd (ih _ hw rfl rfl H locs ls g1 g2 hR hX hF hL hO)
theorem axs_iushr : ax_I (.iushr) := by
  intro p l e R s m args below meth c D dA base b L xs Q n0 s0 P post mi pc fr lo len lv st h hbb hn0 C hd hfit hend hw ih
  obtain ⟨⟨y, x, r⟩, hq, hw⟩ := ax_o_s (q := ax_p2 st) hw
  obtain rfl := ax_p2_s hq
  obtain ⟨rfl, -, hw⟩ := ax_F_i hw
  intro H locs ls g1 g2 hR hX hF hL hO
  exact lv_iushr C.1 C.2.1 hd rfl (ih _ hw rfl rfl H locs ls g1 g2 hR hX hF hL hO)
theorem axs_idiv : ax_I (.idiv) := by
  intro p l e R s m args below meth c D dA base b L xs Q n0 s0 P post mi pc fr lo len lv st h hbb hn0 C hd hfit hend hw ih
  obtain ⟨⟨y, x, r⟩, hq, hw⟩ := ax_o_s (q := ax_p2 st) hw
  obtain rfl := ax_p2_s hq
  obtain ⟨⟨rfl, hz⟩, -, hw⟩ := ax_F_i hw
  intro H locs ls g1 g2 hR hX hF hL hO
  exact lv_idiv C.1 C.2.1 hd hz (ih _ hw rfl rfl H locs ls g1 g2 hR hX hF hL hO)
theorem axs_irem : ax_I (.irem) := by
  intro p l e R s m args below meth c D dA base b L xs Q n0 s0 P post mi pc fr lo len lv st h hbb hn0 C hd hfit hend hw ih
  obtain ⟨⟨y, x, r⟩, hq, hw⟩ := ax_o_s (q := ax_p2 st) hw
  obtain rfl := ax_p2_s hq
  obtain ⟨⟨rfl, hz⟩, -, hw⟩ := ax_F_i hw
  intro H locs ls g1 g2 hR hX hF hL hO
  exact lv_irem C.1 C.2.1 hd hz (ih _ hw rfl rfl H locs ls g1 g2 hR hX hF hL hO)
theorem axs_ladd : ax_I (.ladd) := by
  intro p l e R s m args below meth c D dA base b L xs Q n0 s0 P post mi pc fr lo len lv st h hbb hn0 C hd hfit hend hw ih
  obtain ⟨⟨y, x, r⟩, hq, hw⟩ := ax_o_s (q := ax_pLL st) hw
  obtain rfl := ax_pLL_s hq
  obtain ⟨rfl, -, hw⟩ := ax_F_i hw
  intro H locs ls g1 g2 hR hX hF hL hO
  exact lv_ladd C.1 C.2.1 hd (ih _ hw rfl rfl H locs ls g1 g2 hR hX hF hL hO)
theorem axs_lsub : ax_I (.lsub) := by
  intro p l e R s m args below meth c D dA base b L xs Q n0 s0 P post mi pc fr lo len lv st h hbb hn0 C hd hfit hend hw ih
  obtain ⟨⟨y, x, r⟩, hq, hw⟩ := ax_o_s (q := ax_pLL st) hw
  obtain rfl := ax_pLL_s hq
  obtain ⟨rfl, -, hw⟩ := ax_F_i hw
  intro H locs ls g1 g2 hR hX hF hL hO
  exact lv_lsub C.1 C.2.1 hd (ih _ hw rfl rfl H locs ls g1 g2 hR hX hF hL hO)
theorem axs_lmul : ax_I (.lmul) := by
  intro p l e R s m args below meth c D dA base b L xs Q n0 s0 P post mi pc fr lo len lv st h hbb hn0 C hd hfit hend hw ih
  obtain ⟨⟨y, x, r⟩, hq, hw⟩ := ax_o_s (q := ax_pLL st) hw
  obtain rfl := ax_pLL_s hq
  obtain ⟨rfl, -, hw⟩ := ax_F_i hw
  intro H locs ls g1 g2 hR hX hF hL hO
  exact lv_lmul C.1 C.2.1 hd (ih _ hw rfl rfl H locs ls g1 g2 hR hX hF hL hO)
theorem axs_land : ax_I (.land) := by
  intro p l e R s m args below meth c D dA base b L xs Q n0 s0 P post mi pc fr lo len lv st h hbb hn0 C hd hfit hend hw ih
  obtain ⟨⟨y, x, r⟩, hq, hw⟩ := ax_o_s (q := ax_pLL st) hw
  obtain rfl := ax_pLL_s hq
  obtain ⟨rfl, -, hw⟩ := ax_F_i hw
  intro H locs ls g1 g2 hR hX hF hL hO
  exact lv_land C.1 C.2.1 hd (ih _ hw rfl rfl H locs ls g1 g2 hR hX hF hL hO)
theorem axs_lor : ax_I (.lor) := by
  intro p l e R s m args below meth c D dA base b L xs Q n0 s0 P post mi pc fr lo len lv st h hbb hn0 C hd hfit hend hw ih
  obtain ⟨⟨y, x, r⟩, hq, hw⟩ := ax_o_s (q := ax_pLL st) hw
  obtain rfl := ax_pLL_s hq
  obtain ⟨rfl, -, hw⟩ := ax_F_i hw
  intro H locs ls g1 g2 hR hX hF hL hO
  exact lv_lor C.1 C.2.1 hd (ih _ hw rfl rfl H locs ls g1 g2 hR hX hF hL hO)
theorem axs_lxor : ax_I (.lxor) := by
  intro p l e R s m args below meth c D dA base b L xs Q n0 s0 P post mi pc fr lo len lv st h hbb hn0 C hd hfit hend hw ih
  obtain ⟨⟨y, x, r⟩, hq, hw⟩ := ax_o_s (q := ax_pLL st) hw
  obtain rfl := ax_pLL_s hq
  obtain ⟨rfl, -, hw⟩ := ax_F_i hw
  intro H locs ls g1 g2 hR hX hF hL hO
  exact lv_lxor C.1 C.2.1 hd (ih _ hw rfl rfl H locs ls g1 g2 hR hX hF hL hO)
theorem axs_lcmp : ax_I (.lcmp) := by
  intro p l e R s m args below meth c D dA base b L xs Q n0 s0 P post mi pc fr lo len lv st h hbb hn0 C hd hfit hend hw ih
  obtain ⟨⟨y, x, r⟩, hq, hw⟩ := ax_o_s (q := ax_pLL st) hw
  obtain rfl := ax_pLL_s hq
  obtain ⟨rfl, -, hw⟩ := ax_F_i hw
  intro H locs ls g1 g2 hR hX hF hL hO
  exact W.lcmp C.1 C.2.1 hd (ih _ hw rfl rfl H locs ls g1 g2 hR hX hF hL hO)
theorem axs_lshl : ax_I (.lshl) := by
  intro p l e R s m args below meth c D dA base b L xs Q n0 s0 P post mi pc fr lo len lv st h hbb hn0 C hd hfit hend hw ih
  obtain ⟨⟨y, x, r⟩, hq, hw⟩ := ax_o_s (q := ax_pIL st) hw
  obtain rfl := ax_pIL_s hq
  obtain ⟨rfl, -, hw⟩ := ax_F_i hw
  intro H locs ls g1 g2 hR hX hF hL hO
  exact lv_lshl C.1 C.2.1 hd rfl (ih _ hw rfl rfl H locs ls g1 g2 hR hX hF hL hO)
theorem axs_lshr : ax_I (.lshr) := by
  intro p l e R s m args below meth c D dA base b L xs Q n0 s0 P post mi pc fr lo len lv st h hbb hn0 C hd hfit hend hw ih
  obtain ⟨⟨y, x, r⟩, hq, hw⟩ := ax_o_s (q := ax_pIL st) hw
  obtain rfl := ax_pIL_s hq
  obtain ⟨rfl, -, hw⟩ := ax_F_i hw
  intro H locs ls g1 g2 hR hX hF hL hO
  exact lv_lshr C.1 C.2.1 hd rfl (ih _ hw rfl rfl H locs ls g1 g2 hR hX hF hL hO)
theorem axs_lushr : ax_I (.lushr) := by
  intro p l e R s m args below meth c D dA base b L xs Q n0 s0 P post mi pc fr lo len lv st h hbb hn0 C hd hfit hend hw ih
  obtain ⟨⟨y, x, r⟩, hq, hw⟩ := ax_o_s (q := ax_pIL st) hw
  obtain rfl := ax_pIL_s hq
  obtain ⟨rfl, -, hw⟩ := ax_F_i hw
  intro H locs ls g1 g2 hR hX hF hL hO
  exact lv_lushr C.1 C.2.1 hd rfl (ih _ hw rfl rfl H locs ls g1 g2 hR hX hF hL hO)
theorem axs_ineg : ax_I (.ineg) := by
  intro p l e R s m args below meth c D dA base b L xs Q n0 s0 P post mi pc fr lo len lv st h hbb hn0 C hd hfit hend hw ih
  obtain ⟨⟨x, r⟩, hq, hw⟩ := ax_o_s (q := ax_pI st) hw
  obtain rfl := ax_pI_s hq
  obtain ⟨rfl, -, hw⟩ := ax_F_i hw
  intro H locs ls g1 g2 hR hX hF hL hO
  exact lv_ineg C.1 C.2.1 hd (ih _ hw rfl rfl H locs ls g1 g2 hR hX hF hL hO)
theorem axs_i2l : ax_I (.i2l) := by
  intro p l e R s m args below meth c D dA base b L xs Q n0 s0 P post mi pc fr lo len lv st h hbb hn0 C hd hfit hend hw ih
  obtain ⟨⟨x, r⟩, hq, hw⟩ := ax_o_s (q := ax_pI st) hw
  obtain rfl := ax_pI_s hq
  obtain ⟨rfl, -, hw⟩ := ax_F_i hw
  intro H locs ls g1 g2 hR hX hF hL hO
  exact lv_i2l C.1 C.2.1 hd rfl (ih _ hw rfl rfl H locs ls g1 g2 hR hX hF hL hO)
theorem axs_l2i : ax_I (.l2i) := by
  intro p l e R s m args below meth c D dA base b L xs Q n0 s0 P post mi pc fr lo len lv st h hbb hn0 C hd hfit hend hw ih
  obtain ⟨⟨x, r⟩, hq, hw⟩ := ax_o_s (q := ax_pL st) hw
  obtain rfl := ax_pL_s hq
  obtain ⟨rfl, -, hw⟩ := ax_F_i hw
  intro H locs ls g1 g2 hR hX hF hL hO
  exact lv_l2i C.1 C.2.1 hd rfl (ih _ hw rfl rfl H locs ls g1 g2 hR hX hF hL hO)
theorem axs_i2b : ax_I (.i2b) := by
  intro p l e R s m args below meth c D dA base b L xs Q n0 s0 P post mi pc fr lo len lv st h hbb hn0 C hd hfit hend hw ih
  obtain ⟨⟨x, r⟩, hq, hw⟩ := ax_o_s (q := ax_pI st) hw
  obtain rfl := ax_pI_s hq
  obtain ⟨rfl, -, hw⟩ := ax_F_i hw
  intro H locs ls g1 g2 hR hX hF hL hO
  exact lv_i2b C.1 C.2.1 hd rfl (ih _ hw rfl rfl H locs ls g1 g2 hR hX hF hL hO)
theorem axs_dup : ax_I (.dup) := by
  intro p l e R s m args below meth c D dA base b L xs Q n0 s0 P post mi pc fr lo len lv st h hbb hn0 C hd hfit hend hw ih
  obtain ⟨⟨x, r⟩, hq, hw⟩ := ax_o_s (q := ax_pV st) hw
  obtain rfl := ax_pV_s hq
  obtain ⟨⟨rfl, k1⟩, -, hw⟩ := ax_F_i hw
  intro H locs ls g1 g2 hR hX hF hL hO
  exact lv_dup C.1 C.2.1 hd (by rw [ax_tv_cat]; exact k1) (ih _ hw rfl rfl H locs ls g1 g2 hR hX hF hL hO)
theorem axs_pop : ax_I (.pop) := by
  intro p l e R s m args below meth c D dA base b L xs Q n0 s0 P post mi pc fr lo len lv st h hbb hn0 C hd hfit hend hw ih
  obtain ⟨⟨x, r⟩, hq, hw⟩ := ax_o_s (q := ax_pV st) hw
  obtain rfl := ax_pV_s hq
  obtain ⟨⟨rfl, k1⟩, -, hw⟩ := ax_F_i hw
  intro H locs ls g1 g2 hR hX hF hL hO
  exact lv_pop C.1 C.2.1 hd (by rw [ax_tv_cat]; exact k1) (ih _ hw rfl rfl H locs ls g1 g2 hR hX hF hL hO)
theorem axs_dup_x1 : ax_I (.dup_x1) := by
  intro p l e R s m args below meth c D dA base b L xs Q n0 s0 P post mi pc fr lo len lv st h hbb hn0 C hd hfit hend hw ih
  obtain ⟨⟨x, y, r⟩, hq, hw⟩ := ax_o_s (q := ax_pVV st) hw
  obtain rfl := ax_pVV_s hq
  obtain ⟨⟨rfl, k1, k2⟩, -, hw⟩ := ax_F_i hw
  intro H locs ls g1 g2 hR hX hF hL hO
  exact lv_dup_x1 C.1 C.2.1 hd (by rw [ax_tv_cat]; exact k1) (by rw [ax_tv_cat]; exact k2) (ih _ hw rfl rfl H locs ls g1 g2 hR hX hF hL hO)
theorem axs_dup2 : ax_I (.dup2) := by
  intro p l e R s m args below meth c D dA base b L xs Q n0 s0 P post mi pc fr lo len lv st h hbb hn0 C hd hfit hend hw ih
  obtain ⟨⟨x, y, r⟩, hq, hw⟩ := ax_o_s (q := ax_pVV st) hw
  obtain rfl := ax_pVV_s hq
  obtain ⟨⟨rfl, k1, k2⟩, -, hw⟩ := ax_F_i hw
  intro H locs ls g1 g2 hR hX hF hL hO
  exact lv_dup2_11 C.1 C.2.1 hd (by rw [ax_tv_cat]; exact k1) (by rw [ax_tv_cat]; exact k2) (ih _ hw rfl rfl H locs ls g1 g2 hR hX hF hL hO)
theorem axs_dup_x2 : ax_I (.dup_x2) := by
  intro p l e R s m args below meth c D dA base b L xs Q n0 s0 P post mi pc fr lo len lv st h hbb hn0 C hd hfit hend hw ih
  obtain ⟨⟨x, y, z, r⟩, hq, hw⟩ := ax_o_s (q := ax_pVVV st) hw
  obtain rfl := ax_pVVV_s hq
  obtain ⟨⟨rfl, k1, k2, k3⟩, -, hw⟩ := ax_F_i hw
  intro H locs ls g1 g2 hR hX hF hL hO
  exact lv_dup_x2 C.1 C.2.1 hd (by rw [ax_tv_cat]; exact k1) (by rw [ax_tv_cat]; exact k2) (by rw [ax_tv_cat]; exact k3) (ih _ hw rfl rfl H locs ls g1 g2 hR hX hF hL hO)
theorem axs_goto (off : Int) : ax_I (.goto off) := by
  intro p l e R s m args below meth c D dA base b L xs Q n0 s0 P post mi pc fr lo len lv st h hbb hn0 C hd hfit hend hw ih
  obtain ⟨⟨rfl, h0⟩, -, hw⟩ := ax_F_i hw
  intro H locs ls g1 g2 hR hX hF hL hO
  exact lv_goto C.1 C.2.1 hd (ax_tgt h0) (ih _ hw rfl rfl H locs ls g1 g2 hR hX hF hL hO)
theorem axs_if_icmp (cd : Jvm.ClassFile.Cond) (off : Int) : ax_I (.if_icmp cd off) := by
  intro p l e R s m args below meth c D dA base b L xs Q n0 s0 P post mi pc fr lo len lv st h hbb hn0 C hd hfit hend hw ih
  obtain ⟨⟨y, x, r⟩, hq, hw⟩ := ax_o_s (q := ax_p2 st) hw
  obtain rfl := ax_p2_s hq
  obtain ⟨⟨rfl, h0⟩, -, hw⟩ := ax_F_i hw
  intro H locs ls g1 g2 hR hX hF hL hO
  cases cd
  · obtain ⟨w1, w2⟩ := ax_Pif hw
    exact lv_icmp_eq C.1 C.2.1 hd (ax_tgt h0) (fun k => ih _ (w1 (decide_eq_true k)) rfl rfl H locs ls g1 g2 hR hX hF hL hO) (fun k => ih _ (w2 (decide_eq_false k)) rfl rfl H locs ls g1 g2 hR hX hF hL hO)
  · obtain ⟨w1, w2⟩ := ax_Pif hw
    exact lv_icmp_ne C.1 C.2.1 hd (ax_tgt h0) (fun k => ih _ (w1 (decide_eq_true k)) rfl rfl H locs ls g1 g2 hR hX hF hL hO) (fun k => ih _ (w2 (decide_eq_false (fun z => z k))) rfl rfl H locs ls g1 g2 hR hX hF hL hO)
  · obtain ⟨w1, w2⟩ := ax_Pif hw
    exact lv_icmp_lt C.1 C.2.1 hd (ax_tgt h0) (fun k => ih _ (w1 (decide_eq_true k)) rfl rfl H locs ls g1 g2 hR hX hF hL hO) (fun k => ih _ (w2 (decide_eq_false k)) rfl rfl H locs ls g1 g2 hR hX hF hL hO)
  · obtain ⟨w1, w2⟩ := ax_Pif hw
    exact lv_icmp_ge C.1 C.2.1 hd (ax_tgt h0) (fun k => ih _ (w1 (decide_eq_true k)) rfl rfl H locs ls g1 g2 hR hX hF hL hO) (fun k => ih _ (w2 (decide_eq_false k)) rfl rfl H locs ls g1 g2 hR hX hF hL hO)
  · obtain ⟨w1, w2⟩ := ax_Pif hw
    exact lv_icmp_gt C.1 C.2.1 hd (ax_tgt h0) (fun k => ih _ (w1 (decide_eq_true k)) rfl rfl H locs ls g1 g2 hR hX hF hL hO) (fun k => ih _ (w2 (decide_eq_false k)) rfl rfl H locs ls g1 g2 hR hX hF hL hO)
  · obtain ⟨w1, w2⟩ := ax_Pif hw
    exact lv_icmp_le C.1 C.2.1 hd (ax_tgt h0) (fun k => ih _ (w1 (decide_eq_true k)) rfl rfl H locs ls g1 g2 hR hX hF hL hO) (fun k => ih _ (w2 (decide_eq_false k)) rfl rfl H locs ls g1 g2 hR hX hF hL hO)
theorem axs_ifCond (cd : Jvm.ClassFile.Cond) (off : Int) : ax_I (.ifCond cd off) := by
  intro p l e R s m args below meth c D dA base b L xs Q n0 s0 P post mi pc fr lo len lv st h hbb hn0 C hd hfit hend hw ih
  obtain ⟨⟨x, r⟩, hq, hw⟩ := ax_o_s (q := ax_pI st) hw
  obtain rfl := ax_pI_s hq
  obtain ⟨⟨rfl, h0⟩, -, hw⟩ := ax_F_i hw
  intro H locs ls g1 g2 hR hX hF hL hO
  cases cd
  · obtain ⟨w1, w2⟩ := ax_Pif hw
    exact lv_if_eq C.1 C.2.1 hd (ax_tgt h0) (fun k => ih _ (w1 (decide_eq_true k)) rfl rfl H locs ls g1 g2 hR hX hF hL hO) (fun k => ih _ (w2 (decide_eq_false k)) rfl rfl H locs ls g1 g2 hR hX hF hL hO)
  · obtain ⟨w1, w2⟩ := ax_Pif hw
    exact lv_if_ne C.1 C.2.1 hd (ax_tgt h0) (fun k => ih _ (w1 (decide_eq_true k)) rfl rfl H locs ls g1 g2 hR hX hF hL hO) (fun k => ih _ (w2 (decide_eq_false (fun z => z k))) rfl rfl H locs ls g1 g2 hR hX hF hL hO)
  · obtain ⟨w1, w2⟩ := ax_Pif hw
    exact lv_if_lt C.1 C.2.1 hd (ax_tgt h0) (fun k => ih _ (w1 (decide_eq_true k)) rfl rfl H locs ls g1 g2 hR hX hF hL hO) (fun k => ih _ (w2 (decide_eq_false k)) rfl rfl H locs ls g1 g2 hR hX hF hL hO)
  · obtain ⟨w1, w2⟩ := ax_Pif hw
    exact lv_if_ge C.1 C.2.1 hd (ax_tgt h0) (fun k => ih _ (w1 (decide_eq_true k)) rfl rfl H locs ls g1 g2 hR hX hF hL hO) (fun k => ih _ (w2 (decide_eq_false k)) rfl rfl H locs ls g1 g2 hR hX hF hL hO)
  · obtain ⟨w1, w2⟩ := ax_Pif hw
    exact lv_if_gt C.1 C.2.1 hd (ax_tgt h0) (fun k => ih _ (w1 (decide_eq_true k)) rfl rfl H locs ls g1 g2 hR hX hF hL hO) (fun k => ih _ (w2 (decide_eq_false k)) rfl rfl H locs ls g1 g2 hR hX hF hL hO)
  · obtain ⟨w1, w2⟩ := ax_Pif hw
    exact lv_if_le C.1 C.2.1 hd (ax_tgt h0) (fun k => ih _ (w1 (decide_eq_true k)) rfl rfl H locs ls g1 g2 hR hX hF hL hO) (fun k => ih _ (w2 (decide_eq_false k)) rfl rfl H locs ls g1 g2 hR hX hF hL hO)
theorem axs_tableswitch (d a z : Int) (offs : Array Int) : ax_I (.tableswitch d a z offs) := by
  intro p l e R s m args below meth c D dA base b L xs Q n0 s0 P post mi pc fr lo len lv st h hbb hn0 C hd hfit hend hw ih
  obtain ⟨⟨x, r⟩, hq, hw⟩ := ax_o_s (q := ax_pI st) hw
  obtain rfl := ax_pI_s hq
  by_cases hx : x.toInt < a ∨ z < x.toInt
  · have hw : ax_F ((0 ≤ (pc : Int) + d), .inl (ax_jp (mi, pc, fr, lo) d lv r h)) P h post := by
      have q : ax_F (if x.toInt < a ∨ z < x.toInt then ((0 ≤ (pc : Int) + d), .inl (ax_jp (mi, pc, fr, lo) d lv r h)) else (ax_o (offs[(x.toInt - a).toNat]?) fun off => ((0 ≤ (pc : Int) + off), .inl (ax_jp (mi, pc, fr, lo) off lv r h)))) P h post := hw
      rw [if_pos hx] at q
      exact q
    obtain ⟨h0, -, hw⟩ := ax_F_i hw
    intro H locs ls g1 g2 hR hX hF hL hO
    exact lv_tableOut C.1 C.2.1 hd hx (ax_tgt h0) (ih _ hw rfl rfl H locs ls g1 g2 hR hX hF hL hO)
  · have hw : ax_F (ax_o (offs[(x.toInt - a).toNat]?) fun off => ((0 ≤ (pc : Int) + off), .inl (ax_jp (mi, pc, fr, lo) off lv r h))) P h post := by
      have q : ax_F (if x.toInt < a ∨ z < x.toInt then ((0 ≤ (pc : Int) + d), .inl (ax_jp (mi, pc, fr, lo) d lv r h)) else (ax_o (offs[(x.toInt - a).toNat]?) fun off => ((0 ≤ (pc : Int) + off), .inl (ax_jp (mi, pc, fr, lo) off lv r h)))) P h post := hw
      rw [if_neg hx] at q
      exact q
    obtain ⟨off, ho, hw⟩ := ax_o_s hw
    obtain ⟨h0, -, hw⟩ := ax_F_i hw
    intro H locs ls g1 g2 hR hX hF hL hO
    exact lv_tableIn C.1 C.2.1 hd (fun k => hx (Or.inl k)) (fun k => hx (Or.inr k)) ho (ax_tgt h0) (ih _ hw rfl rfl H locs ls g1 g2 hR hX hF hL hO)
theorem axs_lookupswitch (d : Int) (ps : Array (Int × Int)) : ax_I (.lookupswitch d ps) := by
  intro p l e R s m args below meth c D dA base b L xs Q n0 s0 P post mi pc fr lo len lv st h hbb hn0 C hd hfit hend hw ih
  obtain ⟨⟨x, r⟩, hq, hw⟩ := ax_o_s (q := ax_pI st) hw
  obtain rfl := ax_pI_s hq
  obtain ⟨⟨hp, h0⟩, -, hw⟩ := ax_F_i hw
  intro H locs ls g1 g2 hR hX hF hL hO
  exact lv_lookup C.1 C.2.1 hd hp rfl (ax_tgt h0) (ih _ hw rfl rfl H locs ls g1 g2 hR hX hF hL hO)
theorem axs_getfield (i : Nat) : ax_I (.getfield i) := by
  intro p l e R s m args below meth c D dA base b L xs Q n0 s0 P post mi pc fr lo len lv st h hbb hn0 C hd hfit hend hw ih
  obtain ⟨⟨x, r⟩, hq, hw⟩ := ax_o_s (q := ax_pR st) hw
  obtain rfl := ax_pR_s hq
  obtain ⟨⟨ci, k⟩, hf, hw⟩ := ax_o_s (q := axt_fld (axt_ow mi) i) hw
  obtain ⟨fs, hg, hw⟩ := ax_o_s hw
  obtain ⟨v, hv, hw⟩ := ax_o_s hw
  obtain ⟨rfl, -, hw⟩ := ax_F_i hw
  obtain ⟨r0, hc, hk, hin, hlk⟩ := axt_fld_ok hf
  have hg' := ax_go_s hg
  intro H locs ls g1 g2 hR hX hF hL hO
  have hv' : (fs.map (ax_tv base b))[k]? = some (ax_tv base b v) := by rw [List.getElem?_map, hv]; rfl
  rcases hlk with hlk | ⟨ho, hlk⟩
  · exact va_get C.1 C.2.1 C.2.2.2.2.1 hin C.2.2.2.1 C.2.2.2.2.2.2.2.2.1.1 (hR.P hg') 0 rfl hc k hk (C.2.2.2.2.1 _ hlk) (fun _ z => z) hv' hd (ih _ hw rfl rfl H locs ls g1 g2 hR hX hF hL hO)
  · exact va_getN C.1 C.2.1 C.2.2.2.2.1 hin C.2.2.2.1 C.2.2.2.2.2.2.2.2.1.1 (hR.P hg') 0 rfl hc k hk (va_Nw.use rfl (C.2.2.2.2.2.2.2.2.1.2.1 _ hlk)) (fun _ z => z) hv' hd (ih _ hw rfl rfl H locs ls g1 g2 hR hX hF hL hO)
theorem axs_iaload : ax_I .iaload := by
  intro p l e R s m args below meth c D dA base b L xs Q n0 s0 P post mi pc fr lo len lv st h hbb hn0 C hd hfit hend hw ih
  obtain ⟨⟨i, a, r⟩, hq, hw⟩ := ax_o_s (q := ax_pIR st) hw
  obtain rfl := ax_pIR_s hq
  have q : ax_F (if a = 0 then ((len = 1 ∧ vp_in i L), .inl (ax_nx (mi, pc, fr, lo) 1 lv (.int (xs i.toNatClampNeg) :: r) h)) else (ax_o (ax_gi h a 0) fun q => ((len = 1 ∧ vp_in i q.1), .inl (ax_nx (mi, pc, fr, lo) 1 lv (.int (q.2 i.toNatClampNeg) :: r) h)))) P h post := hw
  by_cases h0 : a = 0
  · rw [if_pos h0] at q
    subst h0
    obtain ⟨⟨rfl, hi⟩, -, hw2⟩ := ax_F_i q
    intro H locs ls g1 g2 hR hX hF hL hO
    have hS : va_S (fun q => base < q) H H locs := ⟨Nat.le_refl _, fun _ _ _ => rfl, hO⟩
    have hbl : b < H.size := by obtain ⟨scr, k1, -⟩ := hX; exact (Array.getElem?_eq_some_iff.mp k1).1
    exact va_sld C.1 C.2.1 hX hbl (Nat.not_lt.mpr hbb) hS hi hd (ih _ hw2 rfl rfl H locs ls g1 g2 hR hX hF hL hO)
  · rw [if_neg h0] at q
    obtain ⟨⟨n, f⟩, hg, hw2⟩ := ax_o_s q
    obtain ⟨⟨rfl, hi⟩, -, hw2⟩ := ax_F_i hw2
    intro H locs ls g1 g2 hR hX hF hL hO
    exact va_iald C.1 C.2.1 C.2.2.2.2.2.2.2.2.1.1 (hR.P (ax_gi_s hg)) 0 0 rfl (ax_tys_at axt_ty0) hi hd (ih _ hw2 rfl rfl H locs ls g1 g2 hR hX hF hL hO)
theorem axs_baload : ax_I .baload := by
  intro p l e R s m args below meth c D dA base b L xs Q n0 s0 P post mi pc fr lo len lv st h hbb hn0 C hd hfit hend hw ih
  obtain ⟨⟨i, a, r⟩, hq, hw⟩ := ax_o_s (q := ax_pIR st) hw
  obtain rfl := ax_pIR_s hq
  have q : ax_F (ax_o2 (ax_gi h a 1) (fun q => ((len = 1 ∧ vp_in i q.1), .inl (ax_nx (mi, pc, fr, lo) 1 lv (.int (q.2 i.toNatClampNeg) :: r) h))) (ax_o (ax_gi h a 2) (fun q => ((len = 1 ∧ vp_in i q.1), .inl (ax_nx (mi, pc, fr, lo) 1 lv (.int (q.2 i.toNatClampNeg) :: r) h))))) P h post := hw
  cases hg : ax_gi h a 1 with
  | some z =>
    obtain ⟨n, f⟩ := z
    rw [hg] at q
    obtain ⟨⟨rfl, hi⟩, -, hw2⟩ := ax_F_i q
    intro H locs ls g1 g2 hR hX hF hL hO
    exact va_bald C.1 C.2.1 C.2.2.2.2.2.2.2.2.1.1 (hR.P (ax_gi_s hg)) 0 1 rfl (ax_tys_at axt_ty1) hi hd (ih _ hw2 rfl rfl H locs ls g1 g2 hR hX hF hL hO)
  | none =>
    rw [hg] at q
    obtain ⟨⟨n, f⟩, hg, hw2⟩ := ax_o_s (q := ax_gi h a 2) q
    obtain ⟨⟨rfl, hi⟩, -, hw2⟩ := ax_F_i hw2
    intro H locs ls g1 g2 hR hX hF hL hO
    exact va_zald C.1 C.2.1 C.2.2.2.2.2.2.2.2.1.1 (hR.P (ax_gi_s hg)) 0 2 rfl (ax_tys_at axt_ty2) hi hd (ih _ hw2 rfl rfl H locs ls g1 g2 hR hX hF hL hO)
theorem axs_aaload : ax_I .aaload := by
  intro p l e R s m args below meth c D dA base b L xs Q n0 s0 P post mi pc fr lo len lv st h hbb hn0 C hd hfit hend hw ih
  obtain ⟨⟨i, a, r⟩, hq, hw⟩ := ax_o_s (q := ax_pIR st) hw
  obtain rfl := ax_pIR_s hq
  obtain ⟨⟨t, n, f⟩, hg, hw⟩ := ax_o_s (q := ax_gq h a) hw
  obtain ⟨ci, hc, hw⟩ := ax_o_s (q := axt_ec t) hw
  obtain ⟨⟨rfl, hi⟩, -, hw⟩ := ax_F_i hw
  obtain ⟨r0, hr0, ht⟩ := axt_ec_ok hc
  intro H locs ls g1 g2 hR hX hF hL hO
  have k := ih _ hw rfl rfl H locs ls g1 g2 hR hX hF hL hO
  have e : (ax_nx (mi, pc, fr, lo) 1 lv (va_rf (f i.toNatClampNeg) :: r) h).2.2.1.map (ax_tv base b) = va_rf ((f i.toNatClampNeg).map (ax_ad base b)) :: r.map (ax_tv base b) := by
    show ax_tv base b (va_rf (f i.toNatClampNeg)) :: _ = _
    rw [ax_tv_rf]
  rw [e] at k
  exact va_aldq (f := fun j => (f j).map (ax_ad base b)) C.1 C.2.1 C.2.2.2.2.2.2.2.2.1.1 (hR.P (ax_gq_s hg)) 0 t rfl (ax_tys_at ht) hi hd k
theorem axs_arraylength : ax_I .arraylength := by
  intro p l e R s m args below meth c D dA base b L xs Q n0 s0 P post mi pc fr lo len lv st h hbb hn0 C hd hfit hend hw ih
  obtain ⟨⟨x, r⟩, hq, hw⟩ := ax_o_s (q := ax_pR st) hw
  obtain rfl := ax_pR_s hq
  have q : ax_F (if x = 0 then (len = 1, .inl (ax_nx (mi, pc, fr, lo) 1 lv (.int (Int32.ofNat L) :: r) h)) else (ax_o (ax_gn h x) fun a => ((len = 1 ∧ a.1 < axt_tys.length), .inl (ax_nx (mi, pc, fr, lo) 1 lv (.int (Int32.ofNat a.2) :: r) h)))) P h post := hw
  by_cases h0 : x = 0
  · rw [if_pos h0] at q
    subst h0
    obtain ⟨rfl, -, hw2⟩ := ax_F_i q
    intro H locs ls g1 g2 hR hX hF hL hO
    have hS : va_S (fun q => base < q) H H locs := ⟨Nat.le_refl _, fun _ _ _ => rfl, hO⟩
    have hbl : b < H.size := by obtain ⟨scr, k1, -⟩ := hX; exact (Array.getElem?_eq_some_iff.mp k1).1
    exact va_slen C.1 C.2.1 hX hbl (Nat.not_lt.mpr hbb) hS hd (ih _ hw2 rfl rfl H locs ls g1 g2 hR hX hF hL hO)
  · rw [if_neg h0] at q
    obtain ⟨⟨t, n⟩, hg, hw2⟩ := ax_o_s q
    obtain ⟨⟨rfl, ht⟩, -, hw2⟩ := ax_F_i hw2
    obtain ⟨y, hy, hg2⟩ := ax_gn_s hg
    intro H locs ls g1 g2 hR hX hF hL hO
    exact va_alen C.1 C.2.1 C.2.2.2.2.2.2.2.2.1.1 (hR.P hg2) 0 t rfl (ax_tys_at (List.getElem?_eq_getElem ht)) (by rw [ax_ta_1, hy]) hd (ih _ hw2 rfl rfl H locs ls g1 g2 hR hX hF hL hO)


/-! the library's own calls; and all together -/
section AXL
variable {p : Program} {l : Launch} {e : Env} {R : Room} {s : State} {m : MethodId} {args : Array Value} {below : List Frame} {meth : Method} {c : Code} {D : va_G} {dA : Nat → ClassId} {base b L : Nat} {xs : Nat → Int32} {Q : State → Prop} {n0 s0 : Nat}
theorem axs_inv {n mi pc fr lo idx kd : Nat} {lv : List (Nat × Value)} {st : List Value} {h : ax_H} {post : ax_Po} {ins : Jvm.ClassFile.Instr} {q : Nat × Nat × Nat} (hbb : b ≤ base) (hn0 : 0 < n0) (C : ax_C p R s m args meth c D dA mi fr lo) (hS : ax_Snd l D dA base b L xs n)
    (hm : axt_mth (axt_ow mi) idx = some q) (hd : decode (axt_b mi) pc = .ok (ins, 3)) (hkd : (kd = 0 ∧ ins = .invokestatic idx) ∨ (kd = 1 ∧ ins = .invokespecial idx) ∨ (kd = 2 ∧ ins = .invokevirtual idx))
    (hfit : ∀ v h', post v h' → h'.1 - n0 ≤ R.cells ∧ h'.2.1 - s0 ≤ R.slots) (hend : ∀ t, ax_wp (ax_step L xs) n t post → ∃ v h', post v h' ∧ ax_le t.2.2.2 h')
    (hw : ax_F (ax_inv kd (mi, pc, fr, lo) lv st h q) (ax_wp (ax_step L xs) n) h post) (ih : ∀ t, ax_wp (ax_step L xs) n t post → t.1.1 = mi → t.1.2.2 = (fr, lo) → ax_G p l e R s m args below meth c D dA base b L xs Q n0 s0 t) : ax_G p l e R s m args below meth c D dA base b L xs Q n0 s0 ((mi, pc, fr, lo), lv, st, h) := by
  obtain ⟨q1, cm, na⟩ := q
  have hfr := C.2.2.2.2.2.2.2.2.2.1
  have hlo := C.2.2.2.2.2.2.2.2.2.2.1
  have hts := C.2.2.2.2.1
  unfold ax_inv at hw
  dsimp only at hw
  by_cases hq : q1 = kd
  · rw [if_pos hq] at hw
    subst hq
    rcases hkd with ⟨rfl, rfl⟩ | ⟨rfl, rfl⟩ | ⟨rfl, rfl⟩
    · rw [if_pos rfl] at hw
      obtain ⟨⟨as, rest⟩, hp, hw⟩ := ax_o_s hw
      obtain ⟨e1, e2⟩ := ax_pN_s hp
      exact axs_invoke hbb hn0 C hS hm hd (Or.inl ⟨rfl, rfl, e1, e2⟩) hfit hend hw ih
    · rw [if_neg (by decide), if_pos rfl] at hw
      obtain ⟨⟨as, rest⟩, hp, hw⟩ := ax_o_s hw
      obtain ⟨⟨a, r⟩, hp2, hw⟩ := ax_o_s hw
      obtain ⟨e1, e2⟩ := ax_pN_s hp
      have e3 : rest = .ref a :: r := ax_pR_s hp2
      subst e3
      exact axs_invoke hbb hn0 C hS hm hd (Or.inr ⟨a, as, rfl, e1, e2, Or.inl ⟨rfl, rfl⟩⟩) hfit hend hw ih
    · rw [if_neg (by decide), if_neg (by decide)] at hw
      obtain ⟨⟨as, rest⟩, hp, hw⟩ := ax_o_s hw
      obtain ⟨⟨a, r⟩, hp2, hw⟩ := ax_o_s hw
      obtain ⟨fs, hg, hw⟩ := ax_o_s hw
      obtain ⟨e1, e2⟩ := ax_pN_s hp
      have e3 : rest = .ref a :: r := ax_pR_s hp2
      subst e3
      exact axs_invoke hbb hn0 C hS hm hd (Or.inr ⟨a, as, rfl, e1, e2, Or.inr ⟨rfl, rfl, fs, ax_go_s hg⟩⟩) hfit hend hw ih
  · rw [if_neg hq] at hw
    by_cases h3 : q1 = 3 ∧ kd = 1
    · rw [if_pos h3] at hw
      obtain ⟨rfl, rfl⟩ := h3
      obtain ⟨⟨a, r⟩, hp, hw⟩ := ax_o_s hw
      obtain rfl := ax_pR_s hp
      obtain ⟨⟨a1, a2⟩, -, hw⟩ := ax_F_i hw
      have a1 : 1 ≤ fr := a1
      have a2 : (r.map fun v => v.category).sum + 12 ≤ lo := a2
      obtain ⟨w1, w2, w3⟩ := axt_obj_ok hm
      have hins : ins = .invokespecial idx := by
        rcases hkd with ⟨hk, -⟩ | ⟨-, hi⟩ | ⟨hk, -⟩
        · cases hk
        · exact hi
        · cases hk
      subst hins
      intro H locs ls g1 g2 hR hX hF hL hO
      refine W.objInit C.1 C.2.1 C.2.2.2.1 (hts _ w1) (hts _ w2) (hts _ w3) rfl (by rw [C.2.2.1]; exact hL.1) rfl hd (by omega) (by
        show 2 * 0 + ((r.map (ax_tv base b)).map fun v => v.category).sum + 12 ≤ _
        rw [ax_cats]
        omega) ?_
      exact ih _ hw rfl rfl H locs ls g1 g2 hR hX hF hL hO
    · rw [if_neg h3] at hw
      by_cases h4 : q1 = 4 ∧ kd = 0
      · rw [if_pos h4] at hw
        obtain ⟨rfl, rfl⟩ := h4
        obtain ⟨⟨y, x, r⟩, hp, hw⟩ := ax_o_s hw
        obtain rfl := ax_p2_s hp
        obtain ⟨⟨a1, a2⟩, -, hw⟩ := ax_F_i hw
        have a1 : 1 ≤ fr := a1
        have a2 : (r.map fun v => v.category).sum + 13 ≤ lo := a2
        obtain ⟨w1, w2, w3, w4⟩ := axt_max_ok hm
        have hins : ins = .invokestatic idx := by
          rcases hkd with ⟨-, hi⟩ | ⟨hk, -⟩ | ⟨hk, -⟩
          · exact hi
          · cases hk
          · cases hk
        subst hins
        obtain ⟨v', h', hp', hle⟩ := hend _ hw
        obtain ⟨f1, f2⟩ := hfit _ _ hp'
        have le1 : h.1 ≤ h'.1 := hle.1
        have le2 : h.2.1 ≤ h'.2.1 := hle.2
        intro H locs ls g1 g2 hR hX hF hL hO
        exact va_mmax C.1 C.2.1 (by rw [C.2.2.1]; exact hL.1.symm) C.2.2.2.1 (hts _ w1) (hts _ w2) (hts _ w3) (hts _ w4) (by omega) (by rw [ax_cats]; omega) (by show h.1 - n0 ≤ _; omega) (by show h.2.1 - s0 ≤ _; omega) hd (ih _ hw rfl rfl H locs ls g1 g2 hR hX hF hL hO)
      · rw [if_neg h4] at hw
        by_cases h5 : q1 = 5 ∧ kd = 0
        · rw [if_pos h5] at hw
          obtain ⟨rfl, rfl⟩ := h5
          obtain ⟨⟨y, x, r⟩, hp, hw⟩ := ax_o_s hw
          obtain rfl := ax_p2_s hp
          obtain ⟨⟨a1, a2⟩, -, hw⟩ := ax_F_i hw
          have a1 : 1 ≤ fr := a1
          have a2 : (r.map fun v => v.category).sum + 13 ≤ lo := a2
          obtain ⟨w1, w2, w3, w4⟩ := axt_min_ok hm
          have hins : ins = .invokestatic idx := by
            rcases hkd with ⟨-, hi⟩ | ⟨hk, -⟩ | ⟨hk, -⟩
            · exact hi
            · cases hk
            · cases hk
          subst hins
          obtain ⟨v', h', hp', hle⟩ := hend _ hw
          obtain ⟨f1, f2⟩ := hfit _ _ hp'
          have le1 : h.1 ≤ h'.1 := hle.1
          have le2 : h.2.1 ≤ h'.2.1 := hle.2
          intro H locs ls g1 g2 hR hX hF hL hO
          exact va_mmin C.1 C.2.1 (by rw [C.2.2.1]; exact hL.1.symm) C.2.2.2.1 (hts _ w1) (hts _ w2) (hts _ w3) (hts _ w4) (by omega) (by rw [ax_cats]; omega) (by show h.1 - n0 ≤ _; omega) (by show h.2.1 - s0 ≤ _; omega) hd (ih _ hw rfl rfl H locs ls g1 g2 hR hX hF hL hO)
        · rw [if_neg h5] at hw
          by_cases h6 : q1 = 6 ∧ kd = 0
          · rw [if_pos h6] at hw
            obtain ⟨rfl, rfl⟩ := h6
            obtain ⟨⟨nn, dp, d, sp, a0, r⟩, hp, hw2⟩ := ax_o_s hw
            obtain rfl := ax_pC_s hp
            obtain ⟨⟨n1, f⟩, hg0, hw3⟩ := ax_o_s (q := ax_gi h a0 0) hw2
            obtain ⟨⟨n2, g⟩, hg1, hw4⟩ := ax_o_s (q := ax_gi h d 0) hw3
            obtain ⟨⟨a1, a2, k1, k2, k3, k4, k5⟩, -, hw5⟩ := ax_F_i hw4
            have a1 : 1 ≤ fr := a1
            have a2 : (r.map fun v => v.category).sum + (nativeFrameWords "java/lang/System" "arraycopy" 5 + 11) ≤ lo := a2
            obtain ⟨w1, w2, w3, w4⟩ := axt_copy_ok hm
            have hins : ins = .invokestatic idx := by
              rcases hkd with ⟨-, hi⟩ | ⟨hk, -⟩ | ⟨hk, -⟩
              · exact hi
              · cases hk
              · cases hk
            subst hins
            have hg0' := ax_gi_s hg0
            have hg1' := ax_gi_s hg1
            have ha := (ax_g_s hg1').1
            have hK := C.2.2.2.2.2.2.2.2.1.1
            intro H locs ls g1 g2 hR hX hF hL hO
            have c0 : H[ax_ad base b a0]? = some (vp_cell (dA 0) (n1, .inl f)) := hR.at hg0'
            have c1 : H[ax_ad base b d]? = some (vp_cell (dA 0) (n2, .inl g)) := hR.at hg1'
            have fini : ∀ (H1 : Heap) (locs1 : List Loc), H1[ax_ad base b d]? = some (vp_cell (dA 0) (n2, .inl (va_cpy f g sp.toNatClampNeg dp.toNatClampNeg nn.toNatClampNeg))) → H1.size = H.size → (∀ q, q ≠ ax_ad base b d → H1[q]? = H[q]?) → (∀ q ∈ locs1, base < q.base) → W p l e R s m args below meth c H1 locs1 (h.1 - n0) (h.2.1 - s0) Q (F0 m (pc + 3) ls (r.map (ax_tv base b))) := by
              intro H1 locs1 e1 z1 o1 hO1
              have hR1 := hR.set (e' := .inl (0, n2, .inl (va_cpy f g sp.toNatClampNeg dp.toNatClampNeg nn.toNatClampNeg))) hg1' e1 z1 o1
              obtain ⟨hX1, hF1, -⟩ := ax_after hbb ha o1 hX hF hO
              exact ih _ hw5 rfl rfl H1 locs1 ls g1 g2 hR1 hX1 hF1 hL hO1
            exact ax_copyW C.1 C.2.1 (by rw [C.2.2.1]; exact hL.1.symm) C.2.2.2.1 (hts _ w1) (hts _ w2) (hts _ w3) (hts _ w4) (hK.2 0 _ (ax_tys_at axt_ty0)).1 c0 c1 k1 k2 k3 k4 k5 (by omega) (by rw [ax_cats]; omega) hd (by rw [ax_ad_pos ha]; omega) hO fini
          · rw [if_neg h6] at hw
            exact hw.1.elim
end AXL
theorem ax_sound (l : Launch) (D : va_G) (dA : Nat → ClassId) (base b L : Nat) (xs : Nat → Int32) (hbb : b ≤ base) : ∀ n, ax_Snd l D dA base b L xs n
  | 0 => fun _ _ _ hw => hw.elim
  | n + 1 => by
    intro t r h1 hw p e R s m args below meth c n0 s0 Q hn0 C hc hs hE
    obtain ⟨⟨mi, pc, fr, lo⟩, lv, st, h⟩ := t
    have hSn := ax_sound l D dA base b L xs hbb n
    have hfit : ∀ (v : Option Value) (h' : ax_H), (v = r ∧ h' = h1) → h'.1 - n0 ≤ R.cells ∧ h'.2.1 - s0 ≤ R.slots := fun v h' q => by rw [q.2]; exact ⟨hc, hs⟩
    have hend : ∀ t, ax_wp (ax_step L xs) n t (fun v h => v = r ∧ h = h1) → ∃ (v : Option Value) (h' : ax_H), (v = r ∧ h' = h1) ∧ ax_le t.2.2.2 h' := fun t ht => by
      obtain ⟨v, h', q1, q2, -⟩ := ax_wp.det n _ _ ht
      exact ⟨v, h', q1, q2⟩
    have ih : ∀ t, ax_wp (ax_step L xs) n t (fun v h => v = r ∧ h = h1) → t.1.1 = mi → t.1.2.2 = (fr, lo) → ax_G p l e R s m args below meth c D dA base b L xs Q n0 s0 t := fun t ht e1 e2 => by
      refine hSn t r h1 ht n0 s0 Q hn0 ?_ hc hs hE
      rw [e1, e2]
      exact C
    have hw : ax_F (ax_step L xs ((mi, pc, fr, lo), lv, st, h)) (ax_wp (ax_step L xs) n) h (fun v h => v = r ∧ h = h1) := hw
    have hstep : ax_step L xs ((mi, pc, fr, lo), lv, st, h) = (match decode (axt_b mi) pc with | .ok q => ax_ins L xs q.1 q.2 (mi, pc, fr, lo) lv st h | .error _ => ax_no) := rfl
    rw [hstep] at hw
    clear hstep
    cases hd : decode (axt_b mi) pc with
    | error x =>
      rw [hd] at hw
      exact hw.1.elim
    | ok q =>
      obtain ⟨ins, len⟩ := q
      rw [hd] at hw
      have hw : ax_F (ax_ins L xs ins len (mi, pc, fr, lo) lv st h) (ax_wp (ax_step L xs) n) h (fun v h => v = r ∧ h = h1) := hw
      cases ins with
      | aaload =>
        exact axs_aaload hbb hn0 C hd hfit hend hw ih
      | aastore =>
        exact axs_aastore hbb hn0 C hd hfit hend hw ih
      | aconst_null =>
        exact hw.1.elim
      | aload z0 =>
        exact axs_aload _ hbb hn0 C hd hfit hend hw ih
      | aload_n z0 =>
        exact axs_aload_n _ hbb hn0 C hd hfit hend hw ih
      | anewarray z0 =>
        exact axs_anewarray _ hbb hn0 C hd hfit hend hw ih
      | areturn =>
        exact axs_areturn C hd hE hw
      | arraylength =>
        exact axs_arraylength hbb hn0 C hd hfit hend hw ih
      | astore z0 =>
        exact axs_astore _ hbb hn0 C hd hfit hend hw ih
      | astore_n z0 =>
        exact axs_astore_n _ hbb hn0 C hd hfit hend hw ih
      | athrow =>
        exact hw.1.elim
      | baload =>
        exact axs_baload hbb hn0 C hd hfit hend hw ih
      | bastore =>
        exact axs_bastore hbb hn0 C hd hfit hend hw ih
      | bipush z0 =>
        exact axs_bipush _ hbb hn0 C hd hfit hend hw ih
      | caload =>
        exact hw.1.elim
      | castore =>
        exact hw.1.elim
      | checkcast z0 =>
        exact hw.1.elim
      | d2f =>
        exact hw.1.elim
      | d2i =>
        exact hw.1.elim
      | d2l =>
        exact hw.1.elim
      | dadd =>
        exact hw.1.elim
      | daload =>
        exact hw.1.elim
      | dastore =>
        exact hw.1.elim
      | dcmp z0 =>
        exact hw.1.elim
      | dconst z0 =>
        exact hw.1.elim
      | ddiv =>
        exact hw.1.elim
      | dload z0 =>
        exact hw.1.elim
      | dload_n z0 =>
        exact hw.1.elim
      | dmul =>
        exact hw.1.elim
      | dneg =>
        exact hw.1.elim
      | drem =>
        exact hw.1.elim
      | dreturn =>
        exact hw.1.elim
      | dstore z0 =>
        exact hw.1.elim
      | dstore_n z0 =>
        exact hw.1.elim
      | dsub =>
        exact hw.1.elim
      | dup =>
        exact axs_dup hbb hn0 C hd hfit hend hw ih
      | dup_x1 =>
        exact axs_dup_x1 hbb hn0 C hd hfit hend hw ih
      | dup_x2 =>
        exact axs_dup_x2 hbb hn0 C hd hfit hend hw ih
      | dup2 =>
        exact axs_dup2 hbb hn0 C hd hfit hend hw ih
      | dup2_x1 =>
        exact hw.1.elim
      | dup2_x2 =>
        exact hw.1.elim
      | f2d =>
        exact hw.1.elim
      | f2i =>
        exact hw.1.elim
      | f2l =>
        exact hw.1.elim
      | fadd =>
        exact hw.1.elim
      | faload =>
        exact hw.1.elim
      | fastore =>
        exact hw.1.elim
      | fcmp z0 =>
        exact hw.1.elim
      | fconst z0 =>
        exact hw.1.elim
      | fdiv =>
        exact hw.1.elim
      | fload z0 =>
        exact hw.1.elim
      | fload_n z0 =>
        exact hw.1.elim
      | fmul =>
        exact hw.1.elim
      | fneg =>
        exact hw.1.elim
      | frem =>
        exact hw.1.elim
      | freturn =>
        exact hw.1.elim
      | fstore z0 =>
        exact hw.1.elim
      | fstore_n z0 =>
        exact hw.1.elim
      | fsub =>
        exact hw.1.elim
      | getfield z0 =>
        exact axs_getfield _ hbb hn0 C hd hfit hend hw ih
      | getstatic z0 =>
        exact hw.1.elim
      | goto z0 =>
        exact axs_goto _ hbb hn0 C hd hfit hend hw ih
      | goto_w z0 =>
        exact hw.1.elim
      | i2b =>
        exact axs_i2b hbb hn0 C hd hfit hend hw ih
      | i2c =>
        exact hw.1.elim
      | i2d =>
        exact hw.1.elim
      | i2f =>
        exact hw.1.elim
      | i2l =>
        exact axs_i2l hbb hn0 C hd hfit hend hw ih
      | i2s =>
        exact hw.1.elim
      | iadd =>
        exact axs_iadd hbb hn0 C hd hfit hend hw ih
      | iaload =>
        exact axs_iaload hbb hn0 C hd hfit hend hw ih
      | iand =>
        exact axs_iand hbb hn0 C hd hfit hend hw ih
      | iastore =>
        exact axs_iastore hbb hn0 C hd hfit hend hw ih
      | iconst z0 =>
        exact axs_iconst _ hbb hn0 C hd hfit hend hw ih
      | idiv =>
        exact axs_idiv hbb hn0 C hd hfit hend hw ih
      | if_acmp z0 z1 =>
        exact hw.1.elim
      | if_icmp z0 z1 =>
        exact axs_if_icmp _ _ hbb hn0 C hd hfit hend hw ih
      | ifCond z0 z1 =>
        exact axs_ifCond _ _ hbb hn0 C hd hfit hend hw ih
      | ifnonnull z0 =>
        exact hw.1.elim
      | ifnull z0 =>
        exact hw.1.elim
      | iinc z0 z1 =>
        exact axs_iinc _ _ hbb hn0 C hd hfit hend hw ih
      | iload z0 =>
        exact axs_iload _ hbb hn0 C hd hfit hend hw ih
      | iload_n z0 =>
        exact axs_iload_n _ hbb hn0 C hd hfit hend hw ih
      | imul =>
        exact axs_imul hbb hn0 C hd hfit hend hw ih
      | ineg =>
        exact axs_ineg hbb hn0 C hd hfit hend hw ih
      | instanceof z0 =>
        exact hw.1.elim
      | invokedynamic z0 =>
        exact hw.1.elim
      | invokeinterface z0 z1 =>
        exact hw.1.elim
      | invokespecial z0 =>
        by_cases h3 : len = 3
        · subst h3
          have hw : ax_F (ax_o (axt_mth (axt_ow mi) z0) (fun q => ax_inv 1 (mi, pc, fr, lo) lv st h q)) (ax_wp (ax_step L xs) n) h (fun v h => v = r ∧ h = h1) := by
            have q : ax_F (if 3 = 3 then ax_o (axt_mth (axt_ow mi) z0) (fun q => ax_inv 1 (mi, pc, fr, lo) lv st h q) else ax_no) (ax_wp (ax_step L xs) n) h (fun v h => v = r ∧ h = h1) := hw
            rw [if_pos rfl] at q
            exact q
          obtain ⟨q, hm, hw⟩ := ax_o_s hw
          exact axs_inv hbb hn0 C hSn hm hd (Or.inr (Or.inl ⟨rfl, rfl⟩)) hfit hend hw ih
        · have q : ax_F (if len = 3 then ax_o (axt_mth (axt_ow mi) z0) (fun q => ax_inv 1 (mi, pc, fr, lo) lv st h q) else ax_no) (ax_wp (ax_step L xs) n) h (fun v h => v = r ∧ h = h1) := hw
          rw [if_neg h3] at q
          exact q.1.elim
      | invokestatic z0 =>
        by_cases h3 : len = 3
        · subst h3
          have hw : ax_F (ax_o (axt_mth (axt_ow mi) z0) (fun q => ax_inv 0 (mi, pc, fr, lo) lv st h q)) (ax_wp (ax_step L xs) n) h (fun v h => v = r ∧ h = h1) := by
            have q : ax_F (if 3 = 3 then ax_o (axt_mth (axt_ow mi) z0) (fun q => ax_inv 0 (mi, pc, fr, lo) lv st h q) else ax_no) (ax_wp (ax_step L xs) n) h (fun v h => v = r ∧ h = h1) := hw
            rw [if_pos rfl] at q
            exact q
          obtain ⟨q, hm, hw⟩ := ax_o_s hw
          exact axs_inv hbb hn0 C hSn hm hd (Or.inl ⟨rfl, rfl⟩) hfit hend hw ih
        · have q : ax_F (if len = 3 then ax_o (axt_mth (axt_ow mi) z0) (fun q => ax_inv 0 (mi, pc, fr, lo) lv st h q) else ax_no) (ax_wp (ax_step L xs) n) h (fun v h => v = r ∧ h = h1) := hw
          rw [if_neg h3] at q
          exact q.1.elim
      | invokevirtual z0 =>
        by_cases h3 : len = 3
        · subst h3
          have hw : ax_F (ax_o (axt_mth (axt_ow mi) z0) (fun q => ax_inv 2 (mi, pc, fr, lo) lv st h q)) (ax_wp (ax_step L xs) n) h (fun v h => v = r ∧ h = h1) := by
            have q : ax_F (if 3 = 3 then ax_o (axt_mth (axt_ow mi) z0) (fun q => ax_inv 2 (mi, pc, fr, lo) lv st h q) else ax_no) (ax_wp (ax_step L xs) n) h (fun v h => v = r ∧ h = h1) := hw
            rw [if_pos rfl] at q
            exact q
          obtain ⟨q, hm, hw⟩ := ax_o_s hw
          exact axs_inv hbb hn0 C hSn hm hd (Or.inr (Or.inr ⟨rfl, rfl⟩)) hfit hend hw ih
        · have q : ax_F (if len = 3 then ax_o (axt_mth (axt_ow mi) z0) (fun q => ax_inv 2 (mi, pc, fr, lo) lv st h q) else ax_no) (ax_wp (ax_step L xs) n) h (fun v h => v = r ∧ h = h1) := hw
          rw [if_neg h3] at q
          exact q.1.elim
      | ior =>
        exact axs_ior hbb hn0 C hd hfit hend hw ih
      | irem =>
        exact axs_irem hbb hn0 C hd hfit hend hw ih
      | ireturn =>
        exact axs_ireturn C hd hE hw
      | ishl =>
        exact axs_ishl hbb hn0 C hd hfit hend hw ih
      | ishr =>
        exact axs_ishr hbb hn0 C hd hfit hend hw ih
      | istore z0 =>
        exact axs_istore _ hbb hn0 C hd hfit hend hw ih
      | istore_n z0 =>
        exact axs_istore_n _ hbb hn0 C hd hfit hend hw ih
      | isub =>
        exact axs_isub hbb hn0 C hd hfit hend hw ih
      | iushr =>
        exact axs_iushr hbb hn0 C hd hfit hend hw ih
      | ixor =>
        exact axs_ixor hbb hn0 C hd hfit hend hw ih
      | jsr z0 =>
        exact hw.1.elim
      | jsr_w z0 =>
        exact hw.1.elim
      | l2d =>
        exact hw.1.elim
      | l2f =>
        exact hw.1.elim
      | l2i =>
        exact axs_l2i hbb hn0 C hd hfit hend hw ih
      | ladd =>
        exact axs_ladd hbb hn0 C hd hfit hend hw ih
      | laload =>
        exact hw.1.elim
      | land =>
        exact axs_land hbb hn0 C hd hfit hend hw ih
      | lastore =>
        exact hw.1.elim
      | lcmp =>
        exact axs_lcmp hbb hn0 C hd hfit hend hw ih
      | lconst z0 =>
        exact axs_lconst _ hbb hn0 C hd hfit hend hw ih
      | ldc z0 =>
        exact axs_ldc _ hbb hn0 C hd hfit hend hw ih
      | ldc_w z0 =>
        exact axs_ldc_w _ hbb hn0 C hd hfit hend hw ih
      | ldc2_w z0 =>
        exact axs_ldc2_w _ hbb hn0 C hd hfit hend hw ih
      | ldiv =>
        exact hw.1.elim
      | lload z0 =>
        exact axs_lload _ hbb hn0 C hd hfit hend hw ih
      | lload_n z0 =>
        exact axs_lload_n _ hbb hn0 C hd hfit hend hw ih
      | lmul =>
        exact axs_lmul hbb hn0 C hd hfit hend hw ih
      | lneg =>
        exact hw.1.elim
      | lookupswitch z0 z1 =>
        exact axs_lookupswitch _ _ hbb hn0 C hd hfit hend hw ih
      | lor =>
        exact axs_lor hbb hn0 C hd hfit hend hw ih
      | lrem =>
        exact hw.1.elim
      | lreturn =>
        exact axs_lreturn C hd hE hw
      | lshl =>
        exact axs_lshl hbb hn0 C hd hfit hend hw ih
      | lshr =>
        exact axs_lshr hbb hn0 C hd hfit hend hw ih
      | lstore z0 =>
        exact axs_lstore _ hbb hn0 C hd hfit hend hw ih
      | lstore_n z0 =>
        exact axs_lstore_n _ hbb hn0 C hd hfit hend hw ih
      | lsub =>
        exact axs_lsub hbb hn0 C hd hfit hend hw ih
      | lushr =>
        exact axs_lushr hbb hn0 C hd hfit hend hw ih
      | lxor =>
        exact axs_lxor hbb hn0 C hd hfit hend hw ih
      | monitorenter =>
        exact hw.1.elim
      | monitorexit =>
        exact hw.1.elim
      | multianewarray z0 z1 =>
        exact hw.1.elim
      | new z0 =>
        exact axs_new _ hbb hn0 C hd hfit hend hw ih
      | newarray z0 =>
        exact axs_newarray _ hbb hn0 C hd hfit hend hw ih
      | nop =>
        exact hw.1.elim
      | pop =>
        exact axs_pop hbb hn0 C hd hfit hend hw ih
      | pop2 =>
        exact hw.1.elim
      | putfield z0 =>
        exact axs_putfield _ hbb hn0 C hd hfit hend hw ih
      | putstatic z0 =>
        exact hw.1.elim
      | ret z0 =>
        exact hw.1.elim
      | return_ =>
        exact axs_return_ C hd hE hw
      | saload =>
        exact hw.1.elim
      | sastore =>
        exact hw.1.elim
      | sipush z0 =>
        exact axs_sipush _ hbb hn0 C hd hfit hend hw ih
      | swap =>
        exact hw.1.elim
      | tableswitch z0 z1 z2 z3 =>
        exact axs_tableswitch _ _ _ _ hbb hn0 C hd hfit hend hw ih


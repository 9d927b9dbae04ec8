/-! calls are sound; and the whole -/
def ax_Snd (l : Launch) (D : va_G) (dA : Nat → ClassId) (base b L : Nat) (xs : Nat → Int32) (n : Nat) : Prop := ∀ (t : ax_S) (r : Option Value) (h1 : ax_H), ax_wp (ax_step L xs) n t (fun v h => v = r ∧ h = h1) → ∀ {p : Program} {e : Env} {R : Room} {s : State} {m : MethodId} {args : Array Value} {below : List Frame} {meth : Method} {c : Code} (n0 s0 : Nat) (Q : State → Prop), 0 < n0 → ax_C p R s m args meth c D dA t.1.1 t.1.2.2.1 t.1.2.2.2 → h1.1 - n0 ≤ R.cells → h1.2.1 - s0 ≤ R.slots → ax_E s args below D dA base b Q n0 s0 (fun v h => v = r ∧ h = h1) → ax_G p l e R s m args below meth c D dA base b L xs Q n0 s0 t
def ax_ws (mi : Nat) : List Cond := .code (axt_y mi) (axt_b mi) (axt_mx mi) (axt_rt mi) :: axt_ts
def ax_Pre (D : va_G) (dA : Nat → ClassId) (base b L : Nat) (xs : Nat → Int32) (h : ax_H) (U : State) : Prop := ax_R D dA base b h U.heap ∧ va_X b L xs U U.heap ∧ ax_K D dA U
def ax_Post (D : va_G) (dA : Nat → ClassId) (base b : Nat) (r : Option Value) (h1 : ax_H) : Array Value → State → Outcome → State → Prop := fun _ st o t => o = .returned (r.map (ax_tv base b)) ∧ ax_R D dA base b h1 t.heap ∧ ∀ q, q ≤ base → t.heap[q]? = st.heap[q]?
theorem ax_met {l : Launch} {D : va_G} {dA : Nat → ClassId} {base b L : Nat} {xs : Nat → Int32} {n cm fr lo : Nat} {as : List Value} {h h1 : ax_H} {r : Option Value} (hS : ax_Snd l D dA base b L xs n) (hcm : cm < axt_n) (hpl : plainFor (axt_y cm) = true) (hon : axt_on (axt_ow cm) = (axt_y cm).cls) (hpos : 0 < h.1) (hsl : (lg_sl as).length ≤ axt_mx cm) (hw : ax_wp (ax_step L xs) n ((cm, 0, fr, lo), lv_args 0 as, [], h) (fun v h' => v = r ∧ h' = h1)) :
    Met l (axt_y cm) (ax_ws cm) { frames := fr, cells := h1.1 - h.1, slots := h1.2.1 - h.2.1, locals := lo } (va_Pc (as.map (ax_tv base b)) (ax_Pre D dA base b L xs h)) (ax_Post D dA base b r h1) (h1.1 - h.1) (h1.2.1 - h.2.1) (fun q => base < q) := by
  refine va_MetF (cc := axt_b cm) (maxL := axt_mx cm) (ret := axt_rt cm) hpl rfl ?_
  intro p e s m args below meth c s₁ B hml hv
  obtain ⟨rfl, hR, hX, hK⟩ := hv
  have hts := atoms_spec (ws := ax_ws cm) B.pre
  have hown : s.vm.findClass (axt_y cm).cls = some m.cls := findClass_of_methodNamed B.named
  have hnm : meth.name = (axt_y cm).name := (name_of_methodNamed B.named B.method).1
  have hl := lv_entry (as.map (ax_tv base b)) (n := axt_mx cm) (by rw [ax_slots]; exact hsl)
  rw [lg_entry_eq]
  generalize ((lg_sl (as.map (ax_tv base b)) ++ List.replicate (axt_mx cm - (lg_sl (as.map (ax_tv base b))).length) Slot.unset).toArray) = ls at hl ⊢
  rw [ax_argsT] at hl
  have k := hS _ r h1 hw (p := p) (e := e) (R := (headSpec (ax_ws cm) { frames := fr, cells := h1.1 - h.1, slots := h1.2.1 - h.2.1, locals := lo }).room) (s := s) (m := m) (args := (as.map (ax_tv base b)).toArray) (below := below) (meth := meth) (c := c) h.1 h.2.1 _ hpos
    ⟨B.exec, B.bytes, hml, by rw [hon]; exact hown, fun w hw => hts w (List.mem_cons_of_mem _ hw), B.returns, B.notSynchronized, fun _ => hnm, hK, Nat.le_refl _, Nat.le_refl _, Nat.le_of_lt hcm⟩ (Nat.le_refl _) (Nat.le_refl _)
    (fun v h' hv => ⟨ax_Post D dA base b r h1, by obtain ⟨rfl, rfl⟩ := hv; rfl, fun t hR' hF' hW' => by obtain ⟨rfl, rfl⟩ := hv; exact ⟨rfl, hR', hF'⟩⟩)
    s.heap [] ls (Nat.le_refl _) (Nat.le_refl _) hR hX (fun _ _ => rfl) hl (fun q hq => by cases hq)
  refine W.cs ?_ ?_ k
  · show 0 = h.1 - h.1
    omega
  · show 0 = h.2.1 - h.2.1
    omega
section AXC
variable {p : Program} {l : Launch} {e : Env} {R : Room} {s : State} {m : MethodId} {args : Array Value} {below : List Frame} {meth : Method} {c : Code} {D : va_G} {dA : Nat → ClassId} {base b L : Nat} {xs : Nat → Int32} {Q : State → Prop} {n0 s0 : Nat}
theorem ax_goes {H : Heap} {locs : List Loc} {cells slots mc ms pc : Nat} {ls : Array Slot} {st0 rest : List Value} {r : Option Value} {h2 : ax_H} {av : Array Value} (hbb : b ≤ base) (hr : va_Run p l e R s m args below meth c H locs cells slots mc ms (F0 m pc ls st0) rest (ax_Post D dA base b r h2 av) (fun q => base < q)) (hX : va_X b L xs s H) (hF : ∀ q, q ≤ base → H[q]? = s.heap[q]?) (hO : ∀ q ∈ locs, base < q.base)
    (kk : ∀ (H1 : Heap) (locs1 : List Loc), ax_R D dA base b h2 H1 → va_X b L xs s H1 → (∀ q, q ≤ base → H1[q]? = s.heap[q]?) → (∀ q ∈ locs1, base < q.base) → W p l e R s m args below meth c H1 locs1 (cells + mc) (slots + ms) Q (F0 m (pc + 3) ls ((r.map (ax_tv base b)).toList ++ rest))) : W p l e R s m args below meth c H locs cells slots Q (F0 m pc ls st0) := by
  intro T hT X
  obtain ⟨v, st₀, t, T', LL, h0, X', hL, e1, e2, ⟨hv, hR2, hF2⟩, st⟩ := hr T hT X
  have hv' := Outcome.returned.inj hv
  subst hv'
  have hh : ∀ q, q ≤ base → T'.heap[q]? = H[q]? := fun q hq => by rw [e1, hF2 q hq, h0]
  obtain ⟨t2, a1, b1⟩ := kk T'.heap (locs ++ LL) (by rw [e1]; exact hR2) (hX.kept (hh b hbb)) (fun q hq => by rw [hh q hq]; exact hF q hq) (fun q hq => by
    rcases List.mem_append.mp hq with h | h
    · exact hO q h
    · exact hL q h) T' rfl X'
  exact ⟨t2, st t2 a1, b1⟩
theorem ax_blind (as : List Value) (h : ax_H) : FrameBlind (va_Pc (as.map (ax_tv base b)) (ax_Pre D dA base b L xs h)) := by
  intro a U g mk q
  obtain ⟨q0, qR, qX, qK⟩ := q
  exact ⟨q0, qR, va_X.moved (u := U) (U := U.calling g mk a) (Vm.Alike.refl U.vm) qX, ax_K.same (s := U) (U := U.calling g mk a) rfl qK⟩
theorem ax_enter {as : List Value} {h : ax_H} {H : Heap} (hR : ax_R D dA base b h H) (hX : va_X b L xs s H) (hK : ax_K D dA s) : ∀ U : State, U.heap = H → s.WarmedH U.vm → va_Pc (as.map (ax_tv base b)) (ax_Pre D dA base b L xs h) (as.map (ax_tv base b)).toArray U := fun U hU hW => ⟨rfl, by rw [hU]; exact hR, by rw [hU]; exact va_X.moved hW.alike hX, ax_K.warm hW hK⟩
theorem ax_goodC {cm : Nat} (hcm : cm < axt_n) : GoodIn axt_ts (ax_ws cm) := by
  intro w hw
  rcases List.mem_cons.mp hw with rfl | hw
  · exact ⟨axt_code_in hcm, Or.inl rfl⟩
  · exact ⟨hw, axt_good w hw⟩
theorem ax_stk {as rest st : List Value} (hst : st = as.reverse ++ rest) : st.map (ax_tv base b) = (as.map (ax_tv base b)).reverse ++ rest.map (ax_tv base b) := by
  rw [hst, List.map_append, List.map_reverse]
theorem axs_invoke {n mi pc fr lo idx cm na kd : Nat} {lv : List (Nat × Value)} {st as rest : List Value} {h : ax_H} {post : ax_Po} {ins : Jvm.ClassFile.Instr} (hbb : b ≤ base) (hn0 : 0 < n0) (C : ax_C p R s m args meth c D dA mi fr lo) (hS : ax_Snd l D dA base b L xs n)
    (hm : axt_mth (axt_ow mi) idx = some (kd, cm, na)) (hd : decode (axt_b mi) pc = .ok (ins, 3))
    (hkd : (kd = 0 ∧ ins = .invokestatic idx ∧ st = as.reverse ++ rest ∧ as.length = na) ∨ (∃ (a : Nat) (as' : List Value), as = .ref a :: as' ∧ st = as'.reverse ++ .ref a :: rest ∧ as'.length = na ∧ ((kd = 1 ∧ ins = .invokespecial idx) ∨ (kd = 2 ∧ ins = .invokevirtual idx ∧ ∃ fs, ax_g h a = some (.inr (axt_ci cm, fs))))))
    (hfit : ∀ v h', post v h' → h'.1 - n0 ≤ R.cells ∧ h'.2.1 - s0 ≤ R.slots) (hend : ∀ t, ax_wp (ax_step L xs) n t post → ∃ v h', post v h' ∧ ax_le t.2.2.2 h')
    (hw : ax_F (ax_call (mi, pc, fr, lo) lv rest as h cm) (ax_wp (ax_step L xs) n) h post) (ih : ∀ t, ax_wp (ax_step L xs) n t post → t.1.1 = mi → t.1.2.2 = (fr, lo) → ax_G p l e R s m args below meth c D dA base b L xs Q n0 s0 t) : ax_G p l e R s m args below meth c D dA base b L xs Q n0 s0 ((mi, pc, fr, lo), lv, st, h) := by
  obtain ⟨⟨a1, a2, a3, a4⟩, -, hw⟩ := ax_F_c hw
  have a1 : 1 ≤ fr := a1
  have a2 : 19 + axt_mx cm ≤ lo := a2
  obtain ⟨v2, h2, ⟨l2, hw2⟩, l1, hw1⟩ := ax_wp.det n _ _ hw
  obtain ⟨v', h', hp', hle⟩ := hend _ hw2
  obtain ⟨f1, f2⟩ := hfit _ _ hp'
  have l11 : h.1 ≤ h2.1 := l1.1
  have l12 : h.2.1 ≤ h2.2.1 := l1.2
  have le1 : h2.1 ≤ h'.1 := hle.1
  have le2 : h2.2.1 ≤ h'.2.1 := hle.2
  have hfr := C.2.2.2.2.2.2.2.2.2.1
  have hlo := C.2.2.2.2.2.2.2.2.2.2.1
  have hk3 : kd < 3 := by
    rcases hkd with ⟨rfl, -⟩ | ⟨_, _, -, -, -, ⟨rfl, -⟩ | ⟨rfl, -⟩⟩ <;> decide
  obtain ⟨⟨hcm, hpl, hon⟩, hini, hne1, hne2, hpar, hlink, hk0, hk1, hk2⟩ := axt_mth_ok hm hk3
  have hts := C.2.2.2.2.1
  have hK := C.2.2.2.2.2.2.2.2.1
  intro H locs ls g1 g2 hR hX hF hL hO
  have g1' : n0 ≤ h.1 := g1
  have g2' : s0 ≤ h.2.1 := g2
  have M := ax_met hS hcm hpl hon (by omega) a4 hw1
  have hf : h.1 - n0 + (h2.1 - h.1) ≤ R.cells ∧ h.2.1 - s0 + (h2.2.1 - h.2.1) ≤ R.slots := ⟨by omega, by omega⟩
  have hRm : (fr - 1) + 1 ≤ R.frames ∧ 8 + (axt_mx cm + 11) + (lo - (19 + axt_mx cm)) ≤ R.locals := ⟨by omega, by omega⟩
  have hW : ((rest.map (ax_tv base b)).map fun v => v.category).sum ≤ 8 := by rw [ax_cats]; exact a3
  have cont : ∀ (H1 : Heap) (locs1 : List Loc), ax_R D dA base b h2 H1 → va_X b L xs s H1 → (∀ q, q ≤ base → H1[q]? = s.heap[q]?) → (∀ q ∈ locs1, base < q.base) → W p l e R s m args below meth c H1 locs1 (h.1 - n0 + (h2.1 - h.1)) (h.2.1 - s0 + (h2.2.1 - h.2.1)) Q (F0 m (pc + 3) ls ((v2.map (ax_tv base b)).toList ++ rest.map (ax_tv base b))) := by
    intro H1 locs1 hR1 hX1 hF1 hO1
    have k := ih _ hw2 rfl rfl H1 locs1 ls (by show n0 ≤ h2.1; omega) (by show s0 ≤ h2.2.1; omega) hR1 hX1 hF1 hL hO1
    have ev : (v2.toList ++ rest).map (ax_tv base b) = (v2.map (ax_tv base b)).toList ++ rest.map (ax_tv base b) := by
      rw [List.map_append]
      cases v2 <;> rfl
    have k : W p l e R s m args below meth c H1 locs1 (h2.1 - n0) (h2.2.1 - s0) Q (F0 m (pc + 3) ls ((v2.toList ++ rest).map (ax_tv base b))) := k
    rw [ev] at k
    exact W.cs (by omega) (by omega) k
  have hd3 : (axt_y cm).cls ≠ "java/lang/invoke/MethodHandle" ∧ (axt_y cm).cls ≠ "java/lang/invoke/VarHandle" ∧ (parseMethodDescriptor (axt_y cm).desc).map (fun d => d.parameters.length) = some na := ⟨hne1, hne2, hpar⟩
  have hN : ∀ host, (axt_on (axt_ow mi), idx, axt_y cm, host) ∈ axt_nm → va_CN R s args (axt_on (axt_ow mi)) idx (axt_y cm) host (axt_b cm) (axt_mx cm) (axt_rt cm) (ax_ws cm) { frames := fr - 1, cells := h2.1 - h.1, slots := h2.2.1 - h.2.1, locals := lo - (19 + axt_mx cm) } (h2.1 - h.1) (h2.2.1 - h.2.1) na := fun host hh => va_cnB na hts (ax_goodC hcm) rfl rfl rfl (hK.2.2.1 _ hh) (hts _ hini) hd3 hRm
  have hB : Cond.methodLink (axt_on (axt_ow mi)) idx (axt_y cm) ∈ axt_ts → CallB R s args (axt_on (axt_ow mi)) idx (axt_y cm) (axt_b cm) (axt_mx cm) (axt_rt cm) (ax_ws cm) { frames := fr - 1, cells := h2.1 - h.1, slots := h2.2.1 - h.2.1, locals := lo - (19 + axt_mx cm) } (h2.1 - h.1) (h2.2.1 - h.2.1) na := fun hh => callB_of na hts (ax_goodC hcm) rfl rfl rfl (hts _ hini) (hts _ hh) hd3 hRm
  have fix : CallFix p m c (axt_b mi) (axt_mx mi) s args axt_ts (axt_on (axt_ow mi)) := ⟨C.1, C.2.1, C.2.2.1, C.2.2.2.1, hts⟩
  rcases hkd with ⟨rfl, rfl, hst, hna⟩ | ⟨a, as', rfl, hst, hna, hk⟩
  · have hs : F0 m pc ls (st.map (ax_tv base b)) = F0 m pc ls ((as.map (ax_tv base b)).reverse ++ rest.map (ax_tv base b)) := by rw [ax_stk hst]
    show W p l e R s m args below meth c H locs (h.1 - n0) (h.2.1 - s0) Q (F0 m pc ls (st.map (ax_tv base b)))
    rw [hs]
    have hst0 := hts _ (hk0 rfl)
    rcases hlink with hl | ⟨host, hl⟩
    · exact ax_goes hbb (va_runS fix M ⟨hB hl, hst0⟩ ⟨ax_blind as h, ax_enter hR hX hK⟩ rfl (by rw [List.length_map]; exact hna) hL.1 rfl (lv_room hW) hd hf) hX hF hO cont
    · exact ax_goes hbb (va_runSN fix M ⟨hN host hl, hst0, trivial⟩ ⟨ax_blind as h, ax_enter hR hX hK⟩ rfl (by rw [List.length_map]; exact hna) hL.1 rfl (lv_room hW) hd hf) hX hF hO cont
  · have hs : F0 m pc ls (st.map (ax_tv base b)) = F0 m pc ls ((as'.map (ax_tv base b)).reverse ++ .ref (ax_ad base b a) :: rest.map (ax_tv base b)) := by rw [ax_stk hst]; rfl
    show W p l e R s m args below meth c H locs (h.1 - n0) (h.2.1 - s0) Q (F0 m pc ls (st.map (ax_tv base b)))
    rw [hs]
    rcases hk with ⟨rfl, rfl⟩ | ⟨rfl, rfl, fs, hg⟩
    · obtain ⟨hy1, hin, hrt⟩ := hk1 rfl
      rcases hlink with hl | ⟨host, hl⟩
      · have hB' := hB hl
        rw [hrt] at hB'
        exact ax_goes hbb (va_runI fix M ⟨hB', hy1, hts _ hin⟩ ⟨ax_blind (.ref a :: as') h, ax_enter hR hX hK⟩ rfl (by rw [List.length_map]; exact hna) hL.1 rfl (lv_room hW) hd hf) hX hF hO cont
      · have hN' := hN host hl
        rw [hrt] at hN'
        exact ax_goes hbb (va_runIN fix M ⟨hN', hy1, hts _ hin⟩ ⟨ax_blind (.ref a :: as') h, ax_enter hR hX hK⟩ rfl (by rw [List.length_map]; exact hna) hL.1 rfl (lv_room hW) hd hf) hX hF hO cont
    · obtain ⟨r0, hc, hin, hsel⟩ := hk2 rfl
      have hrec : ∃ cellB : Cell, H[ax_ad base b a]? = some cellB ∧ cellB.vm.isStatics = false ∧ s.vm.findClass r0.1 = some cellB.cls := va_recv hK.1 (hR.P hg) hc (q0 := 0) rfl
      rcases hlink with hl | ⟨host, hl⟩
      · exact ax_goes hbb (va_runV fix M ⟨hB hl, hts _ hin, hts _ hsel⟩ ⟨ax_blind (.ref a :: as') h, hrec, ax_enter hR hX hK⟩ rfl (by rw [List.length_map]; exact hna) hL.1 rfl (lv_room hW) hd hf) hX hF hO cont
      · exact ax_goes hbb (va_runVN fix M ⟨hN host hl, hts _ hin, hts _ hsel⟩ ⟨ax_blind (.ref a :: as') h, hrec, ax_enter hR hX hK⟩ rfl (by rw [List.length_map]; exact hna) hL.1 rfl (lv_room hW) hd hf) hX hF hO cont
end AXC


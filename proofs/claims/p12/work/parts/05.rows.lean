/-! ROWS: one instruction each, over handles (printed by program). n is the pc behind it. -/
section AR
variable {L : Nat} {xs : Nat → Int32} {mi pc fr lo : Nat} {lv : List (Nat × Value)} {r : List Value} {h : ax_H} {post : ax_Po}
theorem ar_s {ins : Jvm.ClassFile.Instr} {len : Nat} {st : List Value} {o : ax_O} (hd : decode (axt_b mi) pc = .ok (ins, len)) (ho : ax_ins L xs ins len (mi, pc, fr, lo) lv st h = o) (k : ax_F o (ax_A (ax_step L xs)) h post) : ax_A (ax_step L xs) ((mi, pc, fr, lo), lv, st, h) post :=
  ax_A.F (o := o) (by show (match decode (axt_b mi) pc with | .ok q => ax_ins L xs q.1 q.2 (mi, pc, fr, lo) lv st h | .error _ => ax_no) = o; rw [hd]; exact ho) k
theorem ar_top {x : Int32} {x' : Int32} (e : x = x') (k : ax_A (ax_step L xs) ((mi, pc, fr, lo), lv, .int x' :: r, h) post) : ax_A (ax_step L xs) ((mi, pc, fr, lo), lv, .int x :: r, h) post := by rw [e]; exact k
theorem ar_nm {x : Int32} (k : ∀ z, z = x → ax_A (ax_step L xs) ((mi, pc, fr, lo), lv, .int z :: r, h) post) : ax_A (ax_step L xs) ((mi, pc, fr, lo), lv, .int x :: r, h) post := k x rfl
theorem ar_loc {lv' : List (Nat × Value)} {st : List Value} (e : lv = lv') (k : ax_A (ax_step L xs) ((mi, pc, fr, lo), lv', st, h) post) : ax_A (ax_step L xs) ((mi, pc, fr, lo), lv, st, h) post := by rw [e]; exact k
theorem ar_heap {h' : ax_H} {st : List Value} (e : h = h') (k : ax_A (ax_step L xs) ((mi, pc, fr, lo), lv, st, h') post) : ax_A (ax_step L xs) ((mi, pc, fr, lo), lv, st, h) post := by rw [e]; exact k
theorem ar_iconst (n : Nat) {i : Int} {v : Int32} (hd : decode (axt_b mi) pc = .ok (.iconst i, 1)) (hn : pc + 1 = n) (hv : Int32.ofInt i = v) (k : ax_A (ax_step L xs) ((mi, n, fr, lo), lv, .int v :: r, h) post) : ax_A (ax_step L xs) ((mi, pc, fr, lo), lv, r, h) post := by
  subst hn
  subst hv
  exact ar_s hd rfl ⟨rfl, ax_le.rf, k⟩
theorem ar_bipush (n : Nat) {i : Int} {v : Int32} (hd : decode (axt_b mi) pc = .ok (.bipush i, 2)) (hn : pc + 2 = n) (hv : (Int8.ofInt i).toInt32 = v) (k : ax_A (ax_step L xs) ((mi, n, fr, lo), lv, .int v :: r, h) post) : ax_A (ax_step L xs) ((mi, pc, fr, lo), lv, r, h) post := by
  subst hn
  subst hv
  exact ar_s hd rfl ⟨rfl, ax_le.rf, k⟩
theorem ar_sipush (n : Nat) {i : Int} {v : Int32} (hd : decode (axt_b mi) pc = .ok (.sipush i, 3)) (hn : pc + 3 = n) (hv : (Int16.ofInt i).toInt32 = v) (k : ax_A (ax_step L xs) ((mi, n, fr, lo), lv, .int v :: r, h) post) : ax_A (ax_step L xs) ((mi, pc, fr, lo), lv, r, h) post := by
  subst hn
  subst hv
  exact ar_s hd rfl ⟨rfl, ax_le.rf, k⟩
theorem ar_lconst (n : Nat) {i : Fin 2} {v : Int64} (hd : decode (axt_b mi) pc = .ok (.lconst i, 1)) (hn : pc + 1 = n) (hv : Int64.ofNat (i : Nat) = v) (k : ax_A (ax_step L xs) ((mi, n, fr, lo), lv, .long v :: r, h) post) : ax_A (ax_step L xs) ((mi, pc, fr, lo), lv, r, h) post := by
  subst hn
  subst hv
  exact ar_s hd rfl ⟨rfl, ax_le.rf, k⟩
theorem ar_o {α : Type} {q : Option α} {a : α} {k : α → ax_O} (h : q = some a) : ax_o q k = k a := by rw [h]; rfl
theorem ar_ldc (n : Nat) {i : Nat} {v : Int32} (hd : decode (axt_b mi) pc = .ok (.ldc i, 2)) (hn : pc + 2 = n) (hv : axt_cst (axt_ow mi) i = some v) (k : ax_A (ax_step L xs) ((mi, n, fr, lo), lv, .int v :: r, h) post) : ax_A (ax_step L xs) ((mi, pc, fr, lo), lv, r, h) post := by
  subst hn
  exact ar_s hd (ar_o hv) ⟨rfl, ax_le.rf, k⟩
theorem ar_ldc_w (n : Nat) {i : Nat} {v : Int32} (hd : decode (axt_b mi) pc = .ok (.ldc_w i, 3)) (hn : pc + 3 = n) (hv : axt_cst (axt_ow mi) i = some v) (k : ax_A (ax_step L xs) ((mi, n, fr, lo), lv, .int v :: r, h) post) : ax_A (ax_step L xs) ((mi, pc, fr, lo), lv, r, h) post := by
  subst hn
  exact ar_s hd (ar_o hv) ⟨rfl, ax_le.rf, k⟩
theorem ar_ldc2_w (n : Nat) {i : Nat} {v : Int64} (hd : decode (axt_b mi) pc = .ok (.ldc2_w i, 3)) (hn : pc + 3 = n) (hv : axt_cstl (axt_ow mi) i = some v) (k : ax_A (ax_step L xs) ((mi, n, fr, lo), lv, .long v :: r, h) post) : ax_A (ax_step L xs) ((mi, pc, fr, lo), lv, r, h) post := by
  subst hn
  exact ar_s hd (ar_o hv) ⟨rfl, ax_le.rf, k⟩
theorem ar_iload (n : Nat) {i : Nat} {v : Int32} (hd : decode (axt_b mi) pc = .ok (.iload i, 2)) (hn : pc + 2 = n) (hv : ax_lkI lv i = some v) (k : ax_A (ax_step L xs) ((mi, n, fr, lo), lv, .int v :: r, h) post) : ax_A (ax_step L xs) ((mi, pc, fr, lo), lv, r, h) post := by
  subst hn
  exact ar_s hd (ar_o hv) ⟨rfl, ax_le.rf, k⟩
theorem ar_iload_n (n : Nat) {i : Fin 4} {v : Int32} (hd : decode (axt_b mi) pc = .ok (.iload_n i, 1)) (hn : pc + 1 = n) (hv : ax_lkI lv i = some v) (k : ax_A (ax_step L xs) ((mi, n, fr, lo), lv, .int v :: r, h) post) : ax_A (ax_step L xs) ((mi, pc, fr, lo), lv, r, h) post := by
  subst hn
  exact ar_s hd (ar_o hv) ⟨rfl, ax_le.rf, k⟩
theorem ar_lload (n : Nat) {i : Nat} {v : Int64} (hd : decode (axt_b mi) pc = .ok (.lload i, 2)) (hn : pc + 2 = n) (hv : ax_lkL lv i = some v) (k : ax_A (ax_step L xs) ((mi, n, fr, lo), lv, .long v :: r, h) post) : ax_A (ax_step L xs) ((mi, pc, fr, lo), lv, r, h) post := by
  subst hn
  exact ar_s hd (ar_o hv) ⟨rfl, ax_le.rf, k⟩
theorem ar_lload_n (n : Nat) {i : Fin 4} {v : Int64} (hd : decode (axt_b mi) pc = .ok (.lload_n i, 1)) (hn : pc + 1 = n) (hv : ax_lkL lv i = some v) (k : ax_A (ax_step L xs) ((mi, n, fr, lo), lv, .long v :: r, h) post) : ax_A (ax_step L xs) ((mi, pc, fr, lo), lv, r, h) post := by
  subst hn
  exact ar_s hd (ar_o hv) ⟨rfl, ax_le.rf, k⟩
theorem ar_aload (n : Nat) {i : Nat} {v : Nat} (hd : decode (axt_b mi) pc = .ok (.aload i, 2)) (hn : pc + 2 = n) (hv : ax_lkR lv i = some v) (k : ax_A (ax_step L xs) ((mi, n, fr, lo), lv, .ref v :: r, h) post) : ax_A (ax_step L xs) ((mi, pc, fr, lo), lv, r, h) post := by
  subst hn
  exact ar_s hd (ar_o hv) ⟨rfl, ax_le.rf, k⟩
theorem ar_aload_n (n : Nat) {i : Fin 4} {v : Nat} (hd : decode (axt_b mi) pc = .ok (.aload_n i, 1)) (hn : pc + 1 = n) (hv : ax_lkR lv i = some v) (k : ax_A (ax_step L xs) ((mi, n, fr, lo), lv, .ref v :: r, h) post) : ax_A (ax_step L xs) ((mi, pc, fr, lo), lv, r, h) post := by
  subst hn
  exact ar_s hd (ar_o hv) ⟨rfl, ax_le.rf, k⟩
theorem ar_istore (n : Nat) {i : Nat} {v : Int32} (lv2 : List (Nat × Value)) (hd : decode (axt_b mi) pc = .ok (.istore i, 2)) (hn : pc + 2 = n) (hi : i < axt_mx mi) (hl : ax_st1 lv i (.int v) = lv2) (k : ax_A (ax_step L xs) ((mi, n, fr, lo), lv2, r, h) post) : ax_A (ax_step L xs) ((mi, pc, fr, lo), lv, .int v :: r, h) post := by
  subst hn
  subst hl
  exact ar_s hd rfl ⟨⟨rfl, hi⟩, ax_le.rf, k⟩
theorem ar_istore_n (n : Nat) {i : Fin 4} {v : Int32} (lv2 : List (Nat × Value)) (hd : decode (axt_b mi) pc = .ok (.istore_n i, 1)) (hn : pc + 1 = n) (hi : (i : Nat) < axt_mx mi) (hl : ax_st1 lv i (.int v) = lv2) (k : ax_A (ax_step L xs) ((mi, n, fr, lo), lv2, r, h) post) : ax_A (ax_step L xs) ((mi, pc, fr, lo), lv, .int v :: r, h) post := by
  subst hn
  subst hl
  exact ar_s hd rfl ⟨⟨rfl, hi⟩, ax_le.rf, k⟩
theorem ar_lstore (n : Nat) {i : Nat} {v : Int64} (lv2 : List (Nat × Value)) (hd : decode (axt_b mi) pc = .ok (.lstore i, 2)) (hn : pc + 2 = n) (hi : i + 1 < axt_mx mi) (hl : ax_st2 lv i (.long v) = lv2) (k : ax_A (ax_step L xs) ((mi, n, fr, lo), lv2, r, h) post) : ax_A (ax_step L xs) ((mi, pc, fr, lo), lv, .long v :: r, h) post := by
  subst hn
  subst hl
  exact ar_s hd rfl ⟨⟨rfl, hi⟩, ax_le.rf, k⟩
theorem ar_lstore_n (n : Nat) {i : Fin 4} {v : Int64} (lv2 : List (Nat × Value)) (hd : decode (axt_b mi) pc = .ok (.lstore_n i, 1)) (hn : pc + 1 = n) (hi : (i : Nat) + 1 < axt_mx mi) (hl : ax_st2 lv i (.long v) = lv2) (k : ax_A (ax_step L xs) ((mi, n, fr, lo), lv2, r, h) post) : ax_A (ax_step L xs) ((mi, pc, fr, lo), lv, .long v :: r, h) post := by
  subst hn
  subst hl
  exact ar_s hd rfl ⟨⟨rfl, hi⟩, ax_le.rf, k⟩
theorem ar_astore (n : Nat) {i : Nat} {v : Nat} (lv2 : List (Nat × Value)) (hd : decode (axt_b mi) pc = .ok (.astore i, 2)) (hn : pc + 2 = n) (hi : i < axt_mx mi) (hl : ax_st1 lv i (.ref v) = lv2) (k : ax_A (ax_step L xs) ((mi, n, fr, lo), lv2, r, h) post) : ax_A (ax_step L xs) ((mi, pc, fr, lo), lv, .ref v :: r, h) post := by
  subst hn
  subst hl
  exact ar_s hd rfl ⟨⟨rfl, hi⟩, ax_le.rf, k⟩
theorem ar_astore_n (n : Nat) {i : Fin 4} {v : Nat} (lv2 : List (Nat × Value)) (hd : decode (axt_b mi) pc = .ok (.astore_n i, 1)) (hn : pc + 1 = n) (hi : (i : Nat) < axt_mx mi) (hl : ax_st1 lv i (.ref v) = lv2) (k : ax_A (ax_step L xs) ((mi, n, fr, lo), lv2, r, h) post) : ax_A (ax_step L xs) ((mi, pc, fr, lo), lv, .ref v :: r, h) post := by
  subst hn
  subst hl
  exact ar_s hd rfl ⟨⟨rfl, hi⟩, ax_le.rf, k⟩
theorem ar_iinc (n : Nat) {i : Nat} {j : Int} {x v : Int32} (lv2 : List (Nat × Value)) (hd : decode (axt_b mi) pc = .ok (.iinc i j, 3)) (hn : pc + 3 = n) (hx : ax_lkI lv i = some x) (hv : x + Int32.ofInt j = v) (hi : i < axt_mx mi) (hl : ax_st1 lv i (.int v) = lv2) (k : ax_A (ax_step L xs) ((mi, n, fr, lo), lv2, r, h) post) : ax_A (ax_step L xs) ((mi, pc, fr, lo), lv, r, h) post := by
  subst hn
  subst hv
  subst hl
  exact ar_s hd (ar_o hx) ⟨⟨rfl, hi⟩, ax_le.rf, k⟩
theorem ar_iadd (n : Nat) {x y : Int32} (hd : decode (axt_b mi) pc = .ok (.iadd, 1)) (hn : pc + 1 = n) (k : ax_A (ax_step L xs) ((mi, n, fr, lo), lv, .int (x + y) :: r, h) post) : ax_A (ax_step L xs) ((mi, pc, fr, lo), lv, .int y :: .int x :: r, h) post := by
  subst hn
  exact ar_s hd rfl ⟨rfl, ax_le.rf, k⟩
theorem ar_isub (n : Nat) {x y : Int32} (hd : decode (axt_b mi) pc = .ok (.isub, 1)) (hn : pc + 1 = n) (k : ax_A (ax_step L xs) ((mi, n, fr, lo), lv, .int (x - y) :: r, h) post) : ax_A (ax_step L xs) ((mi, pc, fr, lo), lv, .int y :: .int x :: r, h) post := by
  subst hn
  exact ar_s hd rfl ⟨rfl, ax_le.rf, k⟩
theorem ar_imul (n : Nat) {x y : Int32} (hd : decode (axt_b mi) pc = .ok (.imul, 1)) (hn : pc + 1 = n) (k : ax_A (ax_step L xs) ((mi, n, fr, lo), lv, .int (x * y) :: r, h) post) : ax_A (ax_step L xs) ((mi, pc, fr, lo), lv, .int y :: .int x :: r, h) post := by
  subst hn
  exact ar_s hd rfl ⟨rfl, ax_le.rf, k⟩
theorem ar_iand (n : Nat) {x y : Int32} (hd : decode (axt_b mi) pc = .ok (.iand, 1)) (hn : pc + 1 = n) (k : ax_A (ax_step L xs) ((mi, n, fr, lo), lv, .int (x &&& y) :: r, h) post) : ax_A (ax_step L xs) ((mi, pc, fr, lo), lv, .int y :: .int x :: r, h) post := by
  subst hn
  exact ar_s hd rfl ⟨rfl, ax_le.rf, k⟩
theorem ar_ior (n : Nat) {x y : Int32} (hd : decode (axt_b mi) pc = .ok (.ior, 1)) (hn : pc + 1 = n) (k : ax_A (ax_step L xs) ((mi, n, fr, lo), lv, .int (x ||| y) :: r, h) post) : ax_A (ax_step L xs) ((mi, pc, fr, lo), lv, .int y :: .int x :: r, h) post := by
  subst hn
  exact ar_s hd rfl ⟨rfl, ax_le.rf, k⟩
theorem ar_ixor (n : Nat) {x y : Int32} (hd : decode (axt_b mi) pc = .ok (.ixor, 1)) (hn : pc + 1 = n) (k : ax_A (ax_step L xs) ((mi, n, fr, lo), lv, .int (x ^^^ y) :: r, h) post) : ax_A (ax_step L xs) ((mi, pc, fr, lo), lv, .int y :: .int x :: r, h) post := by
  subst hn
  exact ar_s hd rfl ⟨rfl, ax_le.rf, k⟩
theorem ar_ishl (n : Nat) {x y : Int32} (hd : decode (axt_b mi) pc = .ok (.ishl, 1)) (hn : pc + 1 = n) (k : ax_A (ax_step L xs) ((mi, n, fr, lo), lv, .int (x <<< (y &&& 31)) :: r, h) post) : ax_A (ax_step L xs) ((mi, pc, fr, lo), lv, .int y :: .int x :: r, h) post := by
  subst hn
  exact ar_s hd rfl ⟨rfl, ax_le.rf, k⟩
theorem ar_ishr (n : Nat) {x y : Int32} (hd : decode (axt_b mi) pc = .ok (.ishr, 1)) (hn : pc + 1 = n) (k : ax_A (ax_step L xs) ((mi, n, fr, lo), lv, .int (x >>> (y &&& 31)) :: r, h) post) : ax_A (ax_step L xs) ((mi, pc, fr, lo), lv, .int y :: .int x :: r, h) post := by
  subst hn
  exact ar_s hd rfl ⟨rfl, ax_le.rf, k⟩
theorem ar_iushr (n : Nat) {x y : Int32} (hd : decode (axt_b mi) pc = .ok (.iushr, 1)) (hn : pc + 1 = n) (k : ax_A (ax_step L xs) ((mi, n, fr, lo), lv, .int ((x.toUInt32 >>> (y.toUInt32 &&& Int32.toUInt32 31)).toInt32) :: r, h) post) : ax_A (ax_step L xs) ((mi, pc, fr, lo), lv, .int y :: .int x :: r, h) post := by
  subst hn
  exact ar_s hd rfl ⟨rfl, ax_le.rf, k⟩
theorem ar_idiv (n : Nat) {x y : Int32} (hd : decode (axt_b mi) pc = .ok (.idiv, 1)) (hn : pc + 1 = n) (hy : ¬ y = 0) (k : ax_A (ax_step L xs) ((mi, n, fr, lo), lv, .int (x / y) :: r, h) post) : ax_A (ax_step L xs) ((mi, pc, fr, lo), lv, .int y :: .int x :: r, h) post := by
  subst hn
  exact ar_s hd rfl ⟨⟨rfl, hy⟩, ax_le.rf, k⟩
theorem ar_irem (n : Nat) {x y : Int32} (hd : decode (axt_b mi) pc = .ok (.irem, 1)) (hn : pc + 1 = n) (hy : ¬ y = 0) (k : ax_A (ax_step L xs) ((mi, n, fr, lo), lv, .int (x - x / y * y) :: r, h) post) : ax_A (ax_step L xs) ((mi, pc, fr, lo), lv, .int y :: .int x :: r, h) post := by
  subst hn
  exact ar_s hd rfl ⟨⟨rfl, hy⟩, ax_le.rf, k⟩
theorem ar_ineg (n : Nat) {x : Int32} (hd : decode (axt_b mi) pc = .ok (.ineg, 1)) (hn : pc + 1 = n) (k : ax_A (ax_step L xs) ((mi, n, fr, lo), lv, .int (-x) :: r, h) post) : ax_A (ax_step L xs) ((mi, pc, fr, lo), lv, .int x :: r, h) post := by
  subst hn
  exact ar_s hd rfl ⟨rfl, ax_le.rf, k⟩
theorem ar_ladd (n : Nat) {x y : Int64} (hd : decode (axt_b mi) pc = .ok (.ladd, 1)) (hn : pc + 1 = n) (k : ax_A (ax_step L xs) ((mi, n, fr, lo), lv, .long (x + y) :: r, h) post) : ax_A (ax_step L xs) ((mi, pc, fr, lo), lv, .long y :: .long x :: r, h) post := by
  subst hn
  exact ar_s hd rfl ⟨rfl, ax_le.rf, k⟩
theorem ar_lsub (n : Nat) {x y : Int64} (hd : decode (axt_b mi) pc = .ok (.lsub, 1)) (hn : pc + 1 = n) (k : ax_A (ax_step L xs) ((mi, n, fr, lo), lv, .long (x - y) :: r, h) post) : ax_A (ax_step L xs) ((mi, pc, fr, lo), lv, .long y :: .long x :: r, h) post := by
  subst hn
  exact ar_s hd rfl ⟨rfl, ax_le.rf, k⟩
theorem ar_lmul (n : Nat) {x y : Int64} (hd : decode (axt_b mi) pc = .ok (.lmul, 1)) (hn : pc + 1 = n) (k : ax_A (ax_step L xs) ((mi, n, fr, lo), lv, .long (x * y) :: r, h) post) : ax_A (ax_step L xs) ((mi, pc, fr, lo), lv, .long y :: .long x :: r, h) post := by
  subst hn
  exact ar_s hd rfl ⟨rfl, ax_le.rf, k⟩
theorem ar_land (n : Nat) {x y : Int64} (hd : decode (axt_b mi) pc = .ok (.land, 1)) (hn : pc + 1 = n) (k : ax_A (ax_step L xs) ((mi, n, fr, lo), lv, .long (x &&& y) :: r, h) post) : ax_A (ax_step L xs) ((mi, pc, fr, lo), lv, .long y :: .long x :: r, h) post := by
  subst hn
  exact ar_s hd rfl ⟨rfl, ax_le.rf, k⟩
theorem ar_lor (n : Nat) {x y : Int64} (hd : decode (axt_b mi) pc = .ok (.lor, 1)) (hn : pc + 1 = n) (k : ax_A (ax_step L xs) ((mi, n, fr, lo), lv, .long (x ||| y) :: r, h) post) : ax_A (ax_step L xs) ((mi, pc, fr, lo), lv, .long y :: .long x :: r, h) post := by
  subst hn
  exact ar_s hd rfl ⟨rfl, ax_le.rf, k⟩
theorem ar_lxor (n : Nat) {x y : Int64} (hd : decode (axt_b mi) pc = .ok (.lxor, 1)) (hn : pc + 1 = n) (k : ax_A (ax_step L xs) ((mi, n, fr, lo), lv, .long (x ^^^ y) :: r, h) post) : ax_A (ax_step L xs) ((mi, pc, fr, lo), lv, .long y :: .long x :: r, h) post := by
  subst hn
  exact ar_s hd rfl ⟨rfl, ax_le.rf, k⟩
theorem ar_lshl (n : Nat) {x : Int64} {y : Int32} (hd : decode (axt_b mi) pc = .ok (.lshl, 1)) (hn : pc + 1 = n) (k : ax_A (ax_step L xs) ((mi, n, fr, lo), lv, .long (x <<< (y.toInt64 &&& 63)) :: r, h) post) : ax_A (ax_step L xs) ((mi, pc, fr, lo), lv, .int y :: .long x :: r, h) post := by
  subst hn
  exact ar_s hd rfl ⟨rfl, ax_le.rf, k⟩
theorem ar_lshr (n : Nat) {x : Int64} {y : Int32} (hd : decode (axt_b mi) pc = .ok (.lshr, 1)) (hn : pc + 1 = n) (k : ax_A (ax_step L xs) ((mi, n, fr, lo), lv, .long (x >>> (y.toInt64 &&& 63)) :: r, h) post) : ax_A (ax_step L xs) ((mi, pc, fr, lo), lv, .int y :: .long x :: r, h) post := by
  subst hn
  exact ar_s hd rfl ⟨rfl, ax_le.rf, k⟩
theorem ar_lushr (n : Nat) {x : Int64} {y : Int32} (hd : decode (axt_b mi) pc = .ok (.lushr, 1)) (hn : pc + 1 = n) (k : ax_A (ax_step L xs) ((mi, n, fr, lo), lv, .long ((x.toUInt64 >>> (y.toInt64.toUInt64 &&& Int64.toUInt64 63)).toInt64) :: r, h) post) : ax_A (ax_step L xs) ((mi, pc, fr, lo), lv, .int y :: .long x :: r, h) post := by
  subst hn
  exact ar_s hd rfl ⟨rfl, ax_le.rf, k⟩
theorem ar_i2l (n : Nat) {x : Int32} (hd : decode (axt_b mi) pc = .ok (.i2l, 1)) (hn : pc + 1 = n) (k : ax_A (ax_step L xs) ((mi, n, fr, lo), lv, .long x.toInt64 :: r, h) post) : ax_A (ax_step L xs) ((mi, pc, fr, lo), lv, .int x :: r, h) post := by
  subst hn
  exact ar_s hd rfl ⟨rfl, ax_le.rf, k⟩
theorem ar_l2i (n : Nat) {x : Int64} (hd : decode (axt_b mi) pc = .ok (.l2i, 1)) (hn : pc + 1 = n) (k : ax_A (ax_step L xs) ((mi, n, fr, lo), lv, .int x.toInt32 :: r, h) post) : ax_A (ax_step L xs) ((mi, pc, fr, lo), lv, .long x :: r, h) post := by
  subst hn
  exact ar_s hd rfl ⟨rfl, ax_le.rf, k⟩
theorem ar_i2b (n : Nat) {x : Int32} (hd : decode (axt_b mi) pc = .ok (.i2b, 1)) (hn : pc + 1 = n) (k : ax_A (ax_step L xs) ((mi, n, fr, lo), lv, .int x.toInt8.toInt32 :: r, h) post) : ax_A (ax_step L xs) ((mi, pc, fr, lo), lv, .int x :: r, h) post := by
  subst hn
  exact ar_s hd rfl ⟨rfl, ax_le.rf, k⟩
theorem ar_lcmp (n : Nat) {x y : Int64} (hd : decode (axt_b mi) pc = .ok (.lcmp, 1)) (hn : pc + 1 = n) (k : ax_A (ax_step L xs) ((mi, n, fr, lo), lv, .int (lg_cmp x y) :: r, h) post) : ax_A (ax_step L xs) ((mi, pc, fr, lo), lv, .long y :: .long x :: r, h) post := by
  subst hn
  exact ar_s hd rfl ⟨rfl, ax_le.rf, k⟩
theorem ar_dup (n : Nat) {v : Value} (hd : decode (axt_b mi) pc = .ok (.dup, 1)) (hn : pc + 1 = n) (k1 : v.category = 1) (k : ax_A (ax_step L xs) ((mi, n, fr, lo), lv, v :: v :: r, h) post) : ax_A (ax_step L xs) ((mi, pc, fr, lo), lv, v :: r, h) post := by
  subst hn
  exact ar_s hd rfl ⟨⟨rfl, k1⟩, ax_le.rf, k⟩
theorem ar_pop (n : Nat) {v : Value} (hd : decode (axt_b mi) pc = .ok (.pop, 1)) (hn : pc + 1 = n) (k1 : v.category = 1) (k : ax_A (ax_step L xs) ((mi, n, fr, lo), lv, r, h) post) : ax_A (ax_step L xs) ((mi, pc, fr, lo), lv, v :: r, h) post := by
  subst hn
  exact ar_s hd rfl ⟨⟨rfl, k1⟩, ax_le.rf, k⟩
theorem ar_dup_x1 (n : Nat) {v u : Value} (hd : decode (axt_b mi) pc = .ok (.dup_x1, 1)) (hn : pc + 1 = n) (k1 : v.category = 1) (k2 : u.category = 1) (k : ax_A (ax_step L xs) ((mi, n, fr, lo), lv, v :: u :: v :: r, h) post) : ax_A (ax_step L xs) ((mi, pc, fr, lo), lv, v :: u :: r, h) post := by
  subst hn
  exact ar_s hd rfl ⟨⟨rfl, k1, k2⟩, ax_le.rf, k⟩
theorem ar_dup_x2 (n : Nat) {v u t : Value} (hd : decode (axt_b mi) pc = .ok (.dup_x2, 1)) (hn : pc + 1 = n) (k1 : v.category = 1) (k2 : u.category = 1) (k3 : t.category = 1) (k : ax_A (ax_step L xs) ((mi, n, fr, lo), lv, v :: u :: t :: v :: r, h) post) : ax_A (ax_step L xs) ((mi, pc, fr, lo), lv, v :: u :: t :: r, h) post := by
  subst hn
  exact ar_s hd rfl ⟨⟨rfl, k1, k2, k3⟩, ax_le.rf, k⟩
theorem ar_dup2 (n : Nat) {v u : Value} (hd : decode (axt_b mi) pc = .ok (.dup2, 1)) (hn : pc + 1 = n) (k1 : v.category = 1) (k2 : u.category = 1) (k : ax_A (ax_step L xs) ((mi, n, fr, lo), lv, v :: u :: v :: u :: r, h) post) : ax_A (ax_step L xs) ((mi, pc, fr, lo), lv, v :: u :: r, h) post := by
  subst hn
  exact ar_s hd rfl ⟨⟨rfl, k1, k2⟩, ax_le.rf, k⟩
theorem ar_goto (n : Nat) {off : Int} {st : List Value} (hd : decode (axt_b mi) pc = .ok (.goto off, 3)) (hn : (pc : Int) + off = (n : Int)) (k : ax_A (ax_step L xs) ((mi, n, fr, lo), lv, st, h) post) : ax_A (ax_step L xs) ((mi, pc, fr, lo), lv, st, h) post := by
  have e : ((pc : Int) + off).toNat = n := by rw [hn]; rfl
  subst e
  exact ar_s hd rfl ⟨⟨rfl, by rw [hn]; exact Int.natCast_nonneg _⟩, ax_le.rf, k⟩
theorem ar_icmp_eq (t n : Nat) {off : Int} {x y : Int32} (hd : decode (axt_b mi) pc = .ok (.if_icmp .eq off, 3)) (ht : (pc : Int) + off = (t : Int)) (hn : pc + 3 = n) (kt : x = y → ax_A (ax_step L xs) ((mi, t, fr, lo), lv, r, h) post) (kf : ¬ (x = y) → ax_A (ax_step L xs) ((mi, n, fr, lo), lv, r, h) post) : ax_A (ax_step L xs) ((mi, pc, fr, lo), lv, .int y :: .int x :: r, h) post := by
  subst hn
  have e : ((pc : Int) + off).toNat = t := by rw [ht]; rfl
  refine ar_s (o := ((3 = 3 ∧ 0 ≤ (pc : Int) + off), .inl (if ax_cmp .eq x y = true then ax_jp (mi, pc, fr, lo) off lv r h else ax_nx (mi, pc, fr, lo) 3 lv r h))) hd rfl ⟨⟨rfl, by rw [ht]; exact Int.natCast_nonneg _⟩, ?_, ax_A.ite (fun z => ?_) (fun z => kf (fun q => z (decide_eq_true q)))⟩
  · split <;> exact ax_le.rf
  · have k := kt (of_decide_eq_true z)
    rw [← e] at k
    exact k
theorem ar_if_eq (t n : Nat) {off : Int} {x : Int32} (hd : decode (axt_b mi) pc = .ok (.ifCond .eq off, 3)) (ht : (pc : Int) + off = (t : Int)) (hn : pc + 3 = n) (kt : x = 0 → ax_A (ax_step L xs) ((mi, t, fr, lo), lv, r, h) post) (kf : ¬ (x = 0) → ax_A (ax_step L xs) ((mi, n, fr, lo), lv, r, h) post) : ax_A (ax_step L xs) ((mi, pc, fr, lo), lv, .int x :: r, h) post := by
  subst hn
  have e : ((pc : Int) + off).toNat = t := by rw [ht]; rfl
  refine ar_s (o := ((3 = 3 ∧ 0 ≤ (pc : Int) + off), .inl (if ax_cmp .eq x 0 = true then ax_jp (mi, pc, fr, lo) off lv r h else ax_nx (mi, pc, fr, lo) 3 lv r h))) hd rfl ⟨⟨rfl, by rw [ht]; exact Int.natCast_nonneg _⟩, ?_, ax_A.ite (fun z => ?_) (fun z => kf (fun q => z (decide_eq_true q)))⟩
  · split <;> exact ax_le.rf
  · have k := kt (of_decide_eq_true z)
    rw [← e] at k
    exact k
theorem ar_icmp_ne (t n : Nat) {off : Int} {x y : Int32} (hd : decode (axt_b mi) pc = .ok (.if_icmp .ne off, 3)) (ht : (pc : Int) + off = (t : Int)) (hn : pc + 3 = n) (kt : ¬ x = y → ax_A (ax_step L xs) ((mi, t, fr, lo), lv, r, h) post) (kf : ¬ (¬ x = y) → ax_A (ax_step L xs) ((mi, n, fr, lo), lv, r, h) post) : ax_A (ax_step L xs) ((mi, pc, fr, lo), lv, .int y :: .int x :: r, h) post := by
  subst hn
  have e : ((pc : Int) + off).toNat = t := by rw [ht]; rfl
  refine ar_s (o := ((3 = 3 ∧ 0 ≤ (pc : Int) + off), .inl (if ax_cmp .ne x y = true then ax_jp (mi, pc, fr, lo) off lv r h else ax_nx (mi, pc, fr, lo) 3 lv r h))) hd rfl ⟨⟨rfl, by rw [ht]; exact Int.natCast_nonneg _⟩, ?_, ax_A.ite (fun z => ?_) (fun z => kf (fun q => z (decide_eq_true q)))⟩
  · split <;> exact ax_le.rf
  · have k := kt (of_decide_eq_true z)
    rw [← e] at k
    exact k
theorem ar_if_ne (t n : Nat) {off : Int} {x : Int32} (hd : decode (axt_b mi) pc = .ok (.ifCond .ne off, 3)) (ht : (pc : Int) + off = (t : Int)) (hn : pc + 3 = n) (kt : ¬ x = 0 → ax_A (ax_step L xs) ((mi, t, fr, lo), lv, r, h) post) (kf : ¬ (¬ x = 0) → ax_A (ax_step L xs) ((mi, n, fr, lo), lv, r, h) post) : ax_A (ax_step L xs) ((mi, pc, fr, lo), lv, .int x :: r, h) post := by
  subst hn
  have e : ((pc : Int) + off).toNat = t := by rw [ht]; rfl
  refine ar_s (o := ((3 = 3 ∧ 0 ≤ (pc : Int) + off), .inl (if ax_cmp .ne x 0 = true then ax_jp (mi, pc, fr, lo) off lv r h else ax_nx (mi, pc, fr, lo) 3 lv r h))) hd rfl ⟨⟨rfl, by rw [ht]; exact Int.natCast_nonneg _⟩, ?_, ax_A.ite (fun z => ?_) (fun z => kf (fun q => z (decide_eq_true q)))⟩
  · split <;> exact ax_le.rf
  · have k := kt (of_decide_eq_true z)
    rw [← e] at k
    exact k
theorem ar_icmp_lt (t n : Nat) {off : Int} {x y : Int32} (hd : decode (axt_b mi) pc = .ok (.if_icmp .lt off, 3)) (ht : (pc : Int) + off = (t : Int)) (hn : pc + 3 = n) (kt : x < y → ax_A (ax_step L xs) ((mi, t, fr, lo), lv, r, h) post) (kf : ¬ (x < y) → ax_A (ax_step L xs) ((mi, n, fr, lo), lv, r, h) post) : ax_A (ax_step L xs) ((mi, pc, fr, lo), lv, .int y :: .int x :: r, h) post := by
  subst hn
  have e : ((pc : Int) + off).toNat = t := by rw [ht]; rfl
  refine ar_s (o := ((3 = 3 ∧ 0 ≤ (pc : Int) + off), .inl (if ax_cmp .lt x y = true then ax_jp (mi, pc, fr, lo) off lv r h else ax_nx (mi, pc, fr, lo) 3 lv r h))) hd rfl ⟨⟨rfl, by rw [ht]; exact Int.natCast_nonneg _⟩, ?_, ax_A.ite (fun z => ?_) (fun z => kf (fun q => z (decide_eq_true q)))⟩
  · split <;> exact ax_le.rf
  · have k := kt (of_decide_eq_true z)
    rw [← e] at k
    exact k
theorem ar_if_lt (t n : Nat) {off : Int} {x : Int32} (hd : decode (axt_b mi) pc = .ok (.ifCond .lt off, 3)) (ht : (pc : Int) + off = (t : Int)) (hn : pc + 3 = n) (kt : x < 0 → ax_A (ax_step L xs) ((mi, t, fr, lo), lv, r, h) post) (kf : ¬ (x < 0) → ax_A (ax_step L xs) ((mi, n, fr, lo), lv, r, h) post) : ax_A (ax_step L xs) ((mi, pc, fr, lo), lv, .int x :: r, h) post := by
  subst hn
  have e : ((pc : Int) + off).toNat = t := by rw [ht]; rfl
  refine ar_s (o := ((3 = 3 ∧ 0 ≤ (pc : Int) + off), .inl (if ax_cmp .lt x 0 = true then ax_jp (mi, pc, fr, lo) off lv r h else ax_nx (mi, pc, fr, lo) 3 lv r h))) hd rfl ⟨⟨rfl, by rw [ht]; exact Int.natCast_nonneg _⟩, ?_, ax_A.ite (fun z => ?_) (fun z => kf (fun q => z (decide_eq_true q)))⟩
  · split <;> exact ax_le.rf
  · have k := kt (of_decide_eq_true z)
    rw [← e] at k
    exact k
theorem ar_icmp_ge (t n : Nat) {off : Int} {x y : Int32} (hd : decode (axt_b mi) pc = .ok (.if_icmp .ge off, 3)) (ht : (pc : Int) + off = (t : Int)) (hn : pc + 3 = n) (kt : y ≤ x → ax_A (ax_step L xs) ((mi, t, fr, lo), lv, r, h) post) (kf : ¬ (y ≤ x) → ax_A (ax_step L xs) ((mi, n, fr, lo), lv, r, h) post) : ax_A (ax_step L xs) ((mi, pc, fr, lo), lv, .int y :: .int x :: r, h) post := by
  subst hn
  have e : ((pc : Int) + off).toNat = t := by rw [ht]; rfl
  refine ar_s (o := ((3 = 3 ∧ 0 ≤ (pc : Int) + off), .inl (if ax_cmp .ge x y = true then ax_jp (mi, pc, fr, lo) off lv r h else ax_nx (mi, pc, fr, lo) 3 lv r h))) hd rfl ⟨⟨rfl, by rw [ht]; exact Int.natCast_nonneg _⟩, ?_, ax_A.ite (fun z => ?_) (fun z => kf (fun q => z (decide_eq_true q)))⟩
  · split <;> exact ax_le.rf
  · have k := kt (of_decide_eq_true z)
    rw [← e] at k
    exact k
theorem ar_if_ge (t n : Nat) {off : Int} {x : Int32} (hd : decode (axt_b mi) pc = .ok (.ifCond .ge off, 3)) (ht : (pc : Int) + off = (t : Int)) (hn : pc + 3 = n) (kt : 0 ≤ x → ax_A (ax_step L xs) ((mi, t, fr, lo), lv, r, h) post) (kf : ¬ (0 ≤ x) → ax_A (ax_step L xs) ((mi, n, fr, lo), lv, r, h) post) : ax_A (ax_step L xs) ((mi, pc, fr, lo), lv, .int x :: r, h) post := by
  subst hn
  have e : ((pc : Int) + off).toNat = t := by rw [ht]; rfl
  refine ar_s (o := ((3 = 3 ∧ 0 ≤ (pc : Int) + off), .inl (if ax_cmp .ge x 0 = true then ax_jp (mi, pc, fr, lo) off lv r h else ax_nx (mi, pc, fr, lo) 3 lv r h))) hd rfl ⟨⟨rfl, by rw [ht]; exact Int.natCast_nonneg _⟩, ?_, ax_A.ite (fun z => ?_) (fun z => kf (fun q => z (decide_eq_true q)))⟩
  · split <;> exact ax_le.rf
  · have k := kt (of_decide_eq_true z)
    rw [← e] at k
    exact k
theorem ar_icmp_gt (t n : Nat) {off : Int} {x y : Int32} (hd : decode (axt_b mi) pc = .ok (.if_icmp .gt off, 3)) (ht : (pc : Int) + off = (t : Int)) (hn : pc + 3 = n) (kt : y < x → ax_A (ax_step L xs) ((mi, t, fr, lo), lv, r, h) post) (kf : ¬ (y < x) → ax_A (ax_step L xs) ((mi, n, fr, lo), lv, r, h) post) : ax_A (ax_step L xs) ((mi, pc, fr, lo), lv, .int y :: .int x :: r, h) post := by
  subst hn
  have e : ((pc : Int) + off).toNat = t := by rw [ht]; rfl
  refine ar_s (o := ((3 = 3 ∧ 0 ≤ (pc : Int) + off), .inl (if ax_cmp .gt x y = true then ax_jp (mi, pc, fr, lo) off lv r h else ax_nx (mi, pc, fr, lo) 3 lv r h))) hd rfl ⟨⟨rfl, by rw [ht]; exact Int.natCast_nonneg _⟩, ?_, ax_A.ite (fun z => ?_) (fun z => kf (fun q => z (decide_eq_true q)))⟩
  · split <;> exact ax_le.rf
  · have k := kt (of_decide_eq_true z)
    rw [← e] at k
    exact k
theorem ar_if_gt (t n : Nat) {off : Int} {x : Int32} (hd : decode (axt_b mi) pc = .ok (.ifCond .gt off, 3)) (ht : (pc : Int) + off = (t : Int)) (hn : pc + 3 = n) (kt : 0 < x → ax_A (ax_step L xs) ((mi, t, fr, lo), lv, r, h) post) (kf : ¬ (0 < x) → ax_A (ax_step L xs) ((mi, n, fr, lo), lv, r, h) post) : ax_A (ax_step L xs) ((mi, pc, fr, lo), lv, .int x :: r, h) post := by
  subst hn
  have e : ((pc : Int) + off).toNat = t := by rw [ht]; rfl
  refine ar_s (o := ((3 = 3 ∧ 0 ≤ (pc : Int) + off), .inl (if ax_cmp .gt x 0 = true then ax_jp (mi, pc, fr, lo) off lv r h else ax_nx (mi, pc, fr, lo) 3 lv r h))) hd rfl ⟨⟨rfl, by rw [ht]; exact Int.natCast_nonneg _⟩, ?_, ax_A.ite (fun z => ?_) (fun z => kf (fun q => z (decide_eq_true q)))⟩
  · split <;> exact ax_le.rf
  · have k := kt (of_decide_eq_true z)
    rw [← e] at k
    exact k
theorem ar_icmp_le (t n : Nat) {off : Int} {x y : Int32} (hd : decode (axt_b mi) pc = .ok (.if_icmp .le off, 3)) (ht : (pc : Int) + off = (t : Int)) (hn : pc + 3 = n) (kt : x ≤ y → ax_A (ax_step L xs) ((mi, t, fr, lo), lv, r, h) post) (kf : ¬ (x ≤ y) → ax_A (ax_step L xs) ((mi, n, fr, lo), lv, r, h) post) : ax_A (ax_step L xs) ((mi, pc, fr, lo), lv, .int y :: .int x :: r, h) post := by
  subst hn
  have e : ((pc : Int) + off).toNat = t := by rw [ht]; rfl
  refine ar_s (o := ((3 = 3 ∧ 0 ≤ (pc : Int) + off), .inl (if ax_cmp .le x y = true then ax_jp (mi, pc, fr, lo) off lv r h else ax_nx (mi, pc, fr, lo) 3 lv r h))) hd rfl ⟨⟨rfl, by rw [ht]; exact Int.natCast_nonneg _⟩, ?_, ax_A.ite (fun z => ?_) (fun z => kf (fun q => z (decide_eq_true q)))⟩
  · split <;> exact ax_le.rf
  · have k := kt (of_decide_eq_true z)
    rw [← e] at k
    exact k
theorem ar_if_le (t n : Nat) {off : Int} {x : Int32} (hd : decode (axt_b mi) pc = .ok (.ifCond .le off, 3)) (ht : (pc : Int) + off = (t : Int)) (hn : pc + 3 = n) (kt : x ≤ 0 → ax_A (ax_step L xs) ((mi, t, fr, lo), lv, r, h) post) (kf : ¬ (x ≤ 0) → ax_A (ax_step L xs) ((mi, n, fr, lo), lv, r, h) post) : ax_A (ax_step L xs) ((mi, pc, fr, lo), lv, .int x :: r, h) post := by
  subst hn
  have e : ((pc : Int) + off).toNat = t := by rw [ht]; rfl
  refine ar_s (o := ((3 = 3 ∧ 0 ≤ (pc : Int) + off), .inl (if ax_cmp .le x 0 = true then ax_jp (mi, pc, fr, lo) off lv r h else ax_nx (mi, pc, fr, lo) 3 lv r h))) hd rfl ⟨⟨rfl, by rw [ht]; exact Int.natCast_nonneg _⟩, ?_, ax_A.ite (fun z => ?_) (fun z => kf (fun q => z (decide_eq_true q)))⟩
  · split <;> exact ax_le.rf
  · have k := kt (of_decide_eq_true z)
    rw [← e] at k
    exact k
theorem ar_tabIn (t : Nat) {d a z off : Int} {offs : Array Int} {len : Nat} {x : Int32} (hd : decode (axt_b mi) pc = .ok (.tableswitch d a z offs, len)) (h1 : ¬ (x.toInt < a ∨ z < x.toInt)) (ho : offs[(x.toInt - a).toNat]? = some off) (ht : (pc : Int) + off = (t : Int)) (k : ax_A (ax_step L xs) ((mi, t, fr, lo), lv, r, h) post) : ax_A (ax_step L xs) ((mi, pc, fr, lo), lv, .int x :: r, h) post := by
  have e : ((pc : Int) + off).toNat = t := by rw [ht]; rfl
  subst e
  exact ar_s hd ((if_neg h1).trans (ar_o ho)) ⟨by rw [ht]; exact Int.natCast_nonneg _, ax_le.rf, k⟩
theorem ar_tabOut (t : Nat) {d a z : Int} {offs : Array Int} {len : Nat} {x : Int32} (hd : decode (axt_b mi) pc = .ok (.tableswitch d a z offs, len)) (h1 : x.toInt < a ∨ z < x.toInt) (ht : (pc : Int) + d = (t : Int)) (k : ax_A (ax_step L xs) ((mi, t, fr, lo), lv, r, h) post) : ax_A (ax_step L xs) ((mi, pc, fr, lo), lv, .int x :: r, h) post := by
  have e : ((pc : Int) + d).toNat = t := by rw [ht]; rfl
  subst e
  exact ar_s hd (if_pos h1) ⟨by rw [ht]; exact Int.natCast_nonneg _, ax_le.rf, k⟩
theorem ar_lookup (t : Nat) {d off : Int} {ps : Array (Int × Int)} {len : Nat} {x : Int32} (hd : decode (axt_b mi) pc = .ok (.lookupswitch d ps, len)) (hp : (ps.toList.zip (ps.toList.drop 1)).all (fun (a, next) => a.1 < next.1) = true) (ho : Op.lookupswitch.offset ps.toList d x.toInt = off) (ht : (pc : Int) + off = (t : Int)) (k : ax_A (ax_step L xs) ((mi, t, fr, lo), lv, r, h) post) : ax_A (ax_step L xs) ((mi, pc, fr, lo), lv, .int x :: r, h) post := by
  subst ho
  have e : ((pc : Int) + Op.lookupswitch.offset ps.toList d x.toInt).toNat = t := by rw [ht]; rfl
  subst e
  exact ar_s hd rfl ⟨⟨hp, by rw [ht]; exact Int.natCast_nonneg _⟩, ax_le.rf, k⟩
theorem ar_go {a ci : Nat} {fs : List Value} (hg : ax_g h a = some (.inr (ci, fs))) : ax_go h a ci = some fs := by
  unfold ax_go
  rw [hg]
  exact if_pos rfl
theorem ar_gi {a t n : Nat} {f : Nat → Int32} (hg : ax_g h a = some (.inl (t, n, .inl f))) : ax_gi h a t = some (n, f) := by
  unfold ax_gi
  rw [hg]
  exact if_pos rfl
theorem ar_gq {a t n : Nat} {f : Nat → Option Nat} (hg : ax_g h a = some (.inl (t, n, .inr (.inr (.inr (.inr f)))))) : ax_gq h a = some (t, n, f) := by
  unfold ax_gq
  rw [hg]
theorem ar_gn {a t : Nat} {x : vp_A} (hg : ax_g h a = some (.inl (t, x))) : ax_gn h a = some (t, x.1) := by
  unfold ax_gn
  rw [hg]
theorem ar_pos {a : Nat} {c : va_E} (hg : ax_g h a = some c) : ¬ a = 0 := by
  unfold ax_g at hg
  split at hg
  · omega
  · cases hg
theorem ar_getf (n : Nat) {i a ci k : Nat} {fs : List Value} {v : Value} (hd : decode (axt_b mi) pc = .ok (.getfield i, 3)) (hn : pc + 3 = n) (hf : axt_fld (axt_ow mi) i = some (ci, k)) (hg : ax_g h a = some (.inr (ci, fs))) (hv : fs[k]? = some v) (k : ax_A (ax_step L xs) ((mi, n, fr, lo), lv, v :: r, h) post) : ax_A (ax_step L xs) ((mi, pc, fr, lo), lv, .ref a :: r, h) post := by
  subst hn
  exact ar_s hd ((ar_o hf).trans ((ar_o (ar_go hg)).trans (ar_o hv))) ⟨rfl, ax_le.rf, k⟩
theorem ar_putf (n : Nat) {i a ci k : Nat} {fs : List Value} {v : Value} (fs2 : List Value) (hd : decode (axt_b mi) pc = .ok (.putfield i, 3)) (hn : pc + 3 = n) (hf : axt_fld (axt_ow mi) i = some (ci, k)) (hp : axt_pok mi ci k = true) (hg : ax_g h a = some (.inr (ci, fs))) (hk : k < fs.length) (h1 : narrow (axt_fty ci k) v = v) (h2 : fits (axt_fty ci k) v = true) (he : fs.set k v = fs2) (k : ax_A (ax_step L xs) ((mi, n, fr, lo), lv, r, ax_put h a (.inr (ci, fs2))) post) : ax_A (ax_step L xs) ((mi, pc, fr, lo), lv, v :: .ref a :: r, h) post := by
  subst hn
  subst he
  exact ar_s hd ((ar_o hf).trans (ar_o (ar_go hg))) ⟨⟨rfl, hp, hk, h1, h2⟩, ax_le.rf, k⟩
theorem ar_iald (n : Nat) {a N : Nat} {f : Nat → Int32} {i : Int32} (hd : decode (axt_b mi) pc = .ok (.iaload, 1)) (hn : pc + 1 = n) (hg : ax_g h a = some (.inl (0, N, .inl f))) (hi : vp_in i N) (k : ax_A (ax_step L xs) ((mi, n, fr, lo), lv, .int (f i.toNatClampNeg) :: r, h) post) : ax_A (ax_step L xs) ((mi, pc, fr, lo), lv, .int i :: .ref a :: r, h) post := by
  subst hn
  exact ar_s hd ((if_neg (ar_pos hg)).trans (ar_o (ar_gi hg))) ⟨⟨rfl, hi⟩, ax_le.rf, k⟩
theorem ar_sald (n : Nat) {i : Int32} (hd : decode (axt_b mi) pc = .ok (.iaload, 1)) (hn : pc + 1 = n) (hi : vp_in i L) (k : ax_A (ax_step L xs) ((mi, n, fr, lo), lv, .int (xs i.toNatClampNeg) :: r, h) post) : ax_A (ax_step L xs) ((mi, pc, fr, lo), lv, .int i :: .ref 0 :: r, h) post := by
  subst hn
  exact ar_s hd rfl ⟨⟨rfl, hi⟩, ax_le.rf, k⟩
theorem ar_slen (n : Nat) (hd : decode (axt_b mi) pc = .ok (.arraylength, 1)) (hn : pc + 1 = n) (k : ax_A (ax_step L xs) ((mi, n, fr, lo), lv, .int (Int32.ofNat L) :: r, h) post) : ax_A (ax_step L xs) ((mi, pc, fr, lo), lv, .ref 0 :: r, h) post := by
  subst hn
  exact ar_s hd rfl ⟨rfl, ax_le.rf, k⟩
theorem ar_alen (n : Nat) {a t : Nat} {x : vp_A} (hd : decode (axt_b mi) pc = .ok (.arraylength, 1)) (hn : pc + 1 = n) (hg : ax_g h a = some (.inl (t, x))) (ht : t < axt_tys.length) (k : ax_A (ax_step L xs) ((mi, n, fr, lo), lv, .int (Int32.ofNat x.1) :: r, h) post) : ax_A (ax_step L xs) ((mi, pc, fr, lo), lv, .ref a :: r, h) post := by
  subst hn
  exact ar_s hd ((if_neg (ar_pos hg)).trans (ar_o (ar_gn hg))) ⟨⟨rfl, ht⟩, ax_le.rf, k⟩
theorem ar_iast (n : Nat) {a N : Nat} {f : Nat → Int32} {i x : Int32} (hd : decode (axt_b mi) pc = .ok (.iastore, 1)) (hn : pc + 1 = n) (hg : ax_g h a = some (.inl (0, N, .inl f))) (hi : vp_in i N) (k : ax_A (ax_step L xs) ((mi, n, fr, lo), lv, r, ax_put h a (.inl (0, N, .inl (upd f i.toNatClampNeg x)))) post) : ax_A (ax_step L xs) ((mi, pc, fr, lo), lv, .int x :: .int i :: .ref a :: r, h) post := by
  subst hn
  exact ar_s hd (ar_o (ar_gi hg)) ⟨⟨rfl, hi⟩, ax_le.rf, k⟩
theorem ar_m1 {α : Type} {q : Option α} {a : α} {k : α → ax_O} {z : ax_O} (h : q = some a) : ax_o2 q k z = k a := by rw [h]; rfl
theorem ar_m0 {α : Type} {q : Option α} {k : α → ax_O} {z : ax_O} (h : q = none) : ax_o2 q k z = z := by rw [h]; rfl
theorem ar_gi1 {a n : Nat} {f : Nat → Int32} (hg : ax_g h a = some (.inl (2, n, .inl f))) : ax_gi h a 1 = none := by
  unfold ax_gi
  rw [hg]
  exact if_neg (by decide)
theorem ar_bald (n : Nat) {a N : Nat} {f : Nat → Int32} {i : Int32} (hd : decode (axt_b mi) pc = .ok (.baload, 1)) (hn : pc + 1 = n) (hg : ax_g h a = some (.inl (1, N, .inl f))) (hi : vp_in i N) (k : ax_A (ax_step L xs) ((mi, n, fr, lo), lv, .int (f i.toNatClampNeg) :: r, h) post) : ax_A (ax_step L xs) ((mi, pc, fr, lo), lv, .int i :: .ref a :: r, h) post := by
  subst hn
  exact ar_s hd (ar_m1 (ar_gi hg)) ⟨⟨rfl, hi⟩, ax_le.rf, k⟩
theorem ar_zald (n : Nat) {a N : Nat} {f : Nat → Int32} {i : Int32} (hd : decode (axt_b mi) pc = .ok (.baload, 1)) (hn : pc + 1 = n) (hg : ax_g h a = some (.inl (2, N, .inl f))) (hi : vp_in i N) (k : ax_A (ax_step L xs) ((mi, n, fr, lo), lv, .int (f i.toNatClampNeg) :: r, h) post) : ax_A (ax_step L xs) ((mi, pc, fr, lo), lv, .int i :: .ref a :: r, h) post := by
  subst hn
  exact ar_s hd ((ar_m0 (ar_gi1 hg)).trans (ar_o (ar_gi hg))) ⟨⟨rfl, hi⟩, ax_le.rf, k⟩
theorem ar_bast (n : Nat) {a N : Nat} {f : Nat → Int32} {i x : Int32} (hd : decode (axt_b mi) pc = .ok (.bastore, 1)) (hn : pc + 1 = n) (hg : ax_g h a = some (.inl (1, N, .inl f))) (hi : vp_in i N) (k : ax_A (ax_step L xs) ((mi, n, fr, lo), lv, r, ax_put h a (.inl (1, N, .inl (upd f i.toNatClampNeg (vp_nar .byte x))))) post) : ax_A (ax_step L xs) ((mi, pc, fr, lo), lv, .int x :: .int i :: .ref a :: r, h) post := by
  subst hn
  exact ar_s hd (ar_m1 (ar_gi hg)) ⟨⟨rfl, hi⟩, ax_le.rf, k⟩
theorem ar_zast (n : Nat) {a N : Nat} {f : Nat → Int32} {i x : Int32} (hd : decode (axt_b mi) pc = .ok (.bastore, 1)) (hn : pc + 1 = n) (hg : ax_g h a = some (.inl (2, N, .inl f))) (hi : vp_in i N) (k : ax_A (ax_step L xs) ((mi, n, fr, lo), lv, r, ax_put h a (.inl (2, N, .inl (upd f i.toNatClampNeg (vp_nar .boolean x))))) post) : ax_A (ax_step L xs) ((mi, pc, fr, lo), lv, .int x :: .int i :: .ref a :: r, h) post := by
  subst hn
  exact ar_s hd ((ar_m0 (ar_gi1 hg)).trans (ar_o (ar_gi hg))) ⟨⟨rfl, hi⟩, ax_le.rf, k⟩
theorem ar_aald (n : Nat) {a t N ci : Nat} {f : Nat → Option Nat} {i : Int32} (hd : decode (axt_b mi) pc = .ok (.aaload, 1)) (hn : pc + 1 = n) (hg : ax_g h a = some (.inl (t, N, .inr (.inr (.inr (.inr f)))))) (hc : axt_ec t = some ci) (hi : vp_in i N) (k : ax_A (ax_step L xs) ((mi, n, fr, lo), lv, va_rf (f i.toNatClampNeg) :: r, h) post) : ax_A (ax_step L xs) ((mi, pc, fr, lo), lv, .int i :: .ref a :: r, h) post := by
  subst hn
  exact ar_s hd ((ar_o (ar_gq hg)).trans (ar_o hc)) ⟨⟨rfl, hi⟩, ax_le.rf, k⟩
theorem ar_aast (n : Nat) {a t N ci x : Nat} {f : Nat → Option Nat} {i : Int32} {fs : List Value} (hd : decode (axt_b mi) pc = .ok (.aastore, 1)) (hn : pc + 1 = n) (hg : ax_g h a = some (.inl (t, N, .inr (.inr (.inr (.inr f)))))) (hc : axt_ec t = some ci) (hx : ax_g h x = some (.inr (ci, fs))) (hi : vp_in i N) (k : ax_A (ax_step L xs) ((mi, n, fr, lo), lv, r, ax_put h a (.inl (t, N, .inr (.inr (.inr (.inr (va_up f i.toNatClampNeg (some x)))))))) post) : ax_A (ax_step L xs) ((mi, pc, fr, lo), lv, .ref x :: .int i :: .ref a :: r, h) post := by
  subst hn
  exact ar_s hd ((ar_o (ar_gq hg)).trans ((ar_o hc).trans (ar_o (ar_go hx)))) ⟨⟨rfl, hi⟩, ax_le.rf, k⟩
theorem ar_new (n : Nat) {i ci : Nat} (hd : decode (axt_b mi) pc = .ok (.new i, 3)) (hn : pc + 3 = n) (hc : axt_new (axt_ow mi) i = some ci) (k : ax_A (ax_step L xs) ((mi, n, fr, lo), lv, .ref h.1 :: r, ax_push h (axt_N ci) (.inr (ci, axt_df ci))) post) : ax_A (ax_step L xs) ((mi, pc, fr, lo), lv, r, h) post := by
  subst hn
  exact ar_s hd (ar_o hc) ⟨rfl, ⟨Nat.le_succ _, Nat.le_add_right _ _⟩, k⟩
theorem ar_newi (n : Nat) {x : Int32} {N : Nat} (hd : decode (axt_b mi) pc = .ok (.newarray .int, 2)) (hn : pc + 2 = n) (h1 : ¬ x < 0) (hN : x.toNatClampNeg = N) (h2 : N * 4 ≤ 536870912) (k : ax_A (ax_step L xs) ((mi, n, fr, lo), lv, .ref h.1 :: r, ax_push h N (.inl (0, N, .inl (fun _ => 0)))) post) : ax_A (ax_step L xs) ((mi, pc, fr, lo), lv, .int x :: r, h) post := by
  subst hn
  subst hN
  exact ar_s hd rfl ⟨⟨rfl, h1, h2⟩, ⟨Nat.le_succ _, Nat.le_add_right _ _⟩, k⟩
theorem ar_newb (n : Nat) {x : Int32} {N : Nat} (hd : decode (axt_b mi) pc = .ok (.newarray .byte, 2)) (hn : pc + 2 = n) (h1 : ¬ x < 0) (hN : x.toNatClampNeg = N) (h2 : N * 4 ≤ 536870912) (k : ax_A (ax_step L xs) ((mi, n, fr, lo), lv, .ref h.1 :: r, ax_push h N (.inl (1, N, .inl (fun _ => 0)))) post) : ax_A (ax_step L xs) ((mi, pc, fr, lo), lv, .int x :: r, h) post := by
  subst hn
  subst hN
  exact ar_s hd rfl ⟨⟨rfl, h1, h2⟩, ⟨Nat.le_succ _, Nat.le_add_right _ _⟩, k⟩
theorem ar_newz (n : Nat) {x : Int32} {N : Nat} (hd : decode (axt_b mi) pc = .ok (.newarray .boolean, 2)) (hn : pc + 2 = n) (h1 : ¬ x < 0) (hN : x.toNatClampNeg = N) (h2 : N * 4 ≤ 536870912) (k : ax_A (ax_step L xs) ((mi, n, fr, lo), lv, .ref h.1 :: r, ax_push h N (.inl (2, N, .inl (fun _ => 0)))) post) : ax_A (ax_step L xs) ((mi, pc, fr, lo), lv, .int x :: r, h) post := by
  subst hn
  subst hN
  exact ar_s hd rfl ⟨⟨rfl, h1, h2⟩, ⟨Nat.le_succ _, Nat.le_add_right _ _⟩, k⟩
theorem ar_newq (n : Nat) {i t : Nat} {x : Int32} {N : Nat} (hd : decode (axt_b mi) pc = .ok (.anewarray i, 3)) (hn : pc + 3 = n) (ht : axt_anw (axt_ow mi) i = some t) (h1 : ¬ x < 0) (hN : x.toNatClampNeg = N) (h2 : N * 4 ≤ 536870912) (k : ax_A (ax_step L xs) ((mi, n, fr, lo), lv, .ref h.1 :: r, ax_push h N (.inl (t, N, .inr (.inr (.inr (.inr (fun _ => none))))))) post) : ax_A (ax_step L xs) ((mi, pc, fr, lo), lv, .int x :: r, h) post := by
  subst hn
  subst hN
  exact ar_s hd (ar_o ht) ⟨⟨rfl, h1, h2⟩, ⟨Nat.le_succ _, Nat.le_add_right _ _⟩, k⟩
theorem ar_iret {x : Int32} {ty : FieldType} (hd : decode (axt_b mi) pc = .ok (.ireturn, 1)) (ht : axt_rt mi = some ty) (hn : narrow ty (.int x) = .int x) (k : post (some (.int x)) h) : ax_A (ax_step L xs) ((mi, pc, fr, lo), lv, [.int x], h) post := ar_s hd (ar_o ht) ⟨⟨rfl, rfl, hn⟩, ax_le.rf, k⟩
theorem ar_lret {x : Int64} (hd : decode (axt_b mi) pc = .ok (.lreturn, 1)) (ht : axt_rt mi = some .long) (k : post (some (.long x)) h) : ax_A (ax_step L xs) ((mi, pc, fr, lo), lv, [.long x], h) post := ar_s hd rfl ⟨⟨rfl, rfl, ht⟩, ax_le.rf, k⟩
theorem ar_aret {x : Nat} {ty : FieldType} (hd : decode (axt_b mi) pc = .ok (.areturn, 1)) (ht : axt_rt mi = some ty) (hn : (∃ n, ty = .object n) ∨ ∃ t, ty = .array t) (k : post (some (.ref x)) h) : ax_A (ax_step L xs) ((mi, pc, fr, lo), lv, [.ref x], h) post := ar_s hd (ar_o ht) ⟨⟨rfl, rfl, hn⟩, ax_le.rf, k⟩
theorem ar_ret (hd : decode (axt_b mi) pc = .ok (.return_, 1)) (ht : axt_rt mi = none) (k : post none h) : ax_A (ax_step L xs) ((mi, pc, fr, lo), lv, [], h) post := ar_s hd rfl ⟨⟨rfl, rfl, ht⟩, ax_le.rf, k⟩
theorem ar_pN {st as : List Value} {n : Nat} (e : st = as.reverse ++ r) (hn : as.length = n) : ax_pN st n = some (as, r) := by
  subst e
  subst hn
  unfold ax_pN
  rw [if_pos (by simp)]
  simp
/-- what a contract says: with enough frames and words, method cm at arguments as and heap h comes to an end with Q -/
def ax_M (L : Nat) (xs : Nat → Int32) (cm fr lo : Nat) (as : List Value) (h : ax_H) (Q : ax_Po) : Prop := ax_A (ax_step L xs) ((cm, 0, fr, lo), lv_args 0 as, [], h) Q
theorem ar_call {cm na kd fr2 lo2 : Nat} {st as : List Value} {ins : Jvm.ClassFile.Instr} {Q : ax_Po} (n : Nat) (hd : decode (axt_b mi) pc = .ok (ins, 3)) (ho : ax_ins L xs ins 3 (mi, pc, fr, lo) lv st h = ax_call (mi, pc, fr, lo) lv r as h cm) (hn : pc + 3 = n) (h1 : fr2 + 1 = fr) (h2 : lo2 + (19 + axt_mx cm) = lo) (h3 : (r.map fun v => v.category).sum ≤ 8) (h4 : (lg_sl as).length ≤ axt_mx cm)
    (hM : ax_M L xs cm fr2 lo2 as h Q) (k : ∀ v h', Q v h' → ax_A (ax_step L xs) ((mi, n, fr, lo), lv, v.toList ++ r, h') post) : ax_A (ax_step L xs) ((mi, pc, fr, lo), lv, st, h) post := by
  subst hn
  refine ar_s hd ho ⟨⟨by show 1 ≤ fr; omega, by show 19 + axt_mx cm ≤ lo; omega, h3, h4⟩, ax_le.rf, ?_⟩
  have e1 : fr - 1 = fr2 := by omega
  have e2 : lo - (19 + axt_mx cm) = lo2 := by omega
  show ax_A (ax_step L xs) ((cm, 0, fr - 1, lo - (19 + axt_mx cm)), lv_args 0 as, [], h) _
  rw [e1, e2]
  exact ax_A.post hM (fun v h' q => ⟨ax_le.rf, k v h' q⟩)
theorem ar_hoS {cm na i : Nat} {st as : List Value} (hm : axt_mth (axt_ow mi) i = some (0, cm, na)) (e : st = as.reverse ++ r) (hn : as.length = na) : ax_ins L xs (.invokestatic i) 3 (mi, pc, fr, lo) lv st h = ax_call (mi, pc, fr, lo) lv r as h cm :=
  (ar_o hm).trans (ar_o (ar_pN e hn))
theorem ar_hoI {cm na i a : Nat} {st as : List Value} (hm : axt_mth (axt_ow mi) i = some (1, cm, na)) (e : st = as.reverse ++ .ref a :: r) (hn : as.length = na) : ax_ins L xs (.invokespecial i) 3 (mi, pc, fr, lo) lv st h = ax_call (mi, pc, fr, lo) lv r (.ref a :: as) h cm :=
  (ar_o hm).trans (ar_o (ar_pN e hn))
theorem ar_hoV {cm na i a : Nat} {st as fs : List Value} (hm : axt_mth (axt_ow mi) i = some (2, cm, na)) (e : st = as.reverse ++ .ref a :: r) (hn : as.length = na) (hg : ax_g h a = some (.inr (axt_ci cm, fs))) : ax_ins L xs (.invokevirtual i) 3 (mi, pc, fr, lo) lv st h = ax_call (mi, pc, fr, lo) lv r (.ref a :: as) h cm :=
  (ar_o hm).trans ((ar_o (ar_pN e hn)).trans (ar_o (ar_go hg)))
theorem ar_objI {i a x y : Nat} (n : Nat) (hd : decode (axt_b mi) pc = .ok (.invokespecial i, 3)) (hm : axt_mth (axt_ow mi) i = some (3, x, y)) (hn : pc + 3 = n) (h1 : 1 ≤ fr) (h2 : (r.map fun v => v.category).sum + 12 ≤ lo) (k : ax_A (ax_step L xs) ((mi, n, fr, lo), lv, r, h) post) : ax_A (ax_step L xs) ((mi, pc, fr, lo), lv, .ref a :: r, h) post := by
  subst hn
  exact ar_s hd (ar_o hm) ⟨⟨h1, h2⟩, ax_le.rf, k⟩
theorem ar_max {i x y : Nat} {u v w : Int32} (n : Nat) (hd : decode (axt_b mi) pc = .ok (.invokestatic i, 3)) (hm : axt_mth (axt_ow mi) i = some (4, x, y)) (hn : pc + 3 = n) (h1 : 1 ≤ fr) (h2 : (r.map fun v => v.category).sum + 13 ≤ lo) (hw : (if u < v then v else u) = w) (k : ax_A (ax_step L xs) ((mi, n, fr, lo), lv, .int w :: r, h) post) : ax_A (ax_step L xs) ((mi, pc, fr, lo), lv, .int v :: .int u :: r, h) post := by
  subst hn
  subst hw
  exact ar_s hd (ar_o hm) ⟨⟨h1, h2⟩, ax_le.rf, k⟩
theorem ar_min {i x y : Nat} {u v w : Int32} (n : Nat) (hd : decode (axt_b mi) pc = .ok (.invokestatic i, 3)) (hm : axt_mth (axt_ow mi) i = some (5, x, y)) (hn : pc + 3 = n) (h1 : 1 ≤ fr) (h2 : (r.map fun v => v.category).sum + 13 ≤ lo) (hw : (if v < u then v else u) = w) (k : ax_A (ax_step L xs) ((mi, n, fr, lo), lv, .int w :: r, h) post) : ax_A (ax_step L xs) ((mi, pc, fr, lo), lv, .int v :: .int u :: r, h) post := by
  subst hn
  subst hw
  exact ar_s hd (ar_o hm) ⟨⟨h1, h2⟩, ax_le.rf, k⟩
theorem ar_copy {i x y : Nat} {nn dp sp : Int32} {d a N1 N2 : Nat} {f g : Nat → Int32} (n : Nat) (hd : decode (axt_b mi) pc = .ok (.invokestatic i, 3)) (hm : axt_mth (axt_ow mi) i = some (6, x, y)) (hn : pc + 3 = n) (h1 : 1 ≤ fr) (h2 : (r.map fun v => v.category).sum + (nativeFrameWords "java/lang/System" "arraycopy" 5 + 11) ≤ lo) (g1 : ax_g h a = some (.inl (0, N1, .inl f))) (g2 : ax_g h d = some (.inl (0, N2, .inl g))) (k1 : ¬ sp < 0) (k2 : ¬ dp < 0) (k3 : ¬ nn < 0) (k4 : sp.toNatClampNeg + nn.toNatClampNeg ≤ N1) (k5 : dp.toNatClampNeg + nn.toNatClampNeg ≤ N2)
    (k : ax_A (ax_step L xs) ((mi, n, fr, lo), lv, r, ax_put h d (.inl (0, N2, .inl (va_cpy f g sp.toNatClampNeg dp.toNatClampNeg nn.toNatClampNeg)))) post) : ax_A (ax_step L xs) ((mi, pc, fr, lo), lv, .int nn :: .int dp :: .ref d :: .int sp :: .ref a :: r, h) post := by
  subst hn
  exact ar_s hd ((ar_o hm).trans ((ar_o (ar_gi g1)).trans (ar_o (ar_gi g2)))) ⟨⟨h1, h2, k1, k2, k3, k4, k5⟩, ax_le.rf, k⟩
end AR
-- the heap: looks behind writes
theorem ag_same {h : ax_H} {a : Nat} {c c' : va_E} (g : ax_g h a = some c) : ax_g (ax_put h a c') a = some c' := by
  unfold ax_g at g ⊢
  split at g
  · next q =>
    rw [if_pos (show 0 < a ∧ a < (ax_put h a c').1 from q)]
    show some (if a = a then c' else _) = _
    rw [if_pos rfl]
  · cases g
theorem ag_other {h : ax_H} {a b : Nat} {c' : va_E} (hab : b ≠ a) : ax_g (ax_put h a c') b = ax_g h b := by
  unfold ax_g
  show (if 0 < b ∧ b < h.1 then some (if b = a then c' else h.2.2 b) else none) = _
  rw [if_neg hab]
theorem ag_new {h : ax_H} {n : Nat} {c : va_E} (h0 : 0 < h.1) : ax_g (ax_push h n c) h.1 = some c := by
  unfold ax_g
  show (if 0 < h.1 ∧ h.1 < h.1 + 1 then some (if h.1 = h.1 then c else h.2.2 h.1) else none) = _
  rw [if_pos ⟨h0, Nat.lt_succ_self _⟩, if_pos rfl]
theorem ag_old {h : ax_H} {n a : Nat} {c e : va_E} (g : ax_g h a = some e) : ax_g (ax_push h n c) a = some e := by
  unfold ax_g at g ⊢
  split at g
  · next q =>
    show (if 0 < a ∧ a < h.1 + 1 then some (if a = h.1 then c else h.2.2 a) else none) = _
    rw [if_pos ⟨q.1, by omega⟩, if_neg (by omega)]
    exact g
  · cases g
theorem ag_put2 {h : ax_H} {a : Nat} {c d : va_E} : ax_put (ax_put h a c) a d = ax_put h a d := by
  show (h.1, h.2.1, va_up (va_up h.2.2 a c) a d) = (h.1, h.2.1, va_up h.2.2 a d)
  rw [bx_uu]
theorem ag_ne {h : ax_H} {a b : Nat} {c d : va_E} (g1 : ax_g h a = some c) (g2 : ax_g h b = some d) (hcd : c ≠ d) : a ≠ b := by
  intro e
  subst e
  exact hcd (Option.some.inj (g1.symm.trans g2))


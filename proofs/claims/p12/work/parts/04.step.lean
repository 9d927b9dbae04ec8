/-! THE STEP: one instruction over handles. Handle 0 is the script; handle i > 0 is a cell that the run made. Tables (axt_..) are printed by program ahead of this part. -/
def ax_lk : List (Nat × Value) → Nat → Option Value
  | [], _ => none
  | q :: t, i => if q.1 = i then some q.2 else ax_lk t i
def ax_si : List (Nat × Value) → Nat → Value → List (Nat × Value)
  | [], i, v => [(i, v)]
  | q :: t, i, v => if q.1 < i then q :: ax_si t i v else (i, v) :: q :: t
def ax_st1 (ls : List (Nat × Value)) (i : Nat) (v : Value) : List (Nat × Value) := ax_si (ls.filter (fun q => !(q.1 == i) && !(q.1 + 1 == i && q.2.category == 2))) i v
def ax_st2 (ls : List (Nat × Value)) (i : Nat) (v : Value) : List (Nat × Value) := ax_si (ls.filter (fun q => !(q.1 == i) && (!(q.1 == i + 1) && !(q.1 + 1 == i && q.2.category == 2)))) i v
def ax_no : ax_O := (False, .inr (.inl (none, (0, 0, fun _ => .inr (0, [])))))
def ax_o {α : Type} (q : Option α) (k : α → ax_O) : ax_O := match q with
  | some a => k a
  | none => ax_no
def ax_o2 {α : Type} (q : Option α) (k : α → ax_O) (z : ax_O) : ax_O := match q with
  | some a => k a
  | none => z
def ax_pI : List Value → Option (Int32 × List Value)
  | .int x :: r => some (x, r)
  | _ => none
def ax_pL : List Value → Option (Int64 × List Value)
  | .long x :: r => some (x, r)
  | _ => none
def ax_pR : List Value → Option (Nat × List Value)
  | .ref x :: r => some (x, r)
  | _ => none
def ax_pV : List Value → Option (Value × List Value)
  | x :: r => some (x, r)
  | _ => none
def ax_p2 (st : List Value) : Option (Int32 × Int32 × List Value) := (ax_pI st).bind fun a => (ax_pI a.2).bind fun b => some (a.1, b.1, b.2)
def ax_pLL (st : List Value) : Option (Int64 × Int64 × List Value) := (ax_pL st).bind fun a => (ax_pL a.2).bind fun b => some (a.1, b.1, b.2)
def ax_pIL (st : List Value) : Option (Int32 × Int64 × List Value) := (ax_pI st).bind fun a => (ax_pL a.2).bind fun b => some (a.1, b.1, b.2)
def ax_pIR (st : List Value) : Option (Int32 × Nat × List Value) := (ax_pI st).bind fun a => (ax_pR a.2).bind fun b => some (a.1, b.1, b.2)
def ax_pIIR (st : List Value) : Option (Int32 × Int32 × Nat × List Value) := (ax_pI st).bind fun a => (ax_pIR a.2).bind fun b => some (a.1, b)
def ax_pRIR (st : List Value) : Option (Nat × Int32 × Nat × List Value) := (ax_pR st).bind fun a => (ax_pIR a.2).bind fun b => some (a.1, b)
def ax_pVR (st : List Value) : Option (Value × Nat × List Value) := (ax_pV st).bind fun a => (ax_pR a.2).bind fun b => some (a.1, b.1, b.2)
def ax_pVV (st : List Value) : Option (Value × Value × List Value) := (ax_pV st).bind fun a => (ax_pV a.2).bind fun b => some (a.1, b.1, b.2)
def ax_pVVV (st : List Value) : Option (Value × Value × Value × List Value) := (ax_pV st).bind fun a => (ax_pVV a.2).bind fun b => some (a.1, b)
/-- n ints, n, dp, d, sp, s: the arguments of arraycopy -/
def ax_pC (st : List Value) : Option (Int32 × Int32 × Nat × Int32 × Nat × List Value) := (ax_pI st).bind fun a => (ax_pIR a.2).bind fun b => (ax_pIR b.2.2).bind fun c => some (a.1, b.1, b.2.1, c)
def ax_lkI (ls : List (Nat × Value)) (i : Nat) : Option Int32 := match ax_lk ls i with
  | some (.int x) => some x
  | _ => none
def ax_lkL (ls : List (Nat × Value)) (i : Nat) : Option Int64 := match ax_lk ls i with
  | some (.long x) => some x
  | _ => none
def ax_lkR (ls : List (Nat × Value)) (i : Nat) : Option Nat := match ax_lk ls i with
  | some (.ref x) => some x
  | _ => none
/-- the heap -/
def ax_g (h : ax_H) (a : Nat) : Option va_E := if 0 < a ∧ a < h.1 then some (h.2.2 a) else none
def ax_put (h : ax_H) (a : Nat) (c : va_E) : ax_H := (h.1, h.2.1, va_up h.2.2 a c)
def ax_push (h : ax_H) (n : Nat) (c : va_E) : ax_H := (h.1 + 1, h.2.1 + n, va_up h.2.2 h.1 c)
def ax_go (h : ax_H) (a ci : Nat) : Option (List Value) := match ax_g h a with
  | some (.inr (c, fs)) => if c = ci then some fs else none
  | _ => none
def ax_gi (h : ax_H) (a t : Nat) : Option (Nat × (Nat → Int32)) := match ax_g h a with
  | some (.inl (t', n, .inl f)) => if t' = t then some (n, f) else none
  | _ => none
def ax_gq (h : ax_H) (a : Nat) : Option (Nat × Nat × (Nat → Option Nat)) := match ax_g h a with
  | some (.inl (t, n, .inr (.inr (.inr (.inr f))))) => some (t, n, f)
  | _ => none
def ax_gn (h : ax_H) (a : Nat) : Option (Nat × Nat) := match ax_g h a with
  | some (.inl (t, x)) => some (t, x.1)
  | _ => none
def ax_nx (c : Nat × Nat × Nat × Nat) (len : Nat) (ls : List (Nat × Value)) (st : List Value) (h : ax_H) : ax_S := ((c.1, c.2.1 + len, c.2.2), ls, st, h)
def ax_jp (c : Nat × Nat × Nat × Nat) (off : Int) (ls : List (Nat × Value)) (st : List Value) (h : ax_H) : ax_S := ((c.1, ((c.2.1 : Int) + off).toNat, c.2.2), ls, st, h)
def ax_cmp (cd : Jvm.ClassFile.Cond) (x y : Int32) : Bool := match cd with
  | .eq => decide (x = y)
  | .ne => decide (¬ x = y)
  | .lt => decide (x < y)
  | .ge => decide (y ≤ x)
  | .gt => decide (y < x)
  | .le => decide (x ≤ y)
def ax_aty : Jvm.ClassFile.ArrayType → Option (Nat × FieldType)
  | .int => some (0, .int)
  | .byte => some (1, .byte)
  | .boolean => some (2, .boolean)
  | _ => none
/-- a call of method cm with arguments as, rest below them -/
def ax_call (c : Nat × Nat × Nat × Nat) (ls : List (Nat × Value)) (rest as : List Value) (h : ax_H) (cm : Nat) : ax_O :=
  ((1 ≤ c.2.2.1 ∧ 19 + axt_mx cm ≤ c.2.2.2 ∧ (rest.map fun v => v.category).sum ≤ 8 ∧ (lg_sl as).length ≤ axt_mx cm), .inr (.inr (((cm, 0, c.2.2.1 - 1, c.2.2.2 - (19 + axt_mx cm)), lv_args 0 as, [], h), fun v h' => (((c.1, c.2.1 + 3, c.2.2), ls, v.toList ++ rest, h') : ax_S))))
/-- n values off the stack, the first argument first -/
def ax_pN (st : List Value) (n : Nat) : Option (List Value × List Value) := if n ≤ st.length then some ((st.take n).reverse, st.drop n) else none
def ax_inv (kd : Nat) (c : Nat × Nat × Nat × Nat) (ls : List (Nat × Value)) (st : List Value) (h : ax_H) (q : Nat × Nat × Nat) : ax_O :=
  if q.1 = kd then (if kd = 0 then ax_o (ax_pN st q.2.2) fun a => ax_call c ls a.2 a.1 h q.2.1
    else if kd = 1 then ax_o (ax_pN st q.2.2) fun a => ax_o (ax_pR a.2) fun r => ax_call c ls r.2 (.ref r.1 :: a.1) h q.2.1
    else ax_o (ax_pN st q.2.2) fun a => ax_o (ax_pR a.2) fun r => ax_o (ax_go h r.1 (axt_ci q.2.1)) fun _ => ax_call c ls r.2 (.ref r.1 :: a.1) h q.2.1)
  else if q.1 = 3 ∧ kd = 1 then ax_o (ax_pR st) fun r => ((1 ≤ c.2.2.1 ∧ (r.2.map fun v => v.category).sum + 12 ≤ c.2.2.2), .inl (ax_nx c 3 ls r.2 h))
  else if q.1 = 4 ∧ kd = 0 then ax_o (ax_p2 st) fun r => ((1 ≤ c.2.2.1 ∧ (r.2.2.map fun v => v.category).sum + 13 ≤ c.2.2.2), .inl (ax_nx c 3 ls (.int (if r.2.1 < r.1 then r.1 else r.2.1) :: r.2.2) h))
  else if q.1 = 5 ∧ kd = 0 then ax_o (ax_p2 st) fun r => ((1 ≤ c.2.2.1 ∧ (r.2.2.map fun v => v.category).sum + 13 ≤ c.2.2.2), .inl (ax_nx c 3 ls (.int (if r.1 < r.2.1 then r.1 else r.2.1) :: r.2.2) h))
  else if q.1 = 6 ∧ kd = 0 then ax_o (ax_pC st) fun r => ax_o (ax_gi h r.2.2.2.2.1 0) fun x => ax_o (ax_gi h r.2.2.1 0) fun y =>
    ((1 ≤ c.2.2.1 ∧ (r.2.2.2.2.2.map fun v => v.category).sum + (nativeFrameWords "java/lang/System" "arraycopy" 5 + 11) ≤ c.2.2.2 ∧ ¬ r.2.2.2.1 < 0 ∧ ¬ r.2.1 < 0 ∧ ¬ r.1 < 0 ∧ r.2.2.2.1.toNatClampNeg + r.1.toNatClampNeg ≤ x.1 ∧ r.2.1.toNatClampNeg + r.1.toNatClampNeg ≤ y.1),
      .inl (ax_nx c 3 ls r.2.2.2.2.2 (ax_put h r.2.2.1 (.inl (0, y.1, .inl (va_cpy x.2 y.2 r.2.2.2.1.toNatClampNeg r.2.1.toNatClampNeg r.1.toNatClampNeg))))))
  else ax_no
def ax_ins (L : Nat) (xs : Nat → Int32) (ins : Jvm.ClassFile.Instr) (len : Nat) (c : Nat × Nat × Nat × Nat) (ls : List (Nat × Value)) (st : List Value) (h : ax_H) : ax_O :=
  let N := fun (k : Nat) (ls' : List (Nat × Value)) (st' : List Value) => ((len = k, .inl (ax_nx c k ls' st' h)) : ax_O)
  let B := fun (f : Int32 → Int32 → Int32) => ax_o (ax_p2 st) fun q => N 1 ls (.int (f q.2.1 q.1) :: q.2.2)
  let BL := fun (f : Int64 → Int64 → Int64) => ax_o (ax_pLL st) fun q => N 1 ls (.long (f q.2.1 q.1) :: q.2.2)
  let SL := fun (f : Int64 → Int32 → Int64) => ax_o (ax_pIL st) fun q => N 1 ls (.long (f q.2.1 q.1) :: q.2.2)
  match ins with
  | .iconst n => N 1 ls (.int (Int32.ofInt n) :: st)
  | .bipush n => N 2 ls (.int (Int8.ofInt n).toInt32 :: st)
  | .sipush n => N 3 ls (.int (Int16.ofInt n).toInt32 :: st)
  | .lconst n => N 1 ls (.long (Int64.ofNat (n : Nat)) :: st)
  | .ldc i => ax_o (axt_cst (axt_ow c.1) i) fun v => N 2 ls (.int v :: st)
  | .ldc_w i => ax_o (axt_cst (axt_ow c.1) i) fun v => N 3 ls (.int v :: st)
  | .ldc2_w i => ax_o (axt_cstl (axt_ow c.1) i) fun v => N 3 ls (.long v :: st)
  | .iload i => ax_o (ax_lkI ls i) fun v => N 2 ls (.int v :: st)
  | .iload_n i => ax_o (ax_lkI ls i) fun v => N 1 ls (.int v :: st)
  | .lload i => ax_o (ax_lkL ls i) fun v => N 2 ls (.long v :: st)
  | .lload_n i => ax_o (ax_lkL ls i) fun v => N 1 ls (.long v :: st)
  | .aload i => ax_o (ax_lkR ls i) fun v => N 2 ls (.ref v :: st)
  | .aload_n i => ax_o (ax_lkR ls i) fun v => N 1 ls (.ref v :: st)
  | .istore i => ax_o (ax_pI st) fun q => ((len = 2 ∧ i < axt_mx c.1), .inl (ax_nx c 2 (ax_st1 ls i (.int q.1)) q.2 h))
  | .istore_n i => ax_o (ax_pI st) fun q => ((len = 1 ∧ (i : Nat) < axt_mx c.1), .inl (ax_nx c 1 (ax_st1 ls i (.int q.1)) q.2 h))
  | .lstore i => ax_o (ax_pL st) fun q => ((len = 2 ∧ i + 1 < axt_mx c.1), .inl (ax_nx c 2 (ax_st2 ls i (.long q.1)) q.2 h))
  | .lstore_n i => ax_o (ax_pL st) fun q => ((len = 1 ∧ (i : Nat) + 1 < axt_mx c.1), .inl (ax_nx c 1 (ax_st2 ls i (.long q.1)) q.2 h))
  | .astore i => ax_o (ax_pR st) fun q => ((len = 2 ∧ i < axt_mx c.1), .inl (ax_nx c 2 (ax_st1 ls i (.ref q.1)) q.2 h))
  | .astore_n i => ax_o (ax_pR st) fun q => ((len = 1 ∧ (i : Nat) < axt_mx c.1), .inl (ax_nx c 1 (ax_st1 ls i (.ref q.1)) q.2 h))
  | .iinc i n => ax_o (ax_lkI ls i) fun v => ((len = 3 ∧ i < axt_mx c.1), .inl (ax_nx c 3 (ax_st1 ls i (.int (v + Int32.ofInt n))) st h))
  | .iadd => B (fun x y => x + y)
  | .isub => B (fun x y => x - y)
  | .imul => B (fun x y => x * y)
  | .iand => B (fun x y => x &&& y)
  | .ior => B (fun x y => x ||| y)
  | .ixor => B (fun x y => x ^^^ y)
  | .ishl => B (fun x y => x <<< (y &&& 31))
  | .ishr => B (fun x y => x >>> (y &&& 31))
  | .iushr => B (fun x y => (x.toUInt32 >>> (y.toUInt32 &&& Int32.toUInt32 31)).toInt32)
  | .idiv => ax_o (ax_p2 st) fun q => ((len = 1 ∧ ¬ q.1 = 0), .inl (ax_nx c 1 ls (.int (q.2.1 / q.1) :: q.2.2) h))
  | .irem => ax_o (ax_p2 st) fun q => ((len = 1 ∧ ¬ q.1 = 0), .inl (ax_nx c 1 ls (.int (q.2.1 - q.2.1 / q.1 * q.1) :: q.2.2) h))
  | .ineg => ax_o (ax_pI st) fun q => N 1 ls (.int (-q.1) :: q.2)
  | .ladd => BL (fun x y => x + y)
  | .lsub => BL (fun x y => x - y)
  | .lmul => BL (fun x y => x * y)
  | .land => BL (fun x y => x &&& y)
  | .lor => BL (fun x y => x ||| y)
  | .lxor => BL (fun x y => x ^^^ y)
  | .lshl => SL (fun x y => x <<< (y.toInt64 &&& 63))
  | .lshr => SL (fun x y => x >>> (y.toInt64 &&& 63))
  | .lushr => SL (fun x y => (x.toUInt64 >>> (y.toInt64.toUInt64 &&& Int64.toUInt64 63)).toInt64)
  | .i2l => ax_o (ax_pI st) fun q => N 1 ls (.long q.1.toInt64 :: q.2)
  | .l2i => ax_o (ax_pL st) fun q => N 1 ls (.int q.1.toInt32 :: q.2)
  | .i2b => ax_o (ax_pI st) fun q => N 1 ls (.int q.1.toInt8.toInt32 :: q.2)
  | .lcmp => ax_o (ax_pLL st) fun q => N 1 ls (.int (lg_cmp q.2.1 q.1) :: q.2.2)
  | .dup => ax_o (ax_pV st) fun q => ((len = 1 ∧ q.1.category = 1), .inl (ax_nx c 1 ls (q.1 :: q.1 :: q.2) h))
  | .pop => ax_o (ax_pV st) fun q => ((len = 1 ∧ q.1.category = 1), .inl (ax_nx c 1 ls q.2 h))
  | .dup_x1 => ax_o (ax_pVV st) fun q => ((len = 1 ∧ q.1.category = 1 ∧ q.2.1.category = 1), .inl (ax_nx c 1 ls (q.1 :: q.2.1 :: q.1 :: q.2.2) h))
  | .dup_x2 => ax_o (ax_pVVV st) fun q => ((len = 1 ∧ q.1.category = 1 ∧ q.2.1.category = 1 ∧ q.2.2.1.category = 1), .inl (ax_nx c 1 ls (q.1 :: q.2.1 :: q.2.2.1 :: q.1 :: q.2.2.2) h))
  | .dup2 => ax_o (ax_pVV st) fun q => ((len = 1 ∧ q.1.category = 1 ∧ q.2.1.category = 1), .inl (ax_nx c 1 ls (q.1 :: q.2.1 :: q.1 :: q.2.1 :: q.2.2) h))
  | .goto off => ((len = 3 ∧ 0 ≤ (c.2.1 : Int) + off), .inl (ax_jp c off ls st h))
  | .if_icmp cd off => ax_o (ax_p2 st) fun q => ((len = 3 ∧ 0 ≤ (c.2.1 : Int) + off), .inl (if ax_cmp cd q.2.1 q.1 = true then ax_jp c off ls q.2.2 h else ax_nx c 3 ls q.2.2 h))
  | .ifCond cd off => ax_o (ax_pI st) fun q => ((len = 3 ∧ 0 ≤ (c.2.1 : Int) + off), .inl (if ax_cmp cd q.1 0 = true then ax_jp c off ls q.2 h else ax_nx c 3 ls q.2 h))
  | .tableswitch d lo hi offs => ax_o (ax_pI st) fun q => if q.1.toInt < lo ∨ hi < q.1.toInt then ((0 ≤ (c.2.1 : Int) + d), .inl (ax_jp c d ls q.2 h)) else ax_o (offs[(q.1.toInt - lo).toNat]?) fun off => ((0 ≤ (c.2.1 : Int) + off), .inl (ax_jp c off ls q.2 h))
  | .lookupswitch d ps => ax_o (ax_pI st) fun q => (((ps.toList.zip (ps.toList.drop 1)).all (fun (a, next) => a.1 < next.1) = true ∧ 0 ≤ (c.2.1 : Int) + Op.lookupswitch.offset ps.toList d q.1.toInt), .inl (ax_jp c (Op.lookupswitch.offset ps.toList d q.1.toInt) ls q.2 h))
  | .getfield i => ax_o (ax_pR st) fun q => ax_o (axt_fld (axt_ow c.1) i) fun f => ax_o (ax_go h q.1 f.1) fun fs => ax_o (fs[f.2]?) fun v => N 3 ls (v :: q.2)
  | .putfield i => ax_o (ax_pVR st) fun q => ax_o (axt_fld (axt_ow c.1) i) fun f => ax_o (ax_go h q.2.1 f.1) fun fs => ((len = 3 ∧ axt_pok c.1 f.1 f.2 = true ∧ f.2 < fs.length ∧ narrow (axt_fty f.1 f.2) q.1 = q.1 ∧ fits (axt_fty f.1 f.2) q.1 = true), .inl (ax_nx c 3 ls q.2.2 (ax_put h q.2.1 (.inr (f.1, fs.set f.2 q.1)))))
  | .iaload => ax_o (ax_pIR st) fun q => if q.2.1 = 0 then ((len = 1 ∧ vp_in q.1 L), .inl (ax_nx c 1 ls (.int (xs q.1.toNatClampNeg) :: q.2.2) h)) else ax_o (ax_gi h q.2.1 0) fun a => ((len = 1 ∧ vp_in q.1 a.1), .inl (ax_nx c 1 ls (.int (a.2 q.1.toNatClampNeg) :: q.2.2) h))
  | .baload => ax_o (ax_pIR st) fun q => ax_o2 (ax_gi h q.2.1 1) (fun a => ((len = 1 ∧ vp_in q.1 a.1), .inl (ax_nx c 1 ls (.int (a.2 q.1.toNatClampNeg) :: q.2.2) h)))
    (ax_o (ax_gi h q.2.1 2) fun a => ((len = 1 ∧ vp_in q.1 a.1), .inl (ax_nx c 1 ls (.int (a.2 q.1.toNatClampNeg) :: q.2.2) h)))
  | .aaload => ax_o (ax_pIR st) fun q => ax_o (ax_gq h q.2.1) fun a => ax_o (axt_ec a.1) fun _ => ((len = 1 ∧ vp_in q.1 a.2.1), .inl (ax_nx c 1 ls (va_rf (a.2.2 q.1.toNatClampNeg) :: q.2.2) h))
  | .iastore => ax_o (ax_pIIR st) fun q => ax_o (ax_gi h q.2.2.1 0) fun a => ((len = 1 ∧ vp_in q.2.1 a.1), .inl (ax_nx c 1 ls q.2.2.2 (ax_put h q.2.2.1 (.inl (0, a.1, .inl (upd a.2 q.2.1.toNatClampNeg q.1))))))
  | .bastore => ax_o (ax_pIIR st) fun q => ax_o2 (ax_gi h q.2.2.1 1) (fun a => ((len = 1 ∧ vp_in q.2.1 a.1), .inl (ax_nx c 1 ls q.2.2.2 (ax_put h q.2.2.1 (.inl (1, a.1, .inl (upd a.2 q.2.1.toNatClampNeg (vp_nar .byte q.1))))))))
    (ax_o (ax_gi h q.2.2.1 2) fun a => ((len = 1 ∧ vp_in q.2.1 a.1), .inl (ax_nx c 1 ls q.2.2.2 (ax_put h q.2.2.1 (.inl (2, a.1, .inl (upd a.2 q.2.1.toNatClampNeg (vp_nar .boolean q.1))))))))
  | .aastore => ax_o (ax_pRIR st) fun q => ax_o (ax_gq h q.2.2.1) fun a => ax_o (axt_ec a.1) fun ci => ax_o (ax_go h q.1 ci) fun _ => ((len = 1 ∧ vp_in q.2.1 a.2.1), .inl (ax_nx c 1 ls q.2.2.2 (ax_put h q.2.2.1 (.inl (a.1, a.2.1, .inr (.inr (.inr (.inr (va_up a.2.2 q.2.1.toNatClampNeg (some q.1))))))))))
  | .arraylength => ax_o (ax_pR st) fun q => if q.1 = 0 then N 1 ls (.int (Int32.ofNat L) :: q.2) else ax_o (ax_gn h q.1) fun a => ((len = 1 ∧ a.1 < axt_tys.length), .inl (ax_nx c 1 ls (.int (Int32.ofNat a.2) :: q.2) h))
  | .new i => ax_o (axt_new (axt_ow c.1) i) fun ci => (len = 3, .inl (ax_nx c 3 ls (.ref h.1 :: st) (ax_push h (axt_N ci) (.inr (ci, axt_df ci)))))
  | .newarray at_ => ax_o (ax_pI st) fun q => ax_o (ax_aty at_) fun t => ((len = 2 ∧ ¬ q.1 < 0 ∧ q.1.toNatClampNeg * 4 ≤ 536870912), .inl (ax_nx c 2 ls (.ref h.1 :: q.2) (ax_push h q.1.toNatClampNeg (.inl (t.1, q.1.toNatClampNeg, .inl (fun _ => 0))))))
  | .anewarray i => ax_o (ax_pI st) fun q => ax_o (axt_anw (axt_ow c.1) i) fun t => ((len = 3 ∧ ¬ q.1 < 0 ∧ q.1.toNatClampNeg * 4 ≤ 536870912), .inl (ax_nx c 3 ls (.ref h.1 :: q.2) (ax_push h q.1.toNatClampNeg (.inl (t, q.1.toNatClampNeg, .inr (.inr (.inr (.inr (fun _ => none)))))))))
  | .invokestatic i => if len = 3 then ax_o (axt_mth (axt_ow c.1) i) (fun q => ax_inv 0 c ls st h q) else ax_no
  | .invokespecial i => if len = 3 then ax_o (axt_mth (axt_ow c.1) i) (fun q => ax_inv 1 c ls st h q) else ax_no
  | .invokevirtual i => if len = 3 then ax_o (axt_mth (axt_ow c.1) i) (fun q => ax_inv 2 c ls st h q) else ax_no
  | .ireturn => ax_o (ax_pI st) fun q => ax_o (axt_rt c.1) fun ty => ((len = 1 ∧ q.2 = [] ∧ narrow ty (.int q.1) = .int q.1), .inr (.inl (some (.int q.1), h)))
  | .lreturn => ax_o (ax_pL st) fun q => ((len = 1 ∧ q.2 = [] ∧ axt_rt c.1 = some .long), .inr (.inl (some (.long q.1), h)))
  | .areturn => ax_o (ax_pR st) fun q => ax_o (axt_rt c.1) fun ty => ((len = 1 ∧ q.2 = [] ∧ ((∃ n, ty = .object n) ∨ ∃ t, ty = .array t)), .inr (.inl (some (.ref q.1), h)))
  | .return_ => ((len = 1 ∧ st = [] ∧ axt_rt c.1 = none), .inr (.inl (none, h)))
  | _ => ax_no
def ax_step (L : Nat) (xs : Nat → Int32) (s : ax_S) : ax_O := match decode (axt_b s.1.1) s.1.2.1 with
  | .ok q => ax_ins L xs q.1 q.2 s.1 s.2.1 s.2.2.1 s.2.2.2
  | .error _ => ax_no


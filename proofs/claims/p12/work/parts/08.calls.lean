/-! FACTS on the calls -/
def axt_mck (o : Nat) (e : Nat × Nat × Nat × Nat × Nat × Nat × Nat × Nat) : Bool := match e with
  | (i, kd, cm, na, lk, p2, p3, p4) =>
    if kd < 3 then (decide (cm < axt_n) && (plainFor (axt_y cm) && decide (axt_on (axt_ow cm) = (axt_y cm).cls))) && (decide (lw_tbl[p4]? = some (Cond.initialized (axt_y cm).cls)) && (decide ((axt_y cm).cls ≠ "java/lang/invoke/MethodHandle") && (decide ((axt_y cm).cls ≠ "java/lang/invoke/VarHandle") && (decide ((parseMethodDescriptor (axt_y cm).desc).map (fun d => d.parameters.length) = some na) &&
      ((decide (lw_tbl[lk]? = some (Cond.methodLink (axt_on o) i (axt_y cm))) || decide (axt_nm[lk - 1000000]?.map (fun q => (q.1, q.2.1, q.2.2.1)) = some (axt_on o, i, axt_y cm))) &&
      (if kd = 0 then decide (lw_tbl[p2]? = some (Cond.static (axt_y cm))) else decide (lw_tbl[p2]? = some (Cond.instanceMethod (axt_y cm))) && (if kd = 1 then decide ((axt_y cm).name = "<init>") && decide (axt_rt cm = none) else match axt_cl[axt_ci cm]? with
        | some r => decide (lw_tbl[p3]? = some (Cond.selects r.1 (axt_y cm) (axt_y cm)))
        | none => false)))))))
    else if kd = 3 then decide (lw_tbl[lk]? = some (Cond.methodLink (axt_on o) i Lib.objectInit))
    else if kd = 4 then decide (lw_tbl[lk]? = some (Cond.methodLink (axt_on o) i Lib.Math.max.name))
    else if kd = 5 then decide (lw_tbl[lk]? = some (Cond.methodLink (axt_on o) i Lib.Math.min.name))
    else kd == 6 && decide (lw_tbl[lk]? = some (Cond.methodLink (axt_on o) i arraycopyName))
theorem axt_mc_0_0 : axt_mt_0_0.all (axt_mck 0) = true := by decide +kernel
theorem axt_mc_0_1 : axt_mt_0_1.all (axt_mck 0) = true := by decide +kernel
theorem axt_mc_0_2 : axt_mt_0_2.all (axt_mck 0) = true := by decide +kernel
theorem axt_mc_0_3 : axt_mt_0_3.all (axt_mck 0) = true := by decide +kernel
theorem axt_mc_0_4 : axt_mt_0_4.all (axt_mck 0) = true := by decide +kernel
theorem axt_mc_0_5 : axt_mt_0_5.all (axt_mck 0) = true := by decide +kernel
theorem axt_mc_0_6 : axt_mt_0_6.all (axt_mck 0) = true := by decide +kernel
theorem axt_mo_0 : (axt_mts.getD 0 []).all (axt_mck 0) = true := by
  show (axt_mt_0_0 ++ (axt_mt_0_1 ++ (axt_mt_0_2 ++ (axt_mt_0_3 ++ (axt_mt_0_4 ++ (axt_mt_0_5 ++ (axt_mt_0_6))))))).all (axt_mck 0) = true
  simp only [List.all_append, axt_mc_0_0, axt_mc_0_1, axt_mc_0_2, axt_mc_0_3, axt_mc_0_4, axt_mc_0_5, axt_mc_0_6, Bool.and_self]
theorem axt_mc_1_0 : axt_mt_1_0.all (axt_mck 1) = true := by decide +kernel
theorem axt_mo_1 : (axt_mts.getD 1 []).all (axt_mck 1) = true := by
  show (axt_mt_1_0).all (axt_mck 1) = true
  simp only [List.all_append, axt_mc_1_0, Bool.and_self]
theorem axt_mc_2_0 : axt_mt_2_0.all (axt_mck 2) = true := by decide +kernel
theorem axt_mo_2 : (axt_mts.getD 2 []).all (axt_mck 2) = true := by
  show (axt_mt_2_0).all (axt_mck 2) = true
  simp only [List.all_append, axt_mc_2_0, Bool.and_self]
theorem axt_mc_3_0 : axt_mt_3_0.all (axt_mck 3) = true := by decide +kernel
theorem axt_mo_3 : (axt_mts.getD 3 []).all (axt_mck 3) = true := by
  show (axt_mt_3_0).all (axt_mck 3) = true
  simp only [List.all_append, axt_mc_3_0, Bool.and_self]
theorem axt_mc_4_0 : axt_mt_4_0.all (axt_mck 4) = true := by decide +kernel
theorem axt_mo_4 : (axt_mts.getD 4 []).all (axt_mck 4) = true := by
  show (axt_mt_4_0).all (axt_mck 4) = true
  simp only [List.all_append, axt_mc_4_0, Bool.and_self]
theorem axt_mc_5_0 : axt_mt_5_0.all (axt_mck 5) = true := by decide +kernel
theorem axt_mo_5 : (axt_mts.getD 5 []).all (axt_mck 5) = true := by
  show (axt_mt_5_0).all (axt_mck 5) = true
  simp only [List.all_append, axt_mc_5_0, Bool.and_self]
theorem axt_mc_6_0 : axt_mt_6_0.all (axt_mck 6) = true := by decide +kernel
theorem axt_mc_6_1 : axt_mt_6_1.all (axt_mck 6) = true := by decide +kernel
theorem axt_mo_6 : (axt_mts.getD 6 []).all (axt_mck 6) = true := by
  show (axt_mt_6_0 ++ (axt_mt_6_1)).all (axt_mck 6) = true
  simp only [List.all_append, axt_mc_6_0, axt_mc_6_1, Bool.and_self]
theorem axt_mc_7_0 : axt_mt_7_0.all (axt_mck 7) = true := by decide +kernel
theorem axt_mo_7 : (axt_mts.getD 7 []).all (axt_mck 7) = true := by
  show (axt_mt_7_0).all (axt_mck 7) = true
  simp only [List.all_append, axt_mc_7_0, Bool.and_self]
theorem axt_mc_8_0 : axt_mt_8_0.all (axt_mck 8) = true := by decide +kernel
theorem axt_mc_8_1 : axt_mt_8_1.all (axt_mck 8) = true := by decide +kernel
theorem axt_mo_8 : (axt_mts.getD 8 []).all (axt_mck 8) = true := by
  show (axt_mt_8_0 ++ (axt_mt_8_1)).all (axt_mck 8) = true
  simp only [List.all_append, axt_mc_8_0, axt_mc_8_1, Bool.and_self]
theorem axt_mc_9_0 : axt_mt_9_0.all (axt_mck 9) = true := by decide +kernel
theorem axt_mo_9 : (axt_mts.getD 9 []).all (axt_mck 9) = true := by
  show (axt_mt_9_0).all (axt_mck 9) = true
  simp only [List.all_append, axt_mc_9_0, Bool.and_self]
theorem axt_mc_10_0 : axt_mt_10_0.all (axt_mck 10) = true := by decide +kernel
theorem axt_mc_10_1 : axt_mt_10_1.all (axt_mck 10) = true := by decide +kernel
theorem axt_mc_10_2 : axt_mt_10_2.all (axt_mck 10) = true := by decide +kernel
theorem axt_mc_10_3 : axt_mt_10_3.all (axt_mck 10) = true := by decide +kernel
theorem axt_mo_10 : (axt_mts.getD 10 []).all (axt_mck 10) = true := by
  show (axt_mt_10_0 ++ (axt_mt_10_1 ++ (axt_mt_10_2 ++ (axt_mt_10_3)))).all (axt_mck 10) = true
  simp only [List.all_append, axt_mc_10_0, axt_mc_10_1, axt_mc_10_2, axt_mc_10_3, Bool.and_self]
theorem axt_mc_11_0 : axt_mt_11_0.all (axt_mck 11) = true := by decide +kernel
theorem axt_mc_11_1 : axt_mt_11_1.all (axt_mck 11) = true := by decide +kernel
theorem axt_mo_11 : (axt_mts.getD 11 []).all (axt_mck 11) = true := by
  show (axt_mt_11_0 ++ (axt_mt_11_1)).all (axt_mck 11) = true
  simp only [List.all_append, axt_mc_11_0, axt_mc_11_1, Bool.and_self]
theorem axt_mc_12_0 : axt_mt_12_0.all (axt_mck 12) = true := by decide +kernel
theorem axt_mc_12_1 : axt_mt_12_1.all (axt_mck 12) = true := by decide +kernel
theorem axt_mc_12_2 : axt_mt_12_2.all (axt_mck 12) = true := by decide +kernel
theorem axt_mc_12_3 : axt_mt_12_3.all (axt_mck 12) = true := by decide +kernel
theorem axt_mc_12_4 : axt_mt_12_4.all (axt_mck 12) = true := by decide +kernel
theorem axt_mc_12_5 : axt_mt_12_5.all (axt_mck 12) = true := by decide +kernel
theorem axt_mo_12 : (axt_mts.getD 12 []).all (axt_mck 12) = true := by
  show (axt_mt_12_0 ++ (axt_mt_12_1 ++ (axt_mt_12_2 ++ (axt_mt_12_3 ++ (axt_mt_12_4 ++ (axt_mt_12_5)))))).all (axt_mck 12) = true
  simp only [List.all_append, axt_mc_12_0, axt_mc_12_1, axt_mc_12_2, axt_mc_12_3, axt_mc_12_4, axt_mc_12_5, Bool.and_self]
theorem axt_mc_13_0 : axt_mt_13_0.all (axt_mck 13) = true := by decide +kernel
theorem axt_mc_13_1 : axt_mt_13_1.all (axt_mck 13) = true := by decide +kernel
theorem axt_mc_13_2 : axt_mt_13_2.all (axt_mck 13) = true := by decide +kernel
theorem axt_mc_13_3 : axt_mt_13_3.all (axt_mck 13) = true := by decide +kernel
theorem axt_mo_13 : (axt_mts.getD 13 []).all (axt_mck 13) = true := by
  show (axt_mt_13_0 ++ (axt_mt_13_1 ++ (axt_mt_13_2 ++ (axt_mt_13_3)))).all (axt_mck 13) = true
  simp only [List.all_append, axt_mc_13_0, axt_mc_13_1, axt_mc_13_2, axt_mc_13_3, Bool.and_self]
theorem axt_mc_14_0 : axt_mt_14_0.all (axt_mck 14) = true := by decide +kernel
theorem axt_mo_14 : (axt_mts.getD 14 []).all (axt_mck 14) = true := by
  show (axt_mt_14_0).all (axt_mck 14) = true
  simp only [List.all_append, axt_mc_14_0, Bool.and_self]
theorem axt_mc_15_0 : axt_mt_15_0.all (axt_mck 15) = true := by decide +kernel
theorem axt_mo_15 : (axt_mts.getD 15 []).all (axt_mck 15) = true := by
  show (axt_mt_15_0).all (axt_mck 15) = true
  simp only [List.all_append, axt_mc_15_0, Bool.and_self]
theorem axt_mc_16_0 : axt_mt_16_0.all (axt_mck 16) = true := by decide +kernel
theorem axt_mo_16 : (axt_mts.getD 16 []).all (axt_mck 16) = true := by
  show (axt_mt_16_0).all (axt_mck 16) = true
  simp only [List.all_append, axt_mc_16_0, Bool.and_self]
theorem axt_mc_17_0 : axt_mt_17_0.all (axt_mck 17) = true := by decide +kernel
theorem axt_mc_17_1 : axt_mt_17_1.all (axt_mck 17) = true := by decide +kernel
theorem axt_mc_17_2 : axt_mt_17_2.all (axt_mck 17) = true := by decide +kernel
theorem axt_mc_17_3 : axt_mt_17_3.all (axt_mck 17) = true := by decide +kernel
theorem axt_mc_17_4 : axt_mt_17_4.all (axt_mck 17) = true := by decide +kernel
theorem axt_mc_17_5 : axt_mt_17_5.all (axt_mck 17) = true := by decide +kernel
theorem axt_mo_17 : (axt_mts.getD 17 []).all (axt_mck 17) = true := by
  show (axt_mt_17_0 ++ (axt_mt_17_1 ++ (axt_mt_17_2 ++ (axt_mt_17_3 ++ (axt_mt_17_4 ++ (axt_mt_17_5)))))).all (axt_mck 17) = true
  simp only [List.all_append, axt_mc_17_0, axt_mc_17_1, axt_mc_17_2, axt_mc_17_3, axt_mc_17_4, axt_mc_17_5, Bool.and_self]
theorem axt_mc_18_0 : axt_mt_18_0.all (axt_mck 18) = true := by decide +kernel
theorem axt_mc_18_1 : axt_mt_18_1.all (axt_mck 18) = true := by decide +kernel
theorem axt_mc_18_2 : axt_mt_18_2.all (axt_mck 18) = true := by decide +kernel
theorem axt_mo_18 : (axt_mts.getD 18 []).all (axt_mck 18) = true := by
  show (axt_mt_18_0 ++ (axt_mt_18_1 ++ (axt_mt_18_2))).all (axt_mck 18) = true
  simp only [List.all_append, axt_mc_18_0, axt_mc_18_1, axt_mc_18_2, Bool.and_self]
theorem axt_mt_all {o : Nat} {e : Nat × Nat × Nat × Nat × Nat × Nat × Nat × Nat} (h : e ∈ axt_mts.getD o []) : axt_mck o e = true := by
  have hl := ax_getD_lt h
  match o, h, hl with
  | 0, h, _ => exact List.all_eq_true.mp axt_mo_0 e h
  | 1, h, _ => exact List.all_eq_true.mp axt_mo_1 e h
  | 2, h, _ => exact List.all_eq_true.mp axt_mo_2 e h
  | 3, h, _ => exact List.all_eq_true.mp axt_mo_3 e h
  | 4, h, _ => exact List.all_eq_true.mp axt_mo_4 e h
  | 5, h, _ => exact List.all_eq_true.mp axt_mo_5 e h
  | 6, h, _ => exact List.all_eq_true.mp axt_mo_6 e h
  | 7, h, _ => exact List.all_eq_true.mp axt_mo_7 e h
  | 8, h, _ => exact List.all_eq_true.mp axt_mo_8 e h
  | 9, h, _ => exact List.all_eq_true.mp axt_mo_9 e h
  | 10, h, _ => exact List.all_eq_true.mp axt_mo_10 e h
  | 11, h, _ => exact List.all_eq_true.mp axt_mo_11 e h
  | 12, h, _ => exact List.all_eq_true.mp axt_mo_12 e h
  | 13, h, _ => exact List.all_eq_true.mp axt_mo_13 e h
  | 14, h, _ => exact List.all_eq_true.mp axt_mo_14 e h
  | 15, h, _ => exact List.all_eq_true.mp axt_mo_15 e h
  | 16, h, _ => exact List.all_eq_true.mp axt_mo_16 e h
  | 17, h, _ => exact List.all_eq_true.mp axt_mo_17 e h
  | 18, h, _ => exact List.all_eq_true.mp axt_mo_18 e h
  | n + 19, _, hl => exact absurd hl (by simp [axt_mts])
theorem axt_mth_at {o i : Nat} {q : Nat × Nat × Nat} (h : axt_mth o i = some q) : ∃ lk p2 p3 p4, axt_mck o (i, q.1, q.2.1, q.2.2, lk, p2, p3, p4) = true := by
  unfold axt_mth at h
  obtain ⟨⟨kd, cm, na, lk, p2, p3, p4⟩, he, hh⟩ := Option.map_eq_some_iff.mp h
  cases hh
  exact ⟨lk, p2, p3, p4, axt_mt_all (ax_fnd_mem he)⟩
theorem axt_mth_ok {o i kd cm na : Nat} (h : axt_mth o i = some (kd, cm, na)) (hk : kd < 3) : (cm < axt_n ∧ plainFor (axt_y cm) = true ∧ axt_on (axt_ow cm) = (axt_y cm).cls) ∧ Cond.initialized (axt_y cm).cls ∈ axt_ts ∧ (axt_y cm).cls ≠ "java/lang/invoke/MethodHandle" ∧ (axt_y cm).cls ≠ "java/lang/invoke/VarHandle" ∧ (parseMethodDescriptor (axt_y cm).desc).map (fun d => d.parameters.length) = some na ∧ (Cond.methodLink (axt_on o) i (axt_y cm) ∈ axt_ts ∨ ∃ host, (axt_on o, i, axt_y cm, host) ∈ axt_nm) ∧
    (kd = 0 → Cond.static (axt_y cm) ∈ axt_ts) ∧ (kd = 1 → (axt_y cm).name = "<init>" ∧ Cond.instanceMethod (axt_y cm) ∈ axt_ts ∧ axt_rt cm = none) ∧ (kd = 2 → ∃ r : vw_C, axt_cl[axt_ci cm]? = some r ∧ Cond.instanceMethod (axt_y cm) ∈ axt_ts ∧ Cond.selects r.1 (axt_y cm) (axt_y cm) ∈ axt_ts) := by
  obtain ⟨lk, p2, p3, p4, q⟩ := axt_mth_at h
  unfold axt_mck at q
  dsimp only at q
  rw [if_pos hk] at q
  simp only [Bool.and_eq_true, Bool.or_eq_true, decide_eq_true_eq] at q
  obtain ⟨q1, q2, q3, q4, q5, q6, q7⟩ := q
  refine ⟨q1, axt_in _ q2 rfl, q3, q4, q5, ?_, fun e => ?_, fun e => ?_, fun e => ?_⟩
  · rcases q6 with q6 | q6
    · exact Or.inl (axt_in _ q6 rfl)
    · obtain ⟨⟨a1, a2, a3, a4⟩, b1, b2⟩ := Option.map_eq_some_iff.mp q6
      cases b2
      exact Or.inr ⟨a4, List.mem_of_getElem? b1⟩
  · subst e
    rw [if_pos rfl, decide_eq_true_eq] at q7
    exact axt_in _ q7 rfl
  · subst e
    rw [if_neg (by decide), if_pos rfl] at q7
    simp only [Bool.and_eq_true, decide_eq_true_eq] at q7
    exact ⟨q7.2.1, axt_in _ q7.1 rfl, q7.2.2⟩
  · subst e
    rw [if_neg (by decide), if_neg (by decide)] at q7
    simp only [Bool.and_eq_true, decide_eq_true_eq] at q7
    obtain ⟨q8, q9⟩ := q7
    split at q9
    · next r hr => exact ⟨r, hr, axt_in _ q8 rfl, axt_in _ (of_decide_eq_true q9) rfl⟩
    · cases q9
theorem axt_obj_1 : Cond.instanceMethod Lib.objectInit ∈ axt_ts := axt_in 96 (by decide +kernel) rfl
set_option maxRecDepth 20000 in
theorem axt_obj_2 : Cond.code Lib.objectInit ⟨#[0xb1]⟩ 1 none ∈ axt_ts := axt_in 97 rfl rfl
theorem axt_obj_ok {o i x y : Nat} (h : axt_mth o i = some (3, x, y)) : Cond.methodLink (axt_on o) i Lib.objectInit ∈ axt_ts ∧ Cond.instanceMethod Lib.objectInit ∈ axt_ts ∧ Cond.code Lib.objectInit ⟨#[0xb1]⟩ 1 none ∈ axt_ts := by
  obtain ⟨lk, p2, p3, p4, q⟩ := axt_mth_at h
  exact ⟨axt_in lk (of_decide_eq_true q) rfl, axt_obj_1, axt_obj_2⟩
theorem axt_max_1 : Cond.static Lib.Math.max.name ∈ axt_ts := axt_in 190 (by decide +kernel) rfl
theorem axt_max_2 : Cond.initialized "java/lang/Math" ∈ axt_ts := axt_in 76 (by decide +kernel) rfl
set_option maxRecDepth 20000 in
theorem axt_max_3 : Cond.code Lib.Math.max.name Lib.Math.max.code 2 (some .int) ∈ axt_ts := axt_in 191 rfl rfl
theorem axt_min_1 : Cond.static Lib.Math.min.name ∈ axt_ts := axt_in 187 (by decide +kernel) rfl
set_option maxRecDepth 20000 in
theorem axt_min_3 : Cond.code Lib.Math.min.name Lib.Math.min.code 2 (some .int) ∈ axt_ts := axt_in 188 rfl rfl
theorem axt_max_ok {o i x y : Nat} (h : axt_mth o i = some (4, x, y)) : Cond.methodLink (axt_on o) i Lib.Math.max.name ∈ axt_ts ∧ Cond.static Lib.Math.max.name ∈ axt_ts ∧ Cond.initialized "java/lang/Math" ∈ axt_ts ∧ Cond.code Lib.Math.max.name Lib.Math.max.code 2 (some .int) ∈ axt_ts := by
  obtain ⟨lk, p2, p3, p4, q⟩ := axt_mth_at h
  exact ⟨axt_in lk (of_decide_eq_true q) rfl, axt_max_1, axt_max_2, axt_max_3⟩
theorem axt_min_ok {o i x y : Nat} (h : axt_mth o i = some (5, x, y)) : Cond.methodLink (axt_on o) i Lib.Math.min.name ∈ axt_ts ∧ Cond.static Lib.Math.min.name ∈ axt_ts ∧ Cond.initialized "java/lang/Math" ∈ axt_ts ∧ Cond.code Lib.Math.min.name Lib.Math.min.code 2 (some .int) ∈ axt_ts := by
  obtain ⟨lk, p2, p3, p4, q⟩ := axt_mth_at h
  exact ⟨axt_in lk (of_decide_eq_true q) rfl, axt_min_1, axt_max_2, axt_min_3⟩
theorem axt_cpy_1 : Cond.native arraycopyName ∈ axt_ts := axt_in 608 (by decide +kernel) rfl
theorem axt_cpy_2 : Cond.static arraycopyName ∈ axt_ts := axt_in 607 (by decide +kernel) rfl
theorem axt_cpy_3 : Cond.initialized "java/lang/System" ∈ axt_ts := axt_in 85 (by decide +kernel) rfl
theorem axt_copy_ok {o i x y : Nat} (h : axt_mth o i = some (6, x, y)) : Cond.methodLink (axt_on o) i arraycopyName ∈ axt_ts ∧ Cond.native arraycopyName ∈ axt_ts ∧ Cond.static arraycopyName ∈ axt_ts ∧ Cond.initialized "java/lang/System" ∈ axt_ts := by
  obtain ⟨lk, p2, p3, p4, q⟩ := axt_mth_at h
  exact ⟨axt_in lk (of_decide_eq_true q) rfl, axt_cpy_1, axt_cpy_2, axt_cpy_3⟩
theorem axt_aty_ok {at_ : Jvm.ClassFile.ArrayType} {t : Nat} {ty : FieldType} (h : ax_aty at_ = some (t, ty)) : newarray.typeOf at_ = ty ∧ axt_tys[t]? = some ty ∧ Cond.arrayClass ty ∈ axt_ts ∧ componentBytes ty ≤ 4 ∧ ((ty = .int ∧ defaultValue ty = .int 0) ∨ (ty = .byte ∧ defaultValue ty = .int 0) ∨ (ty = .boolean ∧ defaultValue ty = .int 0)) := by
  cases at_ <;> simp only [ax_aty, reduceCtorEq, Option.some.injEq, Prod.mk.injEq] at h
  · obtain ⟨rfl, rfl⟩ := h
    exact ⟨rfl, rfl, axt_a2, by decide, Or.inr (Or.inr ⟨rfl, rfl⟩)⟩
  · obtain ⟨rfl, rfl⟩ := h
    exact ⟨rfl, rfl, axt_a1, by decide, Or.inr (Or.inl ⟨rfl, rfl⟩)⟩
  · obtain ⟨rfl, rfl⟩ := h
    exact ⟨rfl, rfl, axt_a0, by decide, Or.inl ⟨rfl, rfl⟩⟩
set_option maxRecDepth 20000 in
theorem axt_k0 : lw_tbl[94]? = some (Cond.code (axt_y 0) (axt_b 0) (axt_mx 0) (axt_rt 0)) := rfl
set_option maxRecDepth 20000 in
theorem axt_k1 : lw_tbl[97]? = some (Cond.code (axt_y 1) (axt_b 1) (axt_mx 1) (axt_rt 1)) := rfl
set_option maxRecDepth 20000 in
theorem axt_k2 : lw_tbl[102]? = some (Cond.code (axt_y 2) (axt_b 2) (axt_mx 2) (axt_rt 2)) := rfl
set_option maxRecDepth 20000 in
theorem axt_k3 : lw_tbl[109]? = some (Cond.code (axt_y 3) (axt_b 3) (axt_mx 3) (axt_rt 3)) := rfl
set_option maxRecDepth 20000 in
theorem axt_k4 : lw_tbl[185]? = some (Cond.code (axt_y 4) (axt_b 4) (axt_mx 4) (axt_rt 4)) := rfl
set_option maxRecDepth 20000 in
theorem axt_k5 : lw_tbl[188]? = some (Cond.code (axt_y 5) (axt_b 5) (axt_mx 5) (axt_rt 5)) := rfl
set_option maxRecDepth 20000 in
theorem axt_k6 : lw_tbl[191]? = some (Cond.code (axt_y 6) (axt_b 6) (axt_mx 6) (axt_rt 6)) := rfl
set_option maxRecDepth 20000 in
theorem axt_k7 : lw_tbl[194]? = some (Cond.code (axt_y 7) (axt_b 7) (axt_mx 7) (axt_rt 7)) := rfl
set_option maxRecDepth 20000 in
theorem axt_k8 : lw_tbl[198]? = some (Cond.code (axt_y 8) (axt_b 8) (axt_mx 8) (axt_rt 8)) := rfl
set_option maxRecDepth 20000 in
theorem axt_k9 : lw_tbl[227]? = some (Cond.code (axt_y 9) (axt_b 9) (axt_mx 9) (axt_rt 9)) := rfl
set_option maxRecDepth 20000 in
theorem axt_k10 : lw_tbl[234]? = some (Cond.code (axt_y 10) (axt_b 10) (axt_mx 10) (axt_rt 10)) := rfl
set_option maxRecDepth 20000 in
theorem axt_k11 : lw_tbl[341]? = some (Cond.code (axt_y 11) (axt_b 11) (axt_mx 11) (axt_rt 11)) := rfl
set_option maxRecDepth 20000 in
theorem axt_k12 : lw_tbl[346]? = some (Cond.code (axt_y 12) (axt_b 12) (axt_mx 12) (axt_rt 12)) := rfl
set_option maxRecDepth 20000 in
theorem axt_k13 : lw_tbl[349]? = some (Cond.code (axt_y 13) (axt_b 13) (axt_mx 13) (axt_rt 13)) := rfl
set_option maxRecDepth 20000 in
theorem axt_k14 : lw_tbl[402]? = some (Cond.code (axt_y 14) (axt_b 14) (axt_mx 14) (axt_rt 14)) := rfl
set_option maxRecDepth 20000 in
theorem axt_k15 : lw_tbl[408]? = some (Cond.code (axt_y 15) (axt_b 15) (axt_mx 15) (axt_rt 15)) := rfl
set_option maxRecDepth 20000 in
theorem axt_k16 : lw_tbl[436]? = some (Cond.code (axt_y 16) (axt_b 16) (axt_mx 16) (axt_rt 16)) := rfl
set_option maxRecDepth 20000 in
theorem axt_k17 : lw_tbl[444]? = some (Cond.code (axt_y 17) (axt_b 17) (axt_mx 17) (axt_rt 17)) := rfl
set_option maxRecDepth 20000 in
theorem axt_k18 : lw_tbl[581]? = some (Cond.code (axt_y 18) (axt_b 18) (axt_mx 18) (axt_rt 18)) := rfl
set_option maxRecDepth 20000 in
theorem axt_k19 : lw_tbl[585]? = some (Cond.code (axt_y 19) (axt_b 19) (axt_mx 19) (axt_rt 19)) := rfl
set_option maxRecDepth 20000 in
theorem axt_k20 : lw_tbl[589]? = some (Cond.code (axt_y 20) (axt_b 20) (axt_mx 20) (axt_rt 20)) := rfl
set_option maxRecDepth 20000 in
theorem axt_k21 : lw_tbl[593]? = some (Cond.code (axt_y 21) (axt_b 21) (axt_mx 21) (axt_rt 21)) := rfl
set_option maxRecDepth 20000 in
theorem axt_k22 : lw_tbl[597]? = some (Cond.code (axt_y 22) (axt_b 22) (axt_mx 22) (axt_rt 22)) := rfl
set_option maxRecDepth 20000 in
theorem axt_k23 : lw_tbl[601]? = some (Cond.code (axt_y 23) (axt_b 23) (axt_mx 23) (axt_rt 23)) := rfl
set_option maxRecDepth 20000 in
theorem axt_k24 : lw_tbl[605]? = some (Cond.code (axt_y 24) (axt_b 24) (axt_mx 24) (axt_rt 24)) := rfl
set_option maxRecDepth 20000 in
theorem axt_k25 : lw_tbl[612]? = some (Cond.code (axt_y 25) (axt_b 25) (axt_mx 25) (axt_rt 25)) := rfl
set_option maxRecDepth 20000 in
theorem axt_k26 : lw_tbl[616]? = some (Cond.code (axt_y 26) (axt_b 26) (axt_mx 26) (axt_rt 26)) := rfl
set_option maxRecDepth 20000 in
theorem axt_k27 : lw_tbl[619]? = some (Cond.code (axt_y 27) (axt_b 27) (axt_mx 27) (axt_rt 27)) := rfl
set_option maxRecDepth 20000 in
theorem axt_k28 : lw_tbl[622]? = some (Cond.code (axt_y 28) (axt_b 28) (axt_mx 28) (axt_rt 28)) := rfl
set_option maxRecDepth 20000 in
theorem axt_k29 : lw_tbl[626]? = some (Cond.code (axt_y 29) (axt_b 29) (axt_mx 29) (axt_rt 29)) := rfl
set_option maxRecDepth 20000 in
theorem axt_k30 : lw_tbl[630]? = some (Cond.code (axt_y 30) (axt_b 30) (axt_mx 30) (axt_rt 30)) := rfl
set_option maxRecDepth 20000 in
theorem axt_k31 : lw_tbl[634]? = some (Cond.code (axt_y 31) (axt_b 31) (axt_mx 31) (axt_rt 31)) := rfl
set_option maxRecDepth 20000 in
theorem axt_k32 : lw_tbl[638]? = some (Cond.code (axt_y 32) (axt_b 32) (axt_mx 32) (axt_rt 32)) := rfl
set_option maxRecDepth 20000 in
theorem axt_k33 : lw_tbl[642]? = some (Cond.code (axt_y 33) (axt_b 33) (axt_mx 33) (axt_rt 33)) := rfl
set_option maxRecDepth 20000 in
theorem axt_k34 : lw_tbl[647]? = some (Cond.code (axt_y 34) (axt_b 34) (axt_mx 34) (axt_rt 34)) := rfl
set_option maxRecDepth 20000 in
theorem axt_k35 : lw_tbl[651]? = some (Cond.code (axt_y 35) (axt_b 35) (axt_mx 35) (axt_rt 35)) := rfl
set_option maxRecDepth 20000 in
theorem axt_k36 : lw_tbl[655]? = some (Cond.code (axt_y 36) (axt_b 36) (axt_mx 36) (axt_rt 36)) := rfl
set_option maxRecDepth 20000 in
theorem axt_k37 : lw_tbl[694]? = some (Cond.code (axt_y 37) (axt_b 37) (axt_mx 37) (axt_rt 37)) := rfl
set_option maxRecDepth 20000 in
theorem axt_k38 : lw_tbl[698]? = some (Cond.code (axt_y 38) (axt_b 38) (axt_mx 38) (axt_rt 38)) := rfl
set_option maxRecDepth 20000 in
theorem axt_k39 : lw_tbl[701]? = some (Cond.code (axt_y 39) (axt_b 39) (axt_mx 39) (axt_rt 39)) := rfl
set_option maxRecDepth 20000 in
theorem axt_k40 : lw_tbl[705]? = some (Cond.code (axt_y 40) (axt_b 40) (axt_mx 40) (axt_rt 40)) := rfl
set_option maxRecDepth 20000 in
theorem axt_k41 : lw_tbl[709]? = some (Cond.code (axt_y 41) (axt_b 41) (axt_mx 41) (axt_rt 41)) := rfl
set_option maxRecDepth 20000 in
theorem axt_k42 : lw_tbl[713]? = some (Cond.code (axt_y 42) (axt_b 42) (axt_mx 42) (axt_rt 42)) := rfl
set_option maxRecDepth 20000 in
theorem axt_k43 : lw_tbl[717]? = some (Cond.code (axt_y 43) (axt_b 43) (axt_mx 43) (axt_rt 43)) := rfl
set_option maxRecDepth 20000 in
theorem axt_k44 : lw_tbl[722]? = some (Cond.code (axt_y 44) (axt_b 44) (axt_mx 44) (axt_rt 44)) := rfl
set_option maxRecDepth 20000 in
theorem axt_k45 : lw_tbl[726]? = some (Cond.code (axt_y 45) (axt_b 45) (axt_mx 45) (axt_rt 45)) := rfl
set_option maxRecDepth 20000 in
theorem axt_k46 : lw_tbl[730]? = some (Cond.code (axt_y 46) (axt_b 46) (axt_mx 46) (axt_rt 46)) := rfl
set_option maxRecDepth 20000 in
theorem axt_k47 : lw_tbl[735]? = some (Cond.code (axt_y 47) (axt_b 47) (axt_mx 47) (axt_rt 47)) := rfl
set_option maxRecDepth 20000 in
theorem axt_k48 : lw_tbl[741]? = some (Cond.code (axt_y 48) (axt_b 48) (axt_mx 48) (axt_rt 48)) := rfl
set_option maxRecDepth 20000 in
theorem axt_k49 : lw_tbl[746]? = some (Cond.code (axt_y 49) (axt_b 49) (axt_mx 49) (axt_rt 49)) := rfl
set_option maxRecDepth 20000 in
theorem axt_k50 : lw_tbl[749]? = some (Cond.code (axt_y 50) (axt_b 50) (axt_mx 50) (axt_rt 50)) := rfl
set_option maxRecDepth 20000 in
theorem axt_k51 : lw_tbl[753]? = some (Cond.code (axt_y 51) (axt_b 51) (axt_mx 51) (axt_rt 51)) := rfl
set_option maxRecDepth 20000 in
theorem axt_k52 : lw_tbl[757]? = some (Cond.code (axt_y 52) (axt_b 52) (axt_mx 52) (axt_rt 52)) := rfl
set_option maxRecDepth 20000 in
theorem axt_k53 : lw_tbl[761]? = some (Cond.code (axt_y 53) (axt_b 53) (axt_mx 53) (axt_rt 53)) := rfl
set_option maxRecDepth 20000 in
theorem axt_k54 : lw_tbl[765]? = some (Cond.code (axt_y 54) (axt_b 54) (axt_mx 54) (axt_rt 54)) := rfl
set_option maxRecDepth 20000 in
theorem axt_k55 : lw_tbl[769]? = some (Cond.code (axt_y 55) (axt_b 55) (axt_mx 55) (axt_rt 55)) := rfl
set_option maxRecDepth 20000 in
theorem axt_k56 : lw_tbl[774]? = some (Cond.code (axt_y 56) (axt_b 56) (axt_mx 56) (axt_rt 56)) := rfl
set_option maxRecDepth 20000 in
theorem axt_k57 : lw_tbl[778]? = some (Cond.code (axt_y 57) (axt_b 57) (axt_mx 57) (axt_rt 57)) := rfl
set_option maxRecDepth 20000 in
theorem axt_k58 : lw_tbl[782]? = some (Cond.code (axt_y 58) (axt_b 58) (axt_mx 58) (axt_rt 58)) := rfl
set_option maxRecDepth 20000 in
theorem axt_k59 : lw_tbl[787]? = some (Cond.code (axt_y 59) (axt_b 59) (axt_mx 59) (axt_rt 59)) := rfl
set_option maxRecDepth 20000 in
theorem axt_k60 : lw_tbl[791]? = some (Cond.code (axt_y 60) (axt_b 60) (axt_mx 60) (axt_rt 60)) := rfl
set_option maxRecDepth 20000 in
theorem axt_k61 : lw_tbl[795]? = some (Cond.code (axt_y 61) (axt_b 61) (axt_mx 61) (axt_rt 61)) := rfl
set_option maxRecDepth 20000 in
theorem axt_k62 : lw_tbl[799]? = some (Cond.code (axt_y 62) (axt_b 62) (axt_mx 62) (axt_rt 62)) := rfl
set_option maxRecDepth 20000 in
theorem axt_k63 : lw_tbl[803]? = some (Cond.code (axt_y 63) (axt_b 63) (axt_mx 63) (axt_rt 63)) := rfl
set_option maxRecDepth 20000 in
theorem axt_k64 : lw_tbl[807]? = some (Cond.code (axt_y 64) (axt_b 64) (axt_mx 64) (axt_rt 64)) := rfl
set_option maxRecDepth 20000 in
theorem axt_k65 : lw_tbl[810]? = some (Cond.code (axt_y 65) (axt_b 65) (axt_mx 65) (axt_rt 65)) := rfl
set_option maxRecDepth 20000 in
theorem axt_k66 : lw_tbl[814]? = some (Cond.code (axt_y 66) (axt_b 66) (axt_mx 66) (axt_rt 66)) := rfl
set_option maxRecDepth 20000 in
theorem axt_k67 : lw_tbl[818]? = some (Cond.code (axt_y 67) (axt_b 67) (axt_mx 67) (axt_rt 67)) := rfl
set_option maxRecDepth 20000 in
theorem axt_k68 : lw_tbl[822]? = some (Cond.code (axt_y 68) (axt_b 68) (axt_mx 68) (axt_rt 68)) := rfl
set_option maxRecDepth 20000 in
theorem axt_k69 : lw_tbl[826]? = some (Cond.code (axt_y 69) (axt_b 69) (axt_mx 69) (axt_rt 69)) := rfl
set_option maxRecDepth 20000 in
theorem axt_k70 : lw_tbl[830]? = some (Cond.code (axt_y 70) (axt_b 70) (axt_mx 70) (axt_rt 70)) := rfl
set_option maxRecDepth 20000 in
theorem axt_k71 : lw_tbl[834]? = some (Cond.code (axt_y 71) (axt_b 71) (axt_mx 71) (axt_rt 71)) := rfl
set_option maxRecDepth 20000 in
theorem axt_k72 : lw_tbl[838]? = some (Cond.code (axt_y 72) (axt_b 72) (axt_mx 72) (axt_rt 72)) := rfl
set_option maxRecDepth 20000 in
theorem axt_k73 : lw_tbl[841]? = some (Cond.code (axt_y 73) (axt_b 73) (axt_mx 73) (axt_rt 73)) := rfl
set_option maxRecDepth 20000 in
theorem axt_k74 : lw_tbl[848]? = some (Cond.code (axt_y 74) (axt_b 74) (axt_mx 74) (axt_rt 74)) := rfl
set_option maxRecDepth 20000 in
theorem axt_k75 : lw_tbl[852]? = some (Cond.code (axt_y 75) (axt_b 75) (axt_mx 75) (axt_rt 75)) := rfl
set_option maxRecDepth 20000 in
theorem axt_k76 : lw_tbl[856]? = some (Cond.code (axt_y 76) (axt_b 76) (axt_mx 76) (axt_rt 76)) := rfl
set_option maxRecDepth 20000 in
theorem axt_k77 : lw_tbl[860]? = some (Cond.code (axt_y 77) (axt_b 77) (axt_mx 77) (axt_rt 77)) := rfl
set_option maxRecDepth 20000 in
theorem axt_k78 : lw_tbl[863]? = some (Cond.code (axt_y 78) (axt_b 78) (axt_mx 78) (axt_rt 78)) := rfl
set_option maxRecDepth 20000 in
theorem axt_k79 : lw_tbl[867]? = some (Cond.code (axt_y 79) (axt_b 79) (axt_mx 79) (axt_rt 79)) := rfl
set_option maxRecDepth 20000 in
theorem axt_k80 : lw_tbl[870]? = some (Cond.code (axt_y 80) (axt_b 80) (axt_mx 80) (axt_rt 80)) := rfl
set_option maxRecDepth 20000 in
theorem axt_k81 : lw_tbl[874]? = some (Cond.code (axt_y 81) (axt_b 81) (axt_mx 81) (axt_rt 81)) := rfl
set_option maxRecDepth 20000 in
theorem axt_k82 : lw_tbl[879]? = some (Cond.code (axt_y 82) (axt_b 82) (axt_mx 82) (axt_rt 82)) := rfl
set_option maxRecDepth 20000 in
theorem axt_k83 : lw_tbl[883]? = some (Cond.code (axt_y 83) (axt_b 83) (axt_mx 83) (axt_rt 83)) := rfl
set_option maxRecDepth 20000 in
theorem axt_k84 : lw_tbl[887]? = some (Cond.code (axt_y 84) (axt_b 84) (axt_mx 84) (axt_rt 84)) := rfl
set_option maxRecDepth 20000 in
theorem axt_k85 : lw_tbl[894]? = some (Cond.code (axt_y 85) (axt_b 85) (axt_mx 85) (axt_rt 85)) := rfl
set_option maxRecDepth 20000 in
theorem axt_k86 : lw_tbl[900]? = some (Cond.code (axt_y 86) (axt_b 86) (axt_mx 86) (axt_rt 86)) := rfl
set_option maxRecDepth 20000 in
theorem axt_k87 : lw_tbl[905]? = some (Cond.code (axt_y 87) (axt_b 87) (axt_mx 87) (axt_rt 87)) := rfl
set_option maxRecDepth 20000 in
theorem axt_k88 : lw_tbl[909]? = some (Cond.code (axt_y 88) (axt_b 88) (axt_mx 88) (axt_rt 88)) := rfl
set_option maxRecDepth 20000 in
theorem axt_k89 : lw_tbl[914]? = some (Cond.code (axt_y 89) (axt_b 89) (axt_mx 89) (axt_rt 89)) := rfl
set_option maxRecDepth 20000 in
theorem axt_k90 : lw_tbl[918]? = some (Cond.code (axt_y 90) (axt_b 90) (axt_mx 90) (axt_rt 90)) := rfl
set_option maxRecDepth 20000 in
theorem axt_k91 : lw_tbl[922]? = some (Cond.code (axt_y 91) (axt_b 91) (axt_mx 91) (axt_rt 91)) := rfl
set_option maxRecDepth 20000 in
theorem axt_k92 : lw_tbl[926]? = some (Cond.code (axt_y 92) (axt_b 92) (axt_mx 92) (axt_rt 92)) := rfl
set_option maxRecDepth 20000 in
theorem axt_k93 : lw_tbl[930]? = some (Cond.code (axt_y 93) (axt_b 93) (axt_mx 93) (axt_rt 93)) := rfl
set_option maxRecDepth 20000 in
theorem axt_k94 : lw_tbl[935]? = some (Cond.code (axt_y 94) (axt_b 94) (axt_mx 94) (axt_rt 94)) := rfl
set_option maxRecDepth 20000 in
theorem axt_k95 : lw_tbl[938]? = some (Cond.code (axt_y 95) (axt_b 95) (axt_mx 95) (axt_rt 95)) := rfl
set_option maxRecDepth 20000 in
theorem axt_k96 : lw_tbl[942]? = some (Cond.code (axt_y 96) (axt_b 96) (axt_mx 96) (axt_rt 96)) := rfl
set_option maxRecDepth 20000 in
theorem axt_k97 : lw_tbl[946]? = some (Cond.code (axt_y 97) (axt_b 97) (axt_mx 97) (axt_rt 97)) := rfl
set_option maxRecDepth 20000 in
theorem axt_k98 : lw_tbl[951]? = some (Cond.code (axt_y 98) (axt_b 98) (axt_mx 98) (axt_rt 98)) := rfl
set_option maxRecDepth 20000 in
theorem axt_k99 : lw_tbl[955]? = some (Cond.code (axt_y 99) (axt_b 99) (axt_mx 99) (axt_rt 99)) := rfl
set_option maxRecDepth 20000 in
theorem axt_k100 : lw_tbl[959]? = some (Cond.code (axt_y 100) (axt_b 100) (axt_mx 100) (axt_rt 100)) := rfl
set_option maxRecDepth 20000 in
theorem axt_k101 : lw_tbl[964]? = some (Cond.code (axt_y 101) (axt_b 101) (axt_mx 101) (axt_rt 101)) := rfl
set_option maxRecDepth 20000 in
theorem axt_k102 : lw_tbl[969]? = some (Cond.code (axt_y 102) (axt_b 102) (axt_mx 102) (axt_rt 102)) := rfl
set_option maxRecDepth 20000 in
theorem axt_k103 : lw_tbl[973]? = some (Cond.code (axt_y 103) (axt_b 103) (axt_mx 103) (axt_rt 103)) := rfl
set_option maxRecDepth 20000 in
theorem axt_k104 : lw_tbl[977]? = some (Cond.code (axt_y 104) (axt_b 104) (axt_mx 104) (axt_rt 104)) := rfl
set_option maxRecDepth 20000 in
theorem axt_k105 : lw_tbl[981]? = some (Cond.code (axt_y 105) (axt_b 105) (axt_mx 105) (axt_rt 105)) := rfl
set_option maxRecDepth 20000 in
theorem axt_k106 : lw_tbl[985]? = some (Cond.code (axt_y 106) (axt_b 106) (axt_mx 106) (axt_rt 106)) := rfl
set_option maxRecDepth 20000 in
theorem axt_k107 : lw_tbl[990]? = some (Cond.code (axt_y 107) (axt_b 107) (axt_mx 107) (axt_rt 107)) := rfl
set_option maxRecDepth 20000 in
theorem axt_k108 : lw_tbl[995]? = some (Cond.code (axt_y 108) (axt_b 108) (axt_mx 108) (axt_rt 108)) := rfl
set_option maxRecDepth 20000 in
theorem axt_k109 : lw_tbl[999]? = some (Cond.code (axt_y 109) (axt_b 109) (axt_mx 109) (axt_rt 109)) := rfl
set_option maxRecDepth 20000 in
theorem axt_k110 : lw_tbl[1002]? = some (Cond.code (axt_y 110) (axt_b 110) (axt_mx 110) (axt_rt 110)) := rfl
set_option maxRecDepth 20000 in
theorem axt_k111 : lw_tbl[1006]? = some (Cond.code (axt_y 111) (axt_b 111) (axt_mx 111) (axt_rt 111)) := rfl
set_option maxRecDepth 20000 in
theorem axt_k112 : lw_tbl[1012]? = some (Cond.code (axt_y 112) (axt_b 112) (axt_mx 112) (axt_rt 112)) := rfl
set_option maxRecDepth 20000 in
theorem axt_k113 : lw_tbl[1016]? = some (Cond.code (axt_y 113) (axt_b 113) (axt_mx 113) (axt_rt 113)) := rfl
set_option maxRecDepth 20000 in
theorem axt_k114 : lw_tbl[1020]? = some (Cond.code (axt_y 114) (axt_b 114) (axt_mx 114) (axt_rt 114)) := rfl
set_option maxRecDepth 20000 in
theorem axt_k115 : lw_tbl[1024]? = some (Cond.code (axt_y 115) (axt_b 115) (axt_mx 115) (axt_rt 115)) := rfl
set_option maxRecDepth 20000 in
theorem axt_k116 : lw_tbl[1028]? = some (Cond.code (axt_y 116) (axt_b 116) (axt_mx 116) (axt_rt 116)) := rfl
set_option maxRecDepth 20000 in
theorem axt_k117 : lw_tbl[1031]? = some (Cond.code (axt_y 117) (axt_b 117) (axt_mx 117) (axt_rt 117)) := rfl
set_option maxRecDepth 20000 in
theorem axt_k118 : lw_tbl[1035]? = some (Cond.code (axt_y 118) (axt_b 118) (axt_mx 118) (axt_rt 118)) := rfl
set_option maxRecDepth 20000 in
theorem axt_k119 : lw_tbl[1040]? = some (Cond.code (axt_y 119) (axt_b 119) (axt_mx 119) (axt_rt 119)) := rfl
set_option maxRecDepth 20000 in
theorem axt_k120 : lw_tbl[1043]? = some (Cond.code (axt_y 120) (axt_b 120) (axt_mx 120) (axt_rt 120)) := rfl
set_option maxRecDepth 20000 in
theorem axt_k121 : lw_tbl[1047]? = some (Cond.code (axt_y 121) (axt_b 121) (axt_mx 121) (axt_rt 121)) := rfl
set_option maxRecDepth 20000 in
theorem axt_k122 : lw_tbl[1051]? = some (Cond.code (axt_y 122) (axt_b 122) (axt_mx 122) (axt_rt 122)) := rfl
set_option maxRecDepth 20000 in
theorem axt_k123 : lw_tbl[1055]? = some (Cond.code (axt_y 123) (axt_b 123) (axt_mx 123) (axt_rt 123)) := rfl
set_option maxRecDepth 20000 in
theorem axt_k124 : lw_tbl[1059]? = some (Cond.code (axt_y 124) (axt_b 124) (axt_mx 124) (axt_rt 124)) := rfl
set_option maxRecDepth 20000 in
theorem axt_k125 : lw_tbl[1063]? = some (Cond.code (axt_y 125) (axt_b 125) (axt_mx 125) (axt_rt 125)) := rfl
set_option maxRecDepth 20000 in
theorem axt_k126 : lw_tbl[1068]? = some (Cond.code (axt_y 126) (axt_b 126) (axt_mx 126) (axt_rt 126)) := rfl
set_option maxRecDepth 20000 in
theorem axt_k127 : lw_tbl[1072]? = some (Cond.code (axt_y 127) (axt_b 127) (axt_mx 127) (axt_rt 127)) := rfl
set_option maxRecDepth 20000 in
theorem axt_k128 : lw_tbl[1077]? = some (Cond.code (axt_y 128) (axt_b 128) (axt_mx 128) (axt_rt 128)) := rfl
set_option maxRecDepth 20000 in
theorem axt_k129 : lw_tbl[1081]? = some (Cond.code (axt_y 129) (axt_b 129) (axt_mx 129) (axt_rt 129)) := rfl
set_option maxRecDepth 20000 in
theorem axt_k130 : lw_tbl[1085]? = some (Cond.code (axt_y 130) (axt_b 130) (axt_mx 130) (axt_rt 130)) := rfl
set_option maxRecDepth 20000 in
theorem axt_k131 : lw_tbl[1089]? = some (Cond.code (axt_y 131) (axt_b 131) (axt_mx 131) (axt_rt 131)) := rfl
set_option maxRecDepth 20000 in
theorem axt_k132 : lw_tbl[1094]? = some (Cond.code (axt_y 132) (axt_b 132) (axt_mx 132) (axt_rt 132)) := rfl
set_option maxRecDepth 20000 in
theorem axt_k133 : lw_tbl[1098]? = some (Cond.code (axt_y 133) (axt_b 133) (axt_mx 133) (axt_rt 133)) := rfl
set_option maxRecDepth 20000 in
theorem axt_k134 : lw_tbl[1102]? = some (Cond.code (axt_y 134) (axt_b 134) (axt_mx 134) (axt_rt 134)) := rfl
set_option maxRecDepth 20000 in
theorem axt_k135 : lw_tbl[1106]? = some (Cond.code (axt_y 135) (axt_b 135) (axt_mx 135) (axt_rt 135)) := rfl
set_option maxRecDepth 20000 in
theorem axt_k136 : lw_tbl[1110]? = some (Cond.code (axt_y 136) (axt_b 136) (axt_mx 136) (axt_rt 136)) := rfl
set_option maxRecDepth 20000 in
theorem axt_k137 : lw_tbl[1114]? = some (Cond.code (axt_y 137) (axt_b 137) (axt_mx 137) (axt_rt 137)) := rfl
set_option maxRecDepth 20000 in
theorem axt_k138 : lw_tbl[1118]? = some (Cond.code (axt_y 138) (axt_b 138) (axt_mx 138) (axt_rt 138)) := rfl
set_option maxRecDepth 20000 in
theorem axt_k139 : lw_tbl[1122]? = some (Cond.code (axt_y 139) (axt_b 139) (axt_mx 139) (axt_rt 139)) := rfl
set_option maxRecDepth 20000 in
theorem axt_k140 : lw_tbl[1125]? = some (Cond.code (axt_y 140) (axt_b 140) (axt_mx 140) (axt_rt 140)) := rfl
set_option maxRecDepth 20000 in
theorem axt_k141 : lw_tbl[1132]? = some (Cond.code (axt_y 141) (axt_b 141) (axt_mx 141) (axt_rt 141)) := rfl
set_option maxRecDepth 20000 in
theorem axt_k142 : lw_tbl[1136]? = some (Cond.code (axt_y 142) (axt_b 142) (axt_mx 142) (axt_rt 142)) := rfl
set_option maxRecDepth 20000 in
theorem axt_k143 : lw_tbl[1140]? = some (Cond.code (axt_y 143) (axt_b 143) (axt_mx 143) (axt_rt 143)) := rfl
set_option maxRecDepth 20000 in
theorem axt_k144 : lw_tbl[1147]? = some (Cond.code (axt_y 144) (axt_b 144) (axt_mx 144) (axt_rt 144)) := rfl
set_option maxRecDepth 20000 in
theorem axt_k145 : lw_tbl[1151]? = some (Cond.code (axt_y 145) (axt_b 145) (axt_mx 145) (axt_rt 145)) := rfl
set_option maxRecDepth 20000 in
theorem axt_k146 : lw_tbl[1155]? = some (Cond.code (axt_y 146) (axt_b 146) (axt_mx 146) (axt_rt 146)) := rfl
set_option maxRecDepth 20000 in
theorem axt_k147 : lw_tbl[1159]? = some (Cond.code (axt_y 147) (axt_b 147) (axt_mx 147) (axt_rt 147)) := rfl
set_option maxRecDepth 20000 in
theorem axt_k148 : lw_tbl[1163]? = some (Cond.code (axt_y 148) (axt_b 148) (axt_mx 148) (axt_rt 148)) := rfl
set_option maxRecDepth 20000 in
theorem axt_k149 : lw_tbl[1167]? = some (Cond.code (axt_y 149) (axt_b 149) (axt_mx 149) (axt_rt 149)) := rfl
set_option maxRecDepth 20000 in
theorem axt_k150 : lw_tbl[1171]? = some (Cond.code (axt_y 150) (axt_b 150) (axt_mx 150) (axt_rt 150)) := rfl
set_option maxRecDepth 20000 in
theorem axt_k151 : lw_tbl[1175]? = some (Cond.code (axt_y 151) (axt_b 151) (axt_mx 151) (axt_rt 151)) := rfl
set_option maxRecDepth 20000 in
theorem axt_k152 : lw_tbl[1180]? = some (Cond.code (axt_y 152) (axt_b 152) (axt_mx 152) (axt_rt 152)) := rfl
set_option maxRecDepth 20000 in
theorem axt_k153 : lw_tbl[1185]? = some (Cond.code (axt_y 153) (axt_b 153) (axt_mx 153) (axt_rt 153)) := rfl
set_option maxRecDepth 20000 in
theorem axt_k154 : lw_tbl[1189]? = some (Cond.code (axt_y 154) (axt_b 154) (axt_mx 154) (axt_rt 154)) := rfl
set_option maxRecDepth 20000 in
theorem axt_k155 : lw_tbl[1194]? = some (Cond.code (axt_y 155) (axt_b 155) (axt_mx 155) (axt_rt 155)) := rfl
set_option maxRecDepth 20000 in
theorem axt_k156 : lw_tbl[1203]? = some (Cond.code (axt_y 156) (axt_b 156) (axt_mx 156) (axt_rt 156)) := rfl
set_option maxRecDepth 20000 in
theorem axt_k157 : lw_tbl[1208]? = some (Cond.code (axt_y 157) (axt_b 157) (axt_mx 157) (axt_rt 157)) := rfl
set_option maxRecDepth 20000 in
theorem axt_k158 : lw_tbl[1212]? = some (Cond.code (axt_y 158) (axt_b 158) (axt_mx 158) (axt_rt 158)) := rfl
set_option maxRecDepth 20000 in
theorem axt_k159 : lw_tbl[1216]? = some (Cond.code (axt_y 159) (axt_b 159) (axt_mx 159) (axt_rt 159)) := rfl
set_option maxRecDepth 20000 in
theorem axt_k160 : lw_tbl[1220]? = some (Cond.code (axt_y 160) (axt_b 160) (axt_mx 160) (axt_rt 160)) := rfl
set_option maxRecDepth 20000 in
theorem axt_k161 : lw_tbl[1224]? = some (Cond.code (axt_y 161) (axt_b 161) (axt_mx 161) (axt_rt 161)) := rfl
set_option maxRecDepth 20000 in
theorem axt_k162 : lw_tbl[1227]? = some (Cond.code (axt_y 162) (axt_b 162) (axt_mx 162) (axt_rt 162)) := rfl
set_option maxRecDepth 20000 in
theorem axt_k163 : lw_tbl[1231]? = some (Cond.code (axt_y 163) (axt_b 163) (axt_mx 163) (axt_rt 163)) := rfl
set_option maxRecDepth 20000 in
theorem axt_k164 : lw_tbl[1235]? = some (Cond.code (axt_y 164) (axt_b 164) (axt_mx 164) (axt_rt 164)) := rfl
set_option maxRecDepth 20000 in
theorem axt_k165 : lw_tbl[1239]? = some (Cond.code (axt_y 165) (axt_b 165) (axt_mx 165) (axt_rt 165)) := rfl
set_option maxRecDepth 20000 in
theorem axt_k166 : lw_tbl[1244]? = some (Cond.code (axt_y 166) (axt_b 166) (axt_mx 166) (axt_rt 166)) := rfl
set_option maxRecDepth 20000 in
theorem axt_k167 : lw_tbl[1249]? = some (Cond.code (axt_y 167) (axt_b 167) (axt_mx 167) (axt_rt 167)) := rfl
set_option maxRecDepth 20000 in
theorem axt_k168 : lw_tbl[1254]? = some (Cond.code (axt_y 168) (axt_b 168) (axt_mx 168) (axt_rt 168)) := rfl
set_option maxRecDepth 20000 in
theorem axt_k169 : lw_tbl[1258]? = some (Cond.code (axt_y 169) (axt_b 169) (axt_mx 169) (axt_rt 169)) := rfl
set_option maxRecDepth 20000 in
theorem axt_k170 : lw_tbl[1263]? = some (Cond.code (axt_y 170) (axt_b 170) (axt_mx 170) (axt_rt 170)) := rfl
set_option maxRecDepth 20000 in
theorem axt_k171 : lw_tbl[1269]? = some (Cond.code (axt_y 171) (axt_b 171) (axt_mx 171) (axt_rt 171)) := rfl
set_option maxRecDepth 20000 in
theorem axt_k172 : lw_tbl[1274]? = some (Cond.code (axt_y 172) (axt_b 172) (axt_mx 172) (axt_rt 172)) := rfl
set_option maxRecDepth 20000 in
theorem axt_k173 : lw_tbl[1278]? = some (Cond.code (axt_y 173) (axt_b 173) (axt_mx 173) (axt_rt 173)) := rfl
set_option maxRecDepth 20000 in
theorem axt_k174 : lw_tbl[1281]? = some (Cond.code (axt_y 174) (axt_b 174) (axt_mx 174) (axt_rt 174)) := rfl
set_option maxRecDepth 20000 in
theorem axt_k175 : lw_tbl[1286]? = some (Cond.code (axt_y 175) (axt_b 175) (axt_mx 175) (axt_rt 175)) := rfl
set_option maxRecDepth 20000 in
theorem axt_k176 : lw_tbl[1412]? = some (Cond.code (axt_y 176) (axt_b 176) (axt_mx 176) (axt_rt 176)) := rfl
set_option maxRecDepth 20000 in
theorem axt_k177 : lw_tbl[1416]? = some (Cond.code (axt_y 177) (axt_b 177) (axt_mx 177) (axt_rt 177)) := rfl
set_option maxRecDepth 20000 in
theorem axt_k178 : lw_tbl[1420]? = some (Cond.code (axt_y 178) (axt_b 178) (axt_mx 178) (axt_rt 178)) := rfl
set_option maxRecDepth 20000 in
theorem axt_k179 : lw_tbl[1424]? = some (Cond.code (axt_y 179) (axt_b 179) (axt_mx 179) (axt_rt 179)) := rfl
set_option maxRecDepth 20000 in
theorem axt_k180 : lw_tbl[1428]? = some (Cond.code (axt_y 180) (axt_b 180) (axt_mx 180) (axt_rt 180)) := rfl
set_option maxRecDepth 20000 in
theorem axt_k181 : lw_tbl[1432]? = some (Cond.code (axt_y 181) (axt_b 181) (axt_mx 181) (axt_rt 181)) := rfl
set_option maxRecDepth 20000 in
theorem axt_k182 : lw_tbl[1436]? = some (Cond.code (axt_y 182) (axt_b 182) (axt_mx 182) (axt_rt 182)) := rfl
set_option maxRecDepth 20000 in
theorem axt_k183 : lw_tbl[1440]? = some (Cond.code (axt_y 183) (axt_b 183) (axt_mx 183) (axt_rt 183)) := rfl
set_option maxRecDepth 20000 in
theorem axt_k184 : lw_tbl[1444]? = some (Cond.code (axt_y 184) (axt_b 184) (axt_mx 184) (axt_rt 184)) := rfl
set_option maxRecDepth 20000 in
theorem axt_k185 : lw_tbl[1448]? = some (Cond.code (axt_y 185) (axt_b 185) (axt_mx 185) (axt_rt 185)) := rfl
set_option maxRecDepth 20000 in
theorem axt_k186 : lw_tbl[1452]? = some (Cond.code (axt_y 186) (axt_b 186) (axt_mx 186) (axt_rt 186)) := rfl
set_option maxRecDepth 20000 in
theorem axt_k187 : lw_tbl[1456]? = some (Cond.code (axt_y 187) (axt_b 187) (axt_mx 187) (axt_rt 187)) := rfl
set_option maxRecDepth 20000 in
theorem axt_k188 : lw_tbl[1460]? = some (Cond.code (axt_y 188) (axt_b 188) (axt_mx 188) (axt_rt 188)) := rfl
set_option maxRecDepth 20000 in
theorem axt_k189 : lw_tbl[1464]? = some (Cond.code (axt_y 189) (axt_b 189) (axt_mx 189) (axt_rt 189)) := rfl
set_option maxRecDepth 20000 in
theorem axt_k190 : lw_tbl[1468]? = some (Cond.code (axt_y 190) (axt_b 190) (axt_mx 190) (axt_rt 190)) := rfl
set_option maxRecDepth 20000 in
theorem axt_k191 : lw_tbl[1472]? = some (Cond.code (axt_y 191) (axt_b 191) (axt_mx 191) (axt_rt 191)) := rfl
set_option maxRecDepth 20000 in
theorem axt_k192 : lw_tbl[1476]? = some (Cond.code (axt_y 192) (axt_b 192) (axt_mx 192) (axt_rt 192)) := rfl
set_option maxRecDepth 20000 in
theorem axt_k193 : lw_tbl[1480]? = some (Cond.code (axt_y 193) (axt_b 193) (axt_mx 193) (axt_rt 193)) := rfl
set_option maxRecDepth 20000 in
theorem axt_k194 : lw_tbl[1484]? = some (Cond.code (axt_y 194) (axt_b 194) (axt_mx 194) (axt_rt 194)) := rfl
set_option maxRecDepth 20000 in
theorem axt_k195 : lw_tbl[1488]? = some (Cond.code (axt_y 195) (axt_b 195) (axt_mx 195) (axt_rt 195)) := rfl
set_option maxRecDepth 20000 in
theorem axt_k196 : lw_tbl[1492]? = some (Cond.code (axt_y 196) (axt_b 196) (axt_mx 196) (axt_rt 196)) := rfl
set_option maxRecDepth 20000 in
theorem axt_k197 : lw_tbl[1496]? = some (Cond.code (axt_y 197) (axt_b 197) (axt_mx 197) (axt_rt 197)) := rfl
set_option maxRecDepth 20000 in
theorem axt_k198 : lw_tbl[1500]? = some (Cond.code (axt_y 198) (axt_b 198) (axt_mx 198) (axt_rt 198)) := rfl
set_option maxRecDepth 20000 in
theorem axt_k199 : lw_tbl[1505]? = some (Cond.code (axt_y 199) (axt_b 199) (axt_mx 199) (axt_rt 199)) := rfl
set_option maxRecDepth 20000 in
theorem axt_k200 : lw_tbl[1509]? = some (Cond.code (axt_y 200) (axt_b 200) (axt_mx 200) (axt_rt 200)) := rfl
set_option maxRecDepth 20000 in
theorem axt_k201 : lw_tbl[1513]? = some (Cond.code (axt_y 201) (axt_b 201) (axt_mx 201) (axt_rt 201)) := rfl
set_option maxRecDepth 20000 in
theorem axt_k202 : lw_tbl[1517]? = some (Cond.code (axt_y 202) (axt_b 202) (axt_mx 202) (axt_rt 202)) := rfl
set_option maxRecDepth 20000 in
theorem axt_k203 : lw_tbl[1521]? = some (Cond.code (axt_y 203) (axt_b 203) (axt_mx 203) (axt_rt 203)) := rfl
set_option maxRecDepth 20000 in
theorem axt_k204 : lw_tbl[1525]? = some (Cond.code (axt_y 204) (axt_b 204) (axt_mx 204) (axt_rt 204)) := rfl
set_option maxRecDepth 20000 in
theorem axt_k205 : lw_tbl[1529]? = some (Cond.code (axt_y 205) (axt_b 205) (axt_mx 205) (axt_rt 205)) := rfl
set_option maxRecDepth 20000 in
theorem axt_k206 : lw_tbl[1533]? = some (Cond.code (axt_y 206) (axt_b 206) (axt_mx 206) (axt_rt 206)) := rfl
set_option maxRecDepth 20000 in
theorem axt_k207 : lw_tbl[1537]? = some (Cond.code (axt_y 207) (axt_b 207) (axt_mx 207) (axt_rt 207)) := rfl
set_option maxRecDepth 20000 in
theorem axt_k208 : lw_tbl[1541]? = some (Cond.code (axt_y 208) (axt_b 208) (axt_mx 208) (axt_rt 208)) := rfl
set_option maxRecDepth 20000 in
theorem axt_k209 : lw_tbl[1545]? = some (Cond.code (axt_y 209) (axt_b 209) (axt_mx 209) (axt_rt 209)) := rfl
set_option maxRecDepth 20000 in
theorem axt_k210 : lw_tbl[1549]? = some (Cond.code (axt_y 210) (axt_b 210) (axt_mx 210) (axt_rt 210)) := rfl
set_option maxRecDepth 20000 in
theorem axt_k211 : lw_tbl[1553]? = some (Cond.code (axt_y 211) (axt_b 211) (axt_mx 211) (axt_rt 211)) := rfl
set_option maxRecDepth 20000 in
theorem axt_k212 : lw_tbl[1557]? = some (Cond.code (axt_y 212) (axt_b 212) (axt_mx 212) (axt_rt 212)) := rfl
set_option maxRecDepth 20000 in
theorem axt_k213 : lw_tbl[1560]? = some (Cond.code (axt_y 213) (axt_b 213) (axt_mx 213) (axt_rt 213)) := rfl
set_option maxRecDepth 20000 in
theorem axt_k214 : lw_tbl[1568]? = some (Cond.code (axt_y 214) (axt_b 214) (axt_mx 214) (axt_rt 214)) := rfl
set_option maxRecDepth 20000 in
theorem axt_k215 : lw_tbl[1573]? = some (Cond.code (axt_y 215) (axt_b 215) (axt_mx 215) (axt_rt 215)) := rfl
set_option maxRecDepth 20000 in
theorem axt_k216 : lw_tbl[1577]? = some (Cond.code (axt_y 216) (axt_b 216) (axt_mx 216) (axt_rt 216)) := rfl
set_option maxRecDepth 20000 in
theorem axt_k217 : lw_tbl[1581]? = some (Cond.code (axt_y 217) (axt_b 217) (axt_mx 217) (axt_rt 217)) := rfl
set_option maxRecDepth 20000 in
theorem axt_k218 : lw_tbl[1584]? = some (Cond.code (axt_y 218) (axt_b 218) (axt_mx 218) (axt_rt 218)) := rfl
theorem axt_code_in {m : Nat} (h : m < axt_n) : Cond.code (axt_y m) (axt_b m) (axt_mx m) (axt_rt m) ∈ axt_ts := by
  match m, h with
  | 0, _ => exact axt_in _ axt_k0 rfl
  | 1, _ => exact axt_in _ axt_k1 rfl
  | 2, _ => exact axt_in _ axt_k2 rfl
  | 3, _ => exact axt_in _ axt_k3 rfl
  | 4, _ => exact axt_in _ axt_k4 rfl
  | 5, _ => exact axt_in _ axt_k5 rfl
  | 6, _ => exact axt_in _ axt_k6 rfl
  | 7, _ => exact axt_in _ axt_k7 rfl
  | 8, _ => exact axt_in _ axt_k8 rfl
  | 9, _ => exact axt_in _ axt_k9 rfl
  | 10, _ => exact axt_in _ axt_k10 rfl
  | 11, _ => exact axt_in _ axt_k11 rfl
  | 12, _ => exact axt_in _ axt_k12 rfl
  | 13, _ => exact axt_in _ axt_k13 rfl
  | 14, _ => exact axt_in _ axt_k14 rfl
  | 15, _ => exact axt_in _ axt_k15 rfl
  | 16, _ => exact axt_in _ axt_k16 rfl
  | 17, _ => exact axt_in _ axt_k17 rfl
  | 18, _ => exact axt_in _ axt_k18 rfl
  | 19, _ => exact axt_in _ axt_k19 rfl
  | 20, _ => exact axt_in _ axt_k20 rfl
  | 21, _ => exact axt_in _ axt_k21 rfl
  | 22, _ => exact axt_in _ axt_k22 rfl
  | 23, _ => exact axt_in _ axt_k23 rfl
  | 24, _ => exact axt_in _ axt_k24 rfl
  | 25, _ => exact axt_in _ axt_k25 rfl
  | 26, _ => exact axt_in _ axt_k26 rfl
  | 27, _ => exact axt_in _ axt_k27 rfl
  | 28, _ => exact axt_in _ axt_k28 rfl
  | 29, _ => exact axt_in _ axt_k29 rfl
  | 30, _ => exact axt_in _ axt_k30 rfl
  | 31, _ => exact axt_in _ axt_k31 rfl
  | 32, _ => exact axt_in _ axt_k32 rfl
  | 33, _ => exact axt_in _ axt_k33 rfl
  | 34, _ => exact axt_in _ axt_k34 rfl
  | 35, _ => exact axt_in _ axt_k35 rfl
  | 36, _ => exact axt_in _ axt_k36 rfl
  | 37, _ => exact axt_in _ axt_k37 rfl
  | 38, _ => exact axt_in _ axt_k38 rfl
  | 39, _ => exact axt_in _ axt_k39 rfl
  | 40, _ => exact axt_in _ axt_k40 rfl
  | 41, _ => exact axt_in _ axt_k41 rfl
  | 42, _ => exact axt_in _ axt_k42 rfl
  | 43, _ => exact axt_in _ axt_k43 rfl
  | 44, _ => exact axt_in _ axt_k44 rfl
  | 45, _ => exact axt_in _ axt_k45 rfl
  | 46, _ => exact axt_in _ axt_k46 rfl
  | 47, _ => exact axt_in _ axt_k47 rfl
  | 48, _ => exact axt_in _ axt_k48 rfl
  | 49, _ => exact axt_in _ axt_k49 rfl
  | 50, _ => exact axt_in _ axt_k50 rfl
  | 51, _ => exact axt_in _ axt_k51 rfl
  | 52, _ => exact axt_in _ axt_k52 rfl
  | 53, _ => exact axt_in _ axt_k53 rfl
  | 54, _ => exact axt_in _ axt_k54 rfl
  | 55, _ => exact axt_in _ axt_k55 rfl
  | 56, _ => exact axt_in _ axt_k56 rfl
  | 57, _ => exact axt_in _ axt_k57 rfl
  | 58, _ => exact axt_in _ axt_k58 rfl
  | 59, _ => exact axt_in _ axt_k59 rfl
  | 60, _ => exact axt_in _ axt_k60 rfl
  | 61, _ => exact axt_in _ axt_k61 rfl
  | 62, _ => exact axt_in _ axt_k62 rfl
  | 63, _ => exact axt_in _ axt_k63 rfl
  | 64, _ => exact axt_in _ axt_k64 rfl
  | 65, _ => exact axt_in _ axt_k65 rfl
  | 66, _ => exact axt_in _ axt_k66 rfl
  | 67, _ => exact axt_in _ axt_k67 rfl
  | 68, _ => exact axt_in _ axt_k68 rfl
  | 69, _ => exact axt_in _ axt_k69 rfl
  | 70, _ => exact axt_in _ axt_k70 rfl
  | 71, _ => exact axt_in _ axt_k71 rfl
  | 72, _ => exact axt_in _ axt_k72 rfl
  | 73, _ => exact axt_in _ axt_k73 rfl
  | 74, _ => exact axt_in _ axt_k74 rfl
  | 75, _ => exact axt_in _ axt_k75 rfl
  | 76, _ => exact axt_in _ axt_k76 rfl
  | 77, _ => exact axt_in _ axt_k77 rfl
  | 78, _ => exact axt_in _ axt_k78 rfl
  | 79, _ => exact axt_in _ axt_k79 rfl
  | 80, _ => exact axt_in _ axt_k80 rfl
  | 81, _ => exact axt_in _ axt_k81 rfl
  | 82, _ => exact axt_in _ axt_k82 rfl
  | 83, _ => exact axt_in _ axt_k83 rfl
  | 84, _ => exact axt_in _ axt_k84 rfl
  | 85, _ => exact axt_in _ axt_k85 rfl
  | 86, _ => exact axt_in _ axt_k86 rfl
  | 87, _ => exact axt_in _ axt_k87 rfl
  | 88, _ => exact axt_in _ axt_k88 rfl
  | 89, _ => exact axt_in _ axt_k89 rfl
  | 90, _ => exact axt_in _ axt_k90 rfl
  | 91, _ => exact axt_in _ axt_k91 rfl
  | 92, _ => exact axt_in _ axt_k92 rfl
  | 93, _ => exact axt_in _ axt_k93 rfl
  | 94, _ => exact axt_in _ axt_k94 rfl
  | 95, _ => exact axt_in _ axt_k95 rfl
  | 96, _ => exact axt_in _ axt_k96 rfl
  | 97, _ => exact axt_in _ axt_k97 rfl
  | 98, _ => exact axt_in _ axt_k98 rfl
  | 99, _ => exact axt_in _ axt_k99 rfl
  | 100, _ => exact axt_in _ axt_k100 rfl
  | 101, _ => exact axt_in _ axt_k101 rfl
  | 102, _ => exact axt_in _ axt_k102 rfl
  | 103, _ => exact axt_in _ axt_k103 rfl
  | 104, _ => exact axt_in _ axt_k104 rfl
  | 105, _ => exact axt_in _ axt_k105 rfl
  | 106, _ => exact axt_in _ axt_k106 rfl
  | 107, _ => exact axt_in _ axt_k107 rfl
  | 108, _ => exact axt_in _ axt_k108 rfl
  | 109, _ => exact axt_in _ axt_k109 rfl
  | 110, _ => exact axt_in _ axt_k110 rfl
  | 111, _ => exact axt_in _ axt_k111 rfl
  | 112, _ => exact axt_in _ axt_k112 rfl
  | 113, _ => exact axt_in _ axt_k113 rfl
  | 114, _ => exact axt_in _ axt_k114 rfl
  | 115, _ => exact axt_in _ axt_k115 rfl
  | 116, _ => exact axt_in _ axt_k116 rfl
  | 117, _ => exact axt_in _ axt_k117 rfl
  | 118, _ => exact axt_in _ axt_k118 rfl
  | 119, _ => exact axt_in _ axt_k119 rfl
  | 120, _ => exact axt_in _ axt_k120 rfl
  | 121, _ => exact axt_in _ axt_k121 rfl
  | 122, _ => exact axt_in _ axt_k122 rfl
  | 123, _ => exact axt_in _ axt_k123 rfl
  | 124, _ => exact axt_in _ axt_k124 rfl
  | 125, _ => exact axt_in _ axt_k125 rfl
  | 126, _ => exact axt_in _ axt_k126 rfl
  | 127, _ => exact axt_in _ axt_k127 rfl
  | 128, _ => exact axt_in _ axt_k128 rfl
  | 129, _ => exact axt_in _ axt_k129 rfl
  | 130, _ => exact axt_in _ axt_k130 rfl
  | 131, _ => exact axt_in _ axt_k131 rfl
  | 132, _ => exact axt_in _ axt_k132 rfl
  | 133, _ => exact axt_in _ axt_k133 rfl
  | 134, _ => exact axt_in _ axt_k134 rfl
  | 135, _ => exact axt_in _ axt_k135 rfl
  | 136, _ => exact axt_in _ axt_k136 rfl
  | 137, _ => exact axt_in _ axt_k137 rfl
  | 138, _ => exact axt_in _ axt_k138 rfl
  | 139, _ => exact axt_in _ axt_k139 rfl
  | 140, _ => exact axt_in _ axt_k140 rfl
  | 141, _ => exact axt_in _ axt_k141 rfl
  | 142, _ => exact axt_in _ axt_k142 rfl
  | 143, _ => exact axt_in _ axt_k143 rfl
  | 144, _ => exact axt_in _ axt_k144 rfl
  | 145, _ => exact axt_in _ axt_k145 rfl
  | 146, _ => exact axt_in _ axt_k146 rfl
  | 147, _ => exact axt_in _ axt_k147 rfl
  | 148, _ => exact axt_in _ axt_k148 rfl
  | 149, _ => exact axt_in _ axt_k149 rfl
  | 150, _ => exact axt_in _ axt_k150 rfl
  | 151, _ => exact axt_in _ axt_k151 rfl
  | 152, _ => exact axt_in _ axt_k152 rfl
  | 153, _ => exact axt_in _ axt_k153 rfl
  | 154, _ => exact axt_in _ axt_k154 rfl
  | 155, _ => exact axt_in _ axt_k155 rfl
  | 156, _ => exact axt_in _ axt_k156 rfl
  | 157, _ => exact axt_in _ axt_k157 rfl
  | 158, _ => exact axt_in _ axt_k158 rfl
  | 159, _ => exact axt_in _ axt_k159 rfl
  | 160, _ => exact axt_in _ axt_k160 rfl
  | 161, _ => exact axt_in _ axt_k161 rfl
  | 162, _ => exact axt_in _ axt_k162 rfl
  | 163, _ => exact axt_in _ axt_k163 rfl
  | 164, _ => exact axt_in _ axt_k164 rfl
  | 165, _ => exact axt_in _ axt_k165 rfl
  | 166, _ => exact axt_in _ axt_k166 rfl
  | 167, _ => exact axt_in _ axt_k167 rfl
  | 168, _ => exact axt_in _ axt_k168 rfl
  | 169, _ => exact axt_in _ axt_k169 rfl
  | 170, _ => exact axt_in _ axt_k170 rfl
  | 171, _ => exact axt_in _ axt_k171 rfl
  | 172, _ => exact axt_in _ axt_k172 rfl
  | 173, _ => exact axt_in _ axt_k173 rfl
  | 174, _ => exact axt_in _ axt_k174 rfl
  | 175, _ => exact axt_in _ axt_k175 rfl
  | 176, _ => exact axt_in _ axt_k176 rfl
  | 177, _ => exact axt_in _ axt_k177 rfl
  | 178, _ => exact axt_in _ axt_k178 rfl
  | 179, _ => exact axt_in _ axt_k179 rfl
  | 180, _ => exact axt_in _ axt_k180 rfl
  | 181, _ => exact axt_in _ axt_k181 rfl
  | 182, _ => exact axt_in _ axt_k182 rfl
  | 183, _ => exact axt_in _ axt_k183 rfl
  | 184, _ => exact axt_in _ axt_k184 rfl
  | 185, _ => exact axt_in _ axt_k185 rfl
  | 186, _ => exact axt_in _ axt_k186 rfl
  | 187, _ => exact axt_in _ axt_k187 rfl
  | 188, _ => exact axt_in _ axt_k188 rfl
  | 189, _ => exact axt_in _ axt_k189 rfl
  | 190, _ => exact axt_in _ axt_k190 rfl
  | 191, _ => exact axt_in _ axt_k191 rfl
  | 192, _ => exact axt_in _ axt_k192 rfl
  | 193, _ => exact axt_in _ axt_k193 rfl
  | 194, _ => exact axt_in _ axt_k194 rfl
  | 195, _ => exact axt_in _ axt_k195 rfl
  | 196, _ => exact axt_in _ axt_k196 rfl
  | 197, _ => exact axt_in _ axt_k197 rfl
  | 198, _ => exact axt_in _ axt_k198 rfl
  | 199, _ => exact axt_in _ axt_k199 rfl
  | 200, _ => exact axt_in _ axt_k200 rfl
  | 201, _ => exact axt_in _ axt_k201 rfl
  | 202, _ => exact axt_in _ axt_k202 rfl
  | 203, _ => exact axt_in _ axt_k203 rfl
  | 204, _ => exact axt_in _ axt_k204 rfl
  | 205, _ => exact axt_in _ axt_k205 rfl
  | 206, _ => exact axt_in _ axt_k206 rfl
  | 207, _ => exact axt_in _ axt_k207 rfl
  | 208, _ => exact axt_in _ axt_k208 rfl
  | 209, _ => exact axt_in _ axt_k209 rfl
  | 210, _ => exact axt_in _ axt_k210 rfl
  | 211, _ => exact axt_in _ axt_k211 rfl
  | 212, _ => exact axt_in _ axt_k212 rfl
  | 213, _ => exact axt_in _ axt_k213 rfl
  | 214, _ => exact axt_in _ axt_k214 rfl
  | 215, _ => exact axt_in _ axt_k215 rfl
  | 216, _ => exact axt_in _ axt_k216 rfl
  | 217, _ => exact axt_in _ axt_k217 rfl
  | 218, _ => exact axt_in _ axt_k218 rfl
  | n + 219, h => exact absurd h (by unfold axt_n; omega)


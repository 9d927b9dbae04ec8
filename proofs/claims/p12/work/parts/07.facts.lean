/-! FACTS on the tables that a program decides -/
theorem axt_nm0 : ∀ a, a < 11 → ∀ b, b < 11 → a ≠ b → (axt_T0 a).2.1 ≠ (axt_T0 b).2.1 := by decide +kernel
theorem axt_ty_0 : ∀ k, k < 11 → parseFieldDescriptor (axt_T0 k).2.2.1 = some (axt_fty 0 k) := by decide +kernel
theorem axt_w0 : ∀ k, k < 11 → lw_tbl[([668, 670, 672, 674, 676, 678, 680, 682, 684, 686, 688] : List Nat).getD k 0]? = some (u_lay "StripedStore" axt_T0 k) := by decide +kernel
theorem axt_in0 : ∀ w ∈ u_ws "StripedStore" axt_T0 11, w ∈ axt_ts := by
  intro w hw
  obtain ⟨k, hk, rfl⟩ := List.mem_map.mp hw
  refine axt_in _ (axt_w0 k (List.mem_range.mp hk)) ?_
  unfold u_lay
  split <;> rfl
theorem axt_df_0 : ∀ j, j < 11 → defaultValue (axt_fty 0 j) = vp_V (axt_df 0) j := by decide +kernel
theorem axt_nm1 : ∀ a, a < 4 → ∀ b, b < 4 → a ≠ b → (axt_T1 a).2.1 ≠ (axt_T1 b).2.1 := by decide +kernel
theorem axt_ty_1 : ∀ k, k < 4 → parseFieldDescriptor (axt_T1 k).2.2.1 = some (axt_fty 1 k) := by decide +kernel
theorem axt_w1 : ∀ k, k < 4 → lw_tbl[([172, 174, 176, 178] : List Nat).getD k 0]? = some (u_lay "StripedStore$Net" axt_T1 k) := by decide +kernel
theorem axt_in1 : ∀ w ∈ u_ws "StripedStore$Net" axt_T1 4, w ∈ axt_ts := by
  intro w hw
  obtain ⟨k, hk, rfl⟩ := List.mem_map.mp hw
  refine axt_in _ (axt_w1 k (List.mem_range.mp hk)) ?_
  unfold u_lay
  split <;> rfl
theorem axt_df_1 : ∀ j, j < 4 → defaultValue (axt_fty 1 j) = vp_V (axt_df 1) j := by decide +kernel
theorem axt_nm2 : ∀ a, a < 9 → ∀ b, b < 9 → a ≠ b → (axt_T2 a).2.1 ≠ (axt_T2 b).2.1 := by decide +kernel
theorem axt_ty_2 : ∀ k, k < 9 → parseFieldDescriptor (axt_T2 k).2.2.1 = some (axt_fty 2 k) := by decide +kernel
theorem axt_w2 : ∀ k, k < 9 → lw_tbl[([146, 148, 150, 152, 154, 156, 158, 160, 162] : List Nat).getD k 0]? = some (u_lay "StripedStore$Message" axt_T2 k) := by decide +kernel
theorem axt_in2 : ∀ w ∈ u_ws "StripedStore$Message" axt_T2 9, w ∈ axt_ts := by
  intro w hw
  obtain ⟨k, hk, rfl⟩ := List.mem_map.mp hw
  refine axt_in _ (axt_w2 k (List.mem_range.mp hk)) ?_
  unfold u_lay
  split <;> rfl
theorem axt_df_2 : ∀ j, j < 9 → defaultValue (axt_fty 2 j) = vp_V (axt_df 2) j := by decide +kernel
theorem axt_nm3 : ∀ a, a < 4 → ∀ b, b < 4 → a ≠ b → (axt_T3 a).2.1 ≠ (axt_T3 b).2.1 := by decide +kernel
theorem axt_ty_3 : ∀ k, k < 4 → parseFieldDescriptor (axt_T3 k).2.2.1 = some (axt_fty 3 k) := by decide +kernel
theorem axt_w3 : ∀ k, k < 4 → lw_tbl[([214, 216, 218, 220] : List Nat).getD k 0]? = some (u_lay "StripedStore$Ranks" axt_T3 k) := by decide +kernel
theorem axt_in3 : ∀ w ∈ u_ws "StripedStore$Ranks" axt_T3 4, w ∈ axt_ts := by
  intro w hw
  obtain ⟨k, hk, rfl⟩ := List.mem_map.mp hw
  refine axt_in _ (axt_w3 k (List.mem_range.mp hk)) ?_
  unfold u_lay
  split <;> rfl
theorem axt_df_3 : ∀ j, j < 4 → defaultValue (axt_fty 3 j) = vp_V (axt_df 3) j := by decide +kernel
theorem axt_nm4 : ∀ a, a < 16 → ∀ b, b < 16 → a ≠ b → (axt_T4 a).2.1 ≠ (axt_T4 b).2.1 := by decide +kernel
theorem axt_ty_4 : ∀ k, k < 16 → parseFieldDescriptor (axt_T4 k).2.2.1 = some (axt_fty 4 k) := by decide +kernel
theorem axt_w4 : ∀ k, k < 16 → lw_tbl[([304, 306, 308, 310, 312, 314, 316, 318, 320, 322, 324, 326, 328, 330, 332, 334] : List Nat).getD k 0]? = some (u_lay "StripedStore$Askers" axt_T4 k) := by decide +kernel
theorem axt_in4 : ∀ w ∈ u_ws "StripedStore$Askers" axt_T4 16, w ∈ axt_ts := by
  intro w hw
  obtain ⟨k, hk, rfl⟩ := List.mem_map.mp hw
  refine axt_in _ (axt_w4 k (List.mem_range.mp hk)) ?_
  unfold u_lay
  split <;> rfl
theorem axt_df_4 : ∀ j, j < 16 → defaultValue (axt_fty 4 j) = vp_V (axt_df 4) j := by decide +kernel
theorem axt_nm5 : ∀ a, a < 8 → ∀ b, b < 8 → a ≠ b → (axt_T5 a).2.1 ≠ (axt_T5 b).2.1 := by decide +kernel
theorem axt_ty_5 : ∀ k, k < 8 → parseFieldDescriptor (axt_T5 k).2.2.1 = some (axt_fty 5 k) := by decide +kernel
theorem axt_w5 : ∀ k, k < 8 → lw_tbl[([261, 263, 265, 267, 269, 271, 273, 275] : List Nat).getD k 0]? = some (u_lay "StripedStore$Asked" axt_T5 k) := by decide +kernel
theorem axt_in5 : ∀ w ∈ u_ws "StripedStore$Asked" axt_T5 8, w ∈ axt_ts := by
  intro w hw
  obtain ⟨k, hk, rfl⟩ := List.mem_map.mp hw
  refine axt_in _ (axt_w5 k (List.mem_range.mp hk)) ?_
  unfold u_lay
  split <;> rfl
theorem axt_df_5 : ∀ j, j < 8 → defaultValue (axt_fty 5 j) = vp_V (axt_df 5) j := by decide +kernel
theorem axt_nm6 : ∀ a, a < 11 → ∀ b, b < 11 → a ≠ b → (axt_T6 a).2.1 ≠ (axt_T6 b).2.1 := by decide +kernel
theorem axt_ty_6 : ∀ k, k < 11 → parseFieldDescriptor (axt_T6 k).2.2.1 = some (axt_fty 6 k) := by decide +kernel
theorem axt_w6 : ∀ k, k < 11 → lw_tbl[([374, 376, 378, 380, 382, 384, 386, 388, 390, 392, 394] : List Nat).getD k 0]? = some (u_lay "StripedStore$Table" axt_T6 k) := by decide +kernel
theorem axt_in6 : ∀ w ∈ u_ws "StripedStore$Table" axt_T6 11, w ∈ axt_ts := by
  intro w hw
  obtain ⟨k, hk, rfl⟩ := List.mem_map.mp hw
  refine axt_in _ (axt_w6 k (List.mem_range.mp hk)) ?_
  unfold u_lay
  split <;> rfl
theorem axt_df_6 : ∀ j, j < 11 → defaultValue (axt_fty 6 j) = vp_V (axt_df 6) j := by decide +kernel
theorem axt_nm7 : ∀ a, a < 9 → ∀ b, b < 9 → a ≠ b → (axt_T7 a).2.1 ≠ (axt_T7 b).2.1 := by decide +kernel
theorem axt_ty_7 : ∀ k, k < 9 → parseFieldDescriptor (axt_T7 k).2.2.1 = some (axt_fty 7 k) := by decide +kernel
theorem axt_w7 : ∀ k, k < 9 → lw_tbl[([559, 561, 563, 565, 567, 569, 571, 573, 575] : List Nat).getD k 0]? = some (u_lay "StripedStore$Node" axt_T7 k) := by decide +kernel
theorem axt_in7 : ∀ w ∈ u_ws "StripedStore$Node" axt_T7 9, w ∈ axt_ts := by
  intro w hw
  obtain ⟨k, hk, rfl⟩ := List.mem_map.mp hw
  refine axt_in _ (axt_w7 k (List.mem_range.mp hk)) ?_
  unfold u_lay
  split <;> rfl
theorem axt_df_7 : ∀ j, j < 9 → defaultValue (axt_fty 7 j) = vp_V (axt_df 7) j := by decide +kernel
theorem axt_nm8 : ∀ a, a < 5 → ∀ b, b < 5 → a ≠ b → (axt_T8 a).2.1 ≠ (axt_T8 b).2.1 := by decide +kernel
theorem axt_ty_8 : ∀ k, k < 5 → parseFieldDescriptor (axt_T8 k).2.2.1 = some (axt_fty 8 k) := by decide +kernel
theorem axt_w8 : ∀ k, k < 5 → lw_tbl[([421, 423, 425, 427, 429] : List Nat).getD k 0]? = some (u_lay "StripedStore$Disk" axt_T8 k) := by decide +kernel
theorem axt_in8 : ∀ w ∈ u_ws "StripedStore$Disk" axt_T8 5, w ∈ axt_ts := by
  intro w hw
  obtain ⟨k, hk, rfl⟩ := List.mem_map.mp hw
  refine axt_in _ (axt_w8 k (List.mem_range.mp hk)) ?_
  unfold u_lay
  split <;> rfl
theorem axt_df_8 : ∀ j, j < 5 → defaultValue (axt_fty 8 j) = vp_V (axt_df 8) j := by decide +kernel
theorem axt_nm9 : ∀ a, a < 15 → ∀ b, b < 15 → a ≠ b → (axt_T9 a).2.1 ≠ (axt_T9 b).2.1 := by decide +kernel
theorem axt_ty_9 : ∀ k, k < 15 → parseFieldDescriptor (axt_T9 k).2.2.1 = some (axt_fty 9 k) := by decide +kernel
theorem axt_w9 : ∀ k, k < 15 → lw_tbl[([515, 517, 519, 521, 523, 525, 527, 529, 531, 533, 535, 537, 539, 541, 543] : List Nat).getD k 0]? = some (u_lay "StripedStore$Leader" axt_T9 k) := by decide +kernel
theorem axt_in9 : ∀ w ∈ u_ws "StripedStore$Leader" axt_T9 15, w ∈ axt_ts := by
  intro w hw
  obtain ⟨k, hk, rfl⟩ := List.mem_map.mp hw
  refine axt_in _ (axt_w9 k (List.mem_range.mp hk)) ?_
  unfold u_lay
  split <;> rfl
theorem axt_df_9 : ∀ j, j < 15 → defaultValue (axt_fty 9 j) = vp_V (axt_df 9) j := by decide +kernel
theorem axt_nm10 : ∀ a, a < 15 → ∀ b, b < 15 → a ≠ b → (axt_T10 a).2.1 ≠ (axt_T10 b).2.1 := by decide +kernel
theorem axt_ty_10 : ∀ k, k < 15 → parseFieldDescriptor (axt_T10 k).2.2.1 = some (axt_fty 10 k) := by decide +kernel
theorem axt_w10 : ∀ k, k < 15 → lw_tbl[([469, 471, 473, 475, 477, 479, 481, 483, 485, 487, 489, 491, 493, 495, 497] : List Nat).getD k 0]? = some (u_lay "StripedStore$Work" axt_T10 k) := by decide +kernel
theorem axt_in10 : ∀ w ∈ u_ws "StripedStore$Work" axt_T10 15, w ∈ axt_ts := by
  intro w hw
  obtain ⟨k, hk, rfl⟩ := List.mem_map.mp hw
  refine axt_in _ (axt_w10 k (List.mem_range.mp hk)) ?_
  unfold u_lay
  split <;> rfl
theorem axt_df_10 : ∀ j, j < 15 → defaultValue (axt_fty 10 j) = vp_V (axt_df 10) j := by decide +kernel
theorem axt_nm11 : ∀ a, a < 39 → ∀ b, b < 39 → a ≠ b → (axt_T11 a).2.1 ≠ (axt_T11 b).2.1 := by decide +kernel
theorem axt_ty_11 : ∀ k, k < 39 → parseFieldDescriptor (axt_T11 k).2.2.1 = some (axt_fty 11 k) := by decide +kernel
theorem axt_w11 : ∀ k, k < 39 → lw_tbl[([1328, 1330, 1332, 1334, 1336, 1338, 1340, 1342, 1344, 1346, 1348, 1350, 1352, 1354, 1356, 1358, 1360, 1362, 1364, 1366, 1368, 1370, 1372, 1374, 1376, 1378, 1380, 1382, 1384, 1386, 1388, 1390, 1392, 1394, 1396, 1398, 1400, 1402, 1404] : List Nat).getD k 0]? = some (u_lay "StripedStoreModel" axt_T11 k) := by decide +kernel
theorem axt_in11 : ∀ w ∈ u_ws "StripedStoreModel" axt_T11 39, w ∈ axt_ts := by
  intro w hw
  obtain ⟨k, hk, rfl⟩ := List.mem_map.mp hw
  refine axt_in _ (axt_w11 k (List.mem_range.mp hk)) ?_
  unfold u_lay
  split <;> rfl
theorem axt_df_11 : ∀ j, j < 39 → defaultValue (axt_fty 11 j) = vp_V (axt_df 11) j := by decide +kernel
theorem axt_cl_ok {ci : Nat} {r : vw_C} (h : axt_cl[ci]? = some r) : (∀ k, k < r.2.2 → parseFieldDescriptor (r.2.1 k).2.2.1 = some (axt_fty ci k)) ∧ ∀ a, a < r.2.2 → ∀ b, b < r.2.2 → a ≠ b → (r.2.1 a).2.1 ≠ (r.2.1 b).2.1 := by
  match ci, h with
  | 0, h => cases h; exact ⟨axt_ty_0, axt_nm0⟩
  | 1, h => cases h; exact ⟨axt_ty_1, axt_nm1⟩
  | 2, h => cases h; exact ⟨axt_ty_2, axt_nm2⟩
  | 3, h => cases h; exact ⟨axt_ty_3, axt_nm3⟩
  | 4, h => cases h; exact ⟨axt_ty_4, axt_nm4⟩
  | 5, h => cases h; exact ⟨axt_ty_5, axt_nm5⟩
  | 6, h => cases h; exact ⟨axt_ty_6, axt_nm6⟩
  | 7, h => cases h; exact ⟨axt_ty_7, axt_nm7⟩
  | 8, h => cases h; exact ⟨axt_ty_8, axt_nm8⟩
  | 9, h => cases h; exact ⟨axt_ty_9, axt_nm9⟩
  | 10, h => cases h; exact ⟨axt_ty_10, axt_nm10⟩
  | 11, h => cases h; exact ⟨axt_ty_11, axt_nm11⟩
  | n + 12, h => simp [axt_cl] at h
theorem axt_cl_in {ci : Nat} {r : vw_C} (h : axt_cl[ci]? = some r) : ∀ w ∈ u_ws r.1 r.2.1 r.2.2, w ∈ axt_ts := by
  match ci, h with
  | 0, h => cases h; exact axt_in0
  | 1, h => cases h; exact axt_in1
  | 2, h => cases h; exact axt_in2
  | 3, h => cases h; exact axt_in3
  | 4, h => cases h; exact axt_in4
  | 5, h => cases h; exact axt_in5
  | 6, h => cases h; exact axt_in6
  | 7, h => cases h; exact axt_in7
  | 8, h => cases h; exact axt_in8
  | 9, h => cases h; exact axt_in9
  | 10, h => cases h; exact axt_in10
  | 11, h => cases h; exact axt_in11
  | n + 12, h => simp [axt_cl] at h
theorem axt_cl_df {ci : Nat} {r : vw_C} (h : axt_cl[ci]? = some r) : axt_N ci = r.2.2 ∧ (∀ j, j < r.2.2 → defaultValue (axt_fty ci j) = vp_V (axt_df ci) j) ∧ ∀ v ∈ axt_df ci, ∀ a, v ≠ .ref a := by
  match ci, h with
  | 0, h => cases h; exact ⟨rfl, axt_df_0, fun v hv a e => by subst e; revert hv; simp [axt_df, axt_dfs]⟩
  | 1, h => cases h; exact ⟨rfl, axt_df_1, fun v hv a e => by subst e; revert hv; simp [axt_df, axt_dfs]⟩
  | 2, h => cases h; exact ⟨rfl, axt_df_2, fun v hv a e => by subst e; revert hv; simp [axt_df, axt_dfs]⟩
  | 3, h => cases h; exact ⟨rfl, axt_df_3, fun v hv a e => by subst e; revert hv; simp [axt_df, axt_dfs]⟩
  | 4, h => cases h; exact ⟨rfl, axt_df_4, fun v hv a e => by subst e; revert hv; simp [axt_df, axt_dfs]⟩
  | 5, h => cases h; exact ⟨rfl, axt_df_5, fun v hv a e => by subst e; revert hv; simp [axt_df, axt_dfs]⟩
  | 6, h => cases h; exact ⟨rfl, axt_df_6, fun v hv a e => by subst e; revert hv; simp [axt_df, axt_dfs]⟩
  | 7, h => cases h; exact ⟨rfl, axt_df_7, fun v hv a e => by subst e; revert hv; simp [axt_df, axt_dfs]⟩
  | 8, h => cases h; exact ⟨rfl, axt_df_8, fun v hv a e => by subst e; revert hv; simp [axt_df, axt_dfs]⟩
  | 9, h => cases h; exact ⟨rfl, axt_df_9, fun v hv a e => by subst e; revert hv; simp [axt_df, axt_dfs]⟩
  | 10, h => cases h; exact ⟨rfl, axt_df_10, fun v hv a e => by subst e; revert hv; simp [axt_df, axt_dfs]⟩
  | 11, h => cases h; exact ⟨rfl, axt_df_11, fun v hv a e => by subst e; revert hv; simp [axt_df, axt_dfs]⟩
  | n + 12, h => simp [axt_cl] at h
theorem axt_fls_ok : (List.range axt_fls.length).all (fun o => (axt_fls.getD o []).all (fun e => match axt_cl[e.2.1]? with
    | some r => decide (e.2.2.1 < r.2.2) && decide (lw_tbl[e.2.2.2]? = some (Cond.fieldLink (axt_on o) e.1 (r.2.1 e.2.2.1).1 (r.2.1 e.2.2.1).2.1 (r.2.1 e.2.2.1).2.2.1))
    | none => false)) = true := by decide +kernel
theorem axt_fld_ok {o i ci k : Nat} (h : axt_fld o i = some (ci, k)) : ∃ r : vw_C, axt_cl[ci]? = some r ∧ k < r.2.2 ∧ (∀ w ∈ u_ws r.1 r.2.1 r.2.2, w ∈ axt_ts) ∧ (Cond.fieldLink (axt_on o) i (r.2.1 k).1 (r.2.1 k).2.1 (r.2.1 k).2.2.1 ∈ axt_ts ∨ ∃ ho, (axt_on o, i, (r.2.1 k).1, (r.2.1 k).2.1, (r.2.1 k).2.2.1, ho) ∈ axt_nf) := by
  unfold axt_fld at h
  obtain ⟨⟨c, k', p⟩, he, hh⟩ := Option.map_eq_some_iff.mp h
  cases hh
  have q := ax_all2 axt_fls_ok (ax_fnd_mem he)
  dsimp only at q
  split at q
  · next r hr =>
    rw [Bool.and_eq_true, decide_eq_true_eq, decide_eq_true_eq] at q
    exact ⟨r, hr, q.1, axt_cl_in hr, Or.inl (axt_in _ q.2 rfl)⟩
  · cases q
theorem axt_pok_ok {m c k : Nat} {r : vw_C} (h : axt_pok m c k = true) (hr : axt_cl[c]? = some r) : (r.2.1 k).2.2.2 = false ∨ ((r.2.1 k).2.2.2 = true ∧ (axt_y m).name = "<init>" ∧ (r.2.1 k).1 = axt_on (axt_ow m)) := by
  unfold axt_pok at h
  rw [hr] at h
  dsimp only at h
  cases hf : (r.2.1 k).2.2.2 with
  | false => exact Or.inl rfl
  | true =>
    rw [hf] at h
    simp only [Bool.not_true, Bool.false_or, Bool.and_eq_true, beq_iff_eq] at h
    exact Or.inr ⟨rfl, h.1, h.2⟩
theorem axt_fin_own {o i : Nat} {a b c : String} (ho : String) : ¬ (axt_on o, i, a, b, c, ho) ∈ axt_nf := by simp [axt_nf]
theorem axt_nws_ok : (List.range axt_nws.length).all (fun o => (axt_nws.getD o []).all (fun e => match axt_cl[e.2.1]? with
    | some r => decide (lw_tbl[e.2.2.1]? = some (Cond.classLink (axt_on o) e.1 r.1)) && (decide (lw_tbl[e.2.2.2.1]? = some (Cond.instantiable r.1 r.2.2)) && decide (lw_tbl[e.2.2.2.2]? = some (Cond.initialized r.1)))
    | none => false)) = true := by decide +kernel
theorem axt_new_ok {o i ci : Nat} (h : axt_new o i = some ci) : ∃ r : vw_C, axt_cl[ci]? = some r ∧ (∀ w ∈ u_ws r.1 r.2.1 r.2.2, w ∈ axt_ts) ∧ Cond.classLink (axt_on o) i r.1 ∈ axt_ts ∧ Cond.instantiable r.1 r.2.2 ∈ axt_ts ∧ Cond.initialized r.1 ∈ axt_ts ∧ axt_N ci = r.2.2 ∧ (∀ j, j < r.2.2 → defaultValue (axt_fty ci j) = vp_V (axt_df ci) j) ∧ ∀ v ∈ axt_df ci, ∀ a, v ≠ .ref a := by
  unfold axt_new at h
  obtain ⟨⟨c, p1, p2, p3⟩, he, hh⟩ := Option.map_eq_some_iff.mp h
  cases hh
  have q := ax_all2 axt_nws_ok (ax_fnd_mem he)
  dsimp only at q
  split at q
  · next r hr =>
    rw [Bool.and_eq_true, Bool.and_eq_true, decide_eq_true_eq, decide_eq_true_eq, decide_eq_true_eq] at q
    exact ⟨r, hr, axt_cl_in hr, axt_in _ q.1 rfl, axt_in _ q.2.1 rfl, axt_in _ q.2.2 rfl, axt_cl_df hr⟩
  · cases q
theorem axt_aws_ok : (List.range axt_aws.length).all (fun o => (axt_aws.getD o []).all (fun e => match axt_tys[e.2.1]? with
    | some (.object C) => decide (C ∈ axt_ao) && decide (lw_tbl[e.2.2]? = some (Cond.classLink (axt_on o) e.1 C))
    | _ => false)) = true := by decide +kernel
theorem axt_anw_ok {o i t : Nat} (h : axt_anw o i = some t) : ∃ K : String, axt_tys[t]? = some (.object K) ∧ Cond.classLink (axt_on o) i K ∈ axt_ts ∧ K ∈ axt_ao := by
  unfold axt_anw at h
  obtain ⟨⟨c, p⟩, he, hh⟩ := Option.map_eq_some_iff.mp h
  cases hh
  have q := ax_all2 axt_aws_ok (ax_fnd_mem he)
  dsimp only at q
  split at q
  · next K hK =>
    rw [Bool.and_eq_true, decide_eq_true_eq, decide_eq_true_eq] at q
    exact ⟨K, hK, axt_in _ q.2 rfl, q.1⟩
  · cases q
theorem axt_ecs_ok : axt_ecs.all (fun e => match axt_cl[e.2]? with
    | some r => decide (axt_tys[e.1]? = some (.object r.1))
    | none => false) = true := by decide +kernel
theorem axt_ec_ok {t ci : Nat} (h : axt_ec t = some ci) : ∃ r : vw_C, axt_cl[ci]? = some r ∧ axt_tys[t]? = some (.object r.1) := by
  have q := List.all_eq_true.mp axt_ecs_ok _ (ax_fnd_mem h)
  dsimp only at q
  split at q
  · next r hr => exact ⟨r, hr, of_decide_eq_true q⟩
  · cases q
theorem axt_css_ok : (List.range axt_css.length).all (fun o => (axt_css.getD o []).all (fun e => decide (lw_tbl[e.2.2]? = some (Cond.constant (axt_on o) e.1 e.2.1)))) = true := by decide +kernel
theorem axt_cst_ok {o i : Nat} {v : Int32} (h : axt_cst o i = some v) : Cond.constant (axt_on o) i v ∈ axt_ts := by
  unfold axt_cst at h
  obtain ⟨⟨c, p⟩, he, hh⟩ := Option.map_eq_some_iff.mp h
  cases hh
  exact axt_in _ (of_decide_eq_true (ax_all2 axt_css_ok (ax_fnd_mem he))) rfl
theorem axt_csls_ok : (List.range axt_csls.length).all (fun o => (axt_csls.getD o []).all (fun e => decide (lw_tbl[e.2.2]? = some (Cond.constantLong (axt_on o) e.1 e.2.1)))) = true := by decide +kernel
theorem axt_cstl_ok {o i : Nat} {v : Int64} (h : axt_cstl o i = some v) : Cond.constantLong (axt_on o) i v ∈ axt_ts := by
  unfold axt_cstl at h
  obtain ⟨⟨c, p⟩, he, hh⟩ := Option.map_eq_some_iff.mp h
  cases hh
  exact axt_in _ (of_decide_eq_true (ax_all2 axt_csls_ok (ax_fnd_mem he))) rfl
theorem axt_a0 : Cond.arrayClass .int ∈ axt_ts := axt_in 165 (by decide +kernel) rfl
theorem axt_a1 : Cond.arrayClass .byte ∈ axt_ts := axt_in 1407 (by decide +kernel) rfl
theorem axt_a2 : Cond.arrayClass .boolean ∈ axt_ts := axt_in 1408 (by decide +kernel) rfl


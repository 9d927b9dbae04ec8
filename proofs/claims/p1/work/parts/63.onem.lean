/-! the reference as new: each call, in one form -/
theorem b_176 {L : Nat} {xs : Nat → Int32} {fr lo m nn gg cc : Nat} {h : ax_H} {xa xb xc xd xe : Int32} (hfr : 8 ≤ fr) (hlo : 300 ≤ lo) (hn3 : 3 ≤ nn) (hn6 : nn ≤ 6) (hM : ax_hs h (MW m (m + 1) nn gg cc)) : ax_M L xs 176 fr lo [.ref m, .int xa, .int xb, .int xc, .int xd, .int xe] h (fun r h' => r = some (.int (nI (0 + 20))) ∧ h'.1 = h.1 ∧ h'.2.1 = h.2.1) := by
  have hg := hM.at 0 rfl
  have hn0 : 0 < h.1 := Nat.lt_of_le_of_lt (Nat.zero_le _) (ax_g_lt hg).2
  refine ax_A.post (n_176 (l := 0) (by omega) (by omega) (by omega) rfl rfl rfl (hM.sub [0, 1] rfl rfl) rfl rfl hn0) (fun r h' hz => ?_)
  obtain ⟨rfl, hn, hs, -⟩ := hz
  exact ⟨rfl, hn, hs⟩
theorem b_178 {L : Nat} {xs : Nat → Int32} {fr lo m nn gg cc : Nat} {h : ax_H} {x : Int32} (hfr : 8 ≤ fr) (hlo : 300 ≤ lo) (hn3 : 3 ≤ nn) (hn6 : nn ≤ 6) (hM : ax_hs h (MW m (m + 1) nn gg cc)) : ax_M L xs 178 fr lo [.ref m, .int x] h (fun r h' => r = some (.int (if x < 0 ∨ ¬ x ≤ 0 then -1 else x)) ∧ h'.1 = h.1 ∧ h'.2.1 = h.2.1) := by
  have hg := hM.at 0 rfl
  have hn0 : 0 < h.1 := Nat.lt_of_le_of_lt (Nat.zero_le _) (ax_g_lt hg).2
  refine ax_A.post (c_178 hg rfl rfl) (fun r h' hz => ?_)
  rcases hz with ⟨c, rfl, rfl⟩ | ⟨c1, c2, rfl, rfl⟩
  · exact ⟨by rw [if_pos c], rfl, rfl⟩
  · exact ⟨by rw [if_neg (fun z => z.elim c1 (fun q => q c2))], rfl, rfl⟩
theorem b_179 {L : Nat} {xs : Nat → Int32} {fr lo m nn gg cc : Nat} {h : ax_H} {x : Int32} (hfr : 8 ≤ fr) (hlo : 300 ≤ lo) (hn3 : 3 ≤ nn) (hn6 : nn ≤ 6) (hM : ax_hs h (MW m (m + 1) nn gg cc)) : ax_M L xs 179 fr lo [.ref m, .int x] h (fun r h' => r = some (.int (if x < 0 ∨ 1 < x then -1 else 0)) ∧ h'.1 = h.1 ∧ h'.2.1 = h.2.1) := by
  have hg := hM.at 0 rfl
  have hn0 : 0 < h.1 := Nat.lt_of_le_of_lt (Nat.zero_le _) (ax_g_lt hg).2
  by_cases hx : x < 0 ∨ 1 < x
  · refine ax_A.post (n_179n hx) (fun r h' hz => ?_)
    obtain ⟨rfl, rfl⟩ := hz
    exact ⟨by rw [if_pos hx], rfl, rfl⟩
  · obtain ⟨k, hk0, rfl⟩ := nI_of (x := x) (fun z => hx (Or.inl z))
    have hk : k < 2 := by
      have := (nI_leI (b := 1) hk0 (by omega)).mp (Int32.not_lt.mp (fun z => hx (Or.inr z)))
      omega
    refine ax_A.post (n_179y hk rfl rfl rfl (hM.sub [0, 3] rfl rfl) rfl rfl hn0) (fun r h' hz => ?_)
    obtain ⟨rfl, hn, hs⟩ := hz
    exact ⟨by rw [if_neg hx], hn, hs⟩
theorem b_180 {L : Nat} {xs : Nat → Int32} {fr lo m nn gg cc : Nat} {h : ax_H} {x y z : Int32} (hfr : 8 ≤ fr) (hlo : 300 ≤ lo) (hn3 : 3 ≤ nn) (hn6 : nn ≤ 6) (hM : ax_hs h (MW m (m + 1) nn gg cc)) : ax_M L xs 180 fr lo [.ref m, .int x, .int y, .int z] h (fun r h' => r = some (.int (if x = 9 then 0 else -1)) ∧ h'.1 = h.1 ∧ h'.2.1 = h.2.1) := by
  have hg := hM.at 0 rfl
  have hn0 : 0 < h.1 := Nat.lt_of_le_of_lt (Nat.zero_le _) (ax_g_lt hg).2
  by_cases hx : x = 9
  · subst hx
    refine ax_A.post (n_180y rfl rfl rfl rfl rfl rfl rfl rfl rfl rfl rfl rfl rfl (hM.sub [0, 2, 3, 12, 13, 14, 15, 16, 18] rfl rfl) rfl rfl hn0) (fun r h' hz => ?_)
    obtain ⟨rfl, hn, hs⟩ := hz
    exact ⟨by rw [if_pos rfl], hn, hs⟩
  · refine ax_A.post (n_180n hx rfl rfl (hM.sub [0, 3] rfl rfl)) (fun r h' hz => ?_)
    obtain ⟨rfl, rfl⟩ := hz
    exact ⟨by rw [if_neg hx], rfl, rfl⟩
theorem b_181 {L : Nat} {xs : Nat → Int32} {fr lo m nn gg cc : Nat} {h : ax_H} {x : Int32} (hfr : 8 ≤ fr) (hlo : 300 ≤ lo) (hn3 : 3 ≤ nn) (hn6 : nn ≤ 6) (hM : ax_hs h (MW m (m + 1) nn gg cc)) : ax_M L xs 181 fr lo [.ref m, .int x] h (fun r h' => r = none ∧ h'.1 = h.1 ∧ h'.2.1 = h.2.1) := by
  have hg := hM.at 0 rfl
  have hn0 : 0 < h.1 := Nat.lt_of_le_of_lt (Nat.zero_le _) (ax_g_lt hg).2
  refine ax_A.post (c_181 hg rfl) (fun r h' hz => ?_)
  obtain ⟨rfl, rfl⟩ := hz
  exact ⟨rfl, rfl, rfl⟩
theorem b_182 {L : Nat} {xs : Nat → Int32} {fr lo m nn gg cc : Nat} {h : ax_H} {x : Int32} (hfr : 8 ≤ fr) (hlo : 300 ≤ lo) (hn3 : 3 ≤ nn) (hn6 : nn ≤ 6) (hM : ax_hs h (MW m (m + 1) nn gg cc)) : ax_M L xs 182 fr lo [.ref m, .int x] h (fun r h' => r = none ∧ h'.1 = h.1 ∧ h'.2.1 = h.2.1) := by
  have hg := hM.at 0 rfl
  have hn0 : 0 < h.1 := Nat.lt_of_le_of_lt (Nat.zero_le _) (ax_g_lt hg).2
  refine ax_A.post (c_182 hg rfl) (fun r h' hz => ?_)
  obtain ⟨rfl, rfl⟩ := hz
  exact ⟨rfl, rfl, rfl⟩
theorem b_183 {L : Nat} {xs : Nat → Int32} {fr lo m nn gg cc : Nat} {h : ax_H} {x : Int32} (hfr : 8 ≤ fr) (hlo : 300 ≤ lo) (hn3 : 3 ≤ nn) (hn6 : nn ≤ 6) (hM : ax_hs h (MW m (m + 1) nn gg cc)) : ax_M L xs 183 fr lo [.ref m, .int x] h (fun r h' => r = none ∧ h'.1 = h.1 ∧ h'.2.1 = h.2.1) := by
  have hg := hM.at 0 rfl
  have hn0 : 0 < h.1 := Nat.lt_of_le_of_lt (Nat.zero_le _) (ax_g_lt hg).2
  refine ax_A.post (c_183 hg rfl) (fun r h' hz => ?_)
  obtain ⟨rfl, rfl⟩ := hz
  exact ⟨rfl, rfl, rfl⟩
theorem b_184 {L : Nat} {xs : Nat → Int32} {fr lo m nn gg cc : Nat} {h : ax_H} {x y : Int32} (hfr : 8 ≤ fr) (hlo : 300 ≤ lo) (hn3 : 3 ≤ nn) (hn6 : nn ≤ 6) (hM : ax_hs h (MW m (m + 1) nn gg cc)) : ax_M L xs 184 fr lo [.ref m, .int x, .int y] h (fun r h' => r = some (.int (if x < 1 ∨ ¬ x ≤ 500 then -1 else x)) ∧ h'.1 = h.1 ∧ h'.2.1 = h.2.1) := by
  have hg := hM.at 0 rfl
  have hn0 : 0 < h.1 := Nat.lt_of_le_of_lt (Nat.zero_le _) (ax_g_lt hg).2
  refine ax_A.post (c_184 hg rfl) (fun r h' hz => ?_)
  rcases hz with ⟨c, rfl, rfl⟩ | ⟨c1, c2, rfl, rfl⟩
  · exact ⟨by rw [if_pos c], rfl, rfl⟩
  · exact ⟨by rw [if_neg (fun z => z.elim c1 (fun q => q c2))], rfl, rfl⟩
theorem b_185 {L : Nat} {xs : Nat → Int32} {fr lo m nn gg cc : Nat} {h : ax_H} {x : Int32} (hfr : 8 ≤ fr) (hlo : 300 ≤ lo) (hn3 : 3 ≤ nn) (hn6 : nn ≤ 6) (hM : ax_hs h (MW m (m + 1) nn gg cc)) : ax_M L xs 185 fr lo [.ref m, .int x] h (fun r h' => r = some (.int (if x < 1 ∨ ¬ x ≤ 50 then -1 else x)) ∧ h'.1 = h.1 ∧ h'.2.1 = h.2.1) := by
  have hg := hM.at 0 rfl
  have hn0 : 0 < h.1 := Nat.lt_of_le_of_lt (Nat.zero_le _) (ax_g_lt hg).2
  refine ax_A.post (c_185 hg rfl) (fun r h' hz => ?_)
  rcases hz with ⟨c, rfl, rfl⟩ | ⟨c1, c2, rfl, rfl⟩
  · exact ⟨by rw [if_pos c], rfl, rfl⟩
  · exact ⟨by rw [if_neg (fun z => z.elim c1 (fun q => q c2))], rfl, rfl⟩
theorem b_186 {L : Nat} {xs : Nat → Int32} {fr lo m nn gg cc : Nat} {h : ax_H} {x y z : Int32} (hfr : 8 ≤ fr) (hlo : 300 ≤ lo) (hn3 : 3 ≤ nn) (hn6 : nn ≤ 6) (hM : ax_hs h (MW m (m + 1) nn gg cc)) : ax_M L xs 186 fr lo [.ref m, .int x, .int y, .int z] h (fun r h' => r = some (.int (if x < 0 ∨ nI nn ≤ x then 0 else 1)) ∧ h'.1 = h.1 ∧ h'.2.1 = h.2.1) := by
  have hg := hM.at 0 rfl
  have hn0 : 0 < h.1 := Nat.lt_of_le_of_lt (Nat.zero_le _) (ax_g_lt hg).2
  refine ax_A.post (n_186 (by omega) (by omega) rfl rfl rfl rfl (hM.sub [0] rfl rfl) rfl rfl hn0) (fun r h' hz => ?_)
  rcases hz with ⟨c1, c2, c3, rfl, hn, hs⟩ | ⟨c, rfl, hn, hs⟩
  · exact ⟨by rw [if_neg (fun z => z.elim c1 c2)], hn, hs⟩
  · by_cases hx : x < 0 ∨ nI nn ≤ x
    · exact ⟨by rw [if_pos hx], hn, hs⟩
    · obtain ⟨k, hk0, rfl⟩ := nI_of (x := x) (fun z => hx (Or.inl z))
      have hk : k < nn := (nI_ltI hk0 (by omega)).mp (Int32.not_le.mp (fun z => hx (Or.inr z)))
      exact absurd (c.resolve_left (fun z => hx (Or.inl z)) |>.resolve_left (fun z => hx (Or.inr z))) (allN_bit nn (by omega) k hk)
theorem b_188 {L : Nat} {xs : Nat → Int32} {fr lo m nn gg cc : Nat} {h : ax_H} {x : Int32} (hfr : 8 ≤ fr) (hlo : 300 ≤ lo) (hn3 : 3 ≤ nn) (hn6 : nn ≤ 6) (hM : ax_hs h (MW m (m + 1) nn gg cc)) : ax_M L xs 188 fr lo [.ref m, .int x] h (fun r h' => r = some (.int 0) ∧ h'.1 = h.1 ∧ h'.2.1 = h.2.1) := by
  have hg := hM.at 0 rfl
  have hn0 : 0 < h.1 := Nat.lt_of_le_of_lt (Nat.zero_le _) (ax_g_lt hg).2
  refine ax_A.post (n_188 (by omega) (by omega) rfl rfl rfl rfl (hM.sub [0] rfl rfl) rfl rfl hn0) (fun r h' hz => ?_)
  rcases hz with ⟨c1, c2, c3, rfl, hn, hs⟩ | ⟨c, rfl, hn, hs⟩
  · obtain ⟨k, hk0, rfl⟩ := nI_of (x := x) c1
    have hk : k < nn := (nI_ltI hk0 (by omega)).mp (Int32.not_le.mp c2)
    exact absurd (allN_bit nn (by omega) k hk) c3
  · exact ⟨rfl, hn, hs⟩
theorem b_190 {L : Nat} {xs : Nat → Int32} {fr lo m nn gg cc : Nat} {h : ax_H} {x : Int32} (hfr : 8 ≤ fr) (hlo : 300 ≤ lo) (hn3 : 3 ≤ nn) (hn6 : nn ≤ 6) (hM : ax_hs h (MW m (m + 1) nn gg cc)) : ax_M L xs 190 fr lo [.ref m, .int x] h (fun r h' => r = some (.int (1 + 1)) ∧ h'.1 = h.1 ∧ h'.2.1 = h.2.1) := by
  have hg := hM.at 0 rfl
  have hn0 : 0 < h.1 := Nat.lt_of_le_of_lt (Nat.zero_le _) (ax_g_lt hg).2
  refine ax_A.post (n_190 rfl rfl rfl rfl rfl (hM.sub [0] rfl rfl) rfl rfl hn0) (fun r h' hz => ?_)
  obtain ⟨rfl, hn, hs⟩ := hz
  exact ⟨rfl, hn, hs⟩
theorem b_191 {L : Nat} {xs : Nat → Int32} {fr lo m nn gg cc : Nat} {h : ax_H} {x : Int32} (hfr : 8 ≤ fr) (hlo : 300 ≤ lo) (hn3 : 3 ≤ nn) (hn6 : nn ≤ 6) (hM : ax_hs h (MW m (m + 1) nn gg cc)) : ax_M L xs 191 fr lo [.ref m, .int x] h (fun r h' => r = some (.int 0) ∧ h'.1 = h.1 ∧ h'.2.1 = h.2.1) := by
  have hg := hM.at 0 rfl
  have hn0 : 0 < h.1 := Nat.lt_of_le_of_lt (Nat.zero_le _) (ax_g_lt hg).2
  refine ax_A.post (n_191 (by omega) (by omega) (fun z => by
    obtain ⟨c1, c2, c3⟩ := z
    obtain ⟨k, hk0, rfl⟩ := nI_of (x := x) c1
    have hk : k < nn := (nI_ltI hk0 (by omega)).mp (Int32.not_le.mp c2)
    exact c3 (allN_bit nn (by omega) k hk)) rfl rfl rfl (hM.sub [0] rfl rfl) rfl rfl hn0) (fun r h' hz => ?_)
  obtain ⟨rfl, hn, hs⟩ := hz
  exact ⟨rfl, hn, hs⟩
theorem b_192 {L : Nat} {xs : Nat → Int32} {fr lo m nn gg cc : Nat} {h : ax_H} (hfr : 8 ≤ fr) (hlo : 300 ≤ lo) (hn3 : 3 ≤ nn) (hn6 : nn ≤ 6) (hM : ax_hs h (MW m (m + 1) nn gg cc)) : ax_M L xs 192 fr lo [.ref m] h (fun r h' => r = some (.int 0) ∧ h'.1 = h.1 ∧ h'.2.1 = h.2.1) := by
  have hg := hM.at 0 rfl
  have hn0 : 0 < h.1 := Nat.lt_of_le_of_lt (Nat.zero_le _) (ax_g_lt hg).2
  refine ax_A.post (n_192z rfl rfl rfl rfl rfl rfl rfl rfl rfl rfl rfl rfl rfl rfl rfl rfl (hM.sub [0] rfl rfl) rfl rfl hn0) (fun r h' hz => ?_)
  obtain ⟨rfl, hn, hs⟩ := hz
  exact ⟨rfl, hn, hs⟩
theorem b_208 {L : Nat} {xs : Nat → Int32} {fr lo m nn gg cc : Nat} {h : ax_H} {x : Int32} (hfr : 8 ≤ fr) (hlo : 300 ≤ lo) (hn3 : 3 ≤ nn) (hn6 : nn ≤ 6) (hM : ax_hs h (MW m (m + 1) nn gg cc)) : ax_M L xs 208 fr lo [.ref m, .int x] h (fun r h' => r = some (.int (-1)) ∧ h'.1 = h.1 ∧ h'.2.1 = h.2.1) := by
  have hg := hM.at 0 rfl
  have hn0 : 0 < h.1 := Nat.lt_of_le_of_lt (Nat.zero_le _) (ax_g_lt hg).2
  refine ax_A.post (n_208 hg rfl) (fun r h' hz => ?_)
  obtain ⟨rfl, rfl⟩ := hz
  exact ⟨rfl, rfl, rfl⟩
theorem b_209 {L : Nat} {xs : Nat → Int32} {fr lo m nn gg cc : Nat} {h : ax_H} {x y : Int32} (hfr : 8 ≤ fr) (hlo : 300 ≤ lo) (hn3 : 3 ≤ nn) (hn6 : nn ≤ 6) (hM : ax_hs h (MW m (m + 1) nn gg cc)) : ax_M L xs 209 fr lo [.ref m, .int x, .int y] h (fun r h' => r = some (.int (-2)) ∧ h'.1 = h.1 ∧ h'.2.1 = h.2.1) := by
  have hg := hM.at 0 rfl
  have hn0 : 0 < h.1 := Nat.lt_of_le_of_lt (Nat.zero_le _) (ax_g_lt hg).2
  refine ax_A.post (n_209 hg rfl rfl) (fun r h' hz => ?_)
  obtain ⟨rfl, rfl⟩ := hz
  exact ⟨rfl, rfl, rfl⟩
theorem b_210 {L : Nat} {xs : Nat → Int32} {fr lo m nn gg cc : Nat} {h : ax_H} {x y : Int32} (hfr : 8 ≤ fr) (hlo : 300 ≤ lo) (hn3 : 3 ≤ nn) (hn6 : nn ≤ 6) (hM : ax_hs h (MW m (m + 1) nn gg cc)) : ax_M L xs 210 fr lo [.ref m, .int x, .int y] h (fun r h' => r = some (.int (if y < 0 ∨ ¬ y ≤ 3 then -1 else -6)) ∧ h'.1 = h.1 ∧ h'.2.1 = h.2.1) := by
  have hg := hM.at 0 rfl
  have hn0 : 0 < h.1 := Nat.lt_of_le_of_lt (Nat.zero_le _) (ax_g_lt hg).2
  refine ax_A.post (n_210 hg rfl) (fun r h' hz => ?_)
  rcases hz with ⟨c, rfl, rfl⟩ | ⟨c1, c2, rfl, rfl⟩
  · exact ⟨by rw [if_pos c], rfl, rfl⟩
  · exact ⟨by rw [if_neg (fun z => z.elim c1 (fun q => q c2))], rfl, rfl⟩
theorem b_211 {L : Nat} {xs : Nat → Int32} {fr lo m nn gg cc : Nat} {h : ax_H} {x y z : Int32} (hfr : 8 ≤ fr) (hlo : 300 ≤ lo) (hn3 : 3 ≤ nn) (hn6 : nn ≤ 6) (hM : ax_hs h (MW m (m + 1) nn gg cc)) : ax_M L xs 211 fr lo [.ref m, .int x, .int y, .int z] h (fun r h' => r = some (.int (-6)) ∧ h'.1 = h.1 ∧ h'.2.1 = h.2.1) := by
  have hg := hM.at 0 rfl
  have hn0 : 0 < h.1 := Nat.lt_of_le_of_lt (Nat.zero_le _) (ax_g_lt hg).2
  refine ax_A.post (n_211 hg rfl) (fun r h' hz => ?_)
  obtain ⟨rfl, rfl⟩ := hz
  exact ⟨rfl, rfl, rfl⟩
theorem b_214 {L : Nat} {xs : Nat → Int32} {fr lo m nn gg cc : Nat} {h : ax_H} {x y z v0 : Int32} (hfr : 8 ≤ fr) (hlo : 300 ≤ lo) (hn3 : 3 ≤ nn) (hn6 : nn ≤ 6) (hM : ax_hs h (MW m (m + 1) nn gg cc)) : ax_M L xs 214 fr lo [.ref m, .int x, .int y, .int z, .int v0] h (fun r h' => r = some (.int (-6)) ∧ h'.1 = h.1 ∧ h'.2.1 = h.2.1) := by
  have hg := hM.at 0 rfl
  have hn0 : 0 < h.1 := Nat.lt_of_le_of_lt (Nat.zero_le _) (ax_g_lt hg).2
  refine ax_A.post (n_214 (by omega) (by omega) hg rfl) (fun r h' hz => ?_)
  obtain ⟨rfl, rfl⟩ := hz
  exact ⟨rfl, rfl, rfl⟩
theorem b_215 {L : Nat} {xs : Nat → Int32} {fr lo m nn gg cc : Nat} {h : ax_H} {x : Int32} (hfr : 8 ≤ fr) (hlo : 300 ≤ lo) (hn3 : 3 ≤ nn) (hn6 : nn ≤ 6) (hM : ax_hs h (MW m (m + 1) nn gg cc)) : ax_M L xs 215 fr lo [.ref m, .int x] h (fun r h' => r = some (.int (if x < 0 ∨ ¬ x < nI nn then -1 else -6)) ∧ h'.1 = h.1 ∧ h'.2.1 = h.2.1) := by
  have hg := hM.at 0 rfl
  have hn0 : 0 < h.1 := Nat.lt_of_le_of_lt (Nat.zero_le _) (ax_g_lt hg).2
  refine ax_A.post (n_215 hg rfl rfl) (fun r h' hz => ?_)
  rcases hz with ⟨c, rfl, rfl⟩ | ⟨c1, c2, rfl, rfl⟩
  · exact ⟨by rw [if_pos c], rfl, rfl⟩
  · exact ⟨by rw [if_neg (fun z => z.elim c1 (fun q => q c2))], rfl, rfl⟩
theorem b_216 {L : Nat} {xs : Nat → Int32} {fr lo m nn gg cc : Nat} {h : ax_H} (hfr : 8 ≤ fr) (hlo : 300 ≤ lo) (hn3 : 3 ≤ nn) (hn6 : nn ≤ 6) (hM : ax_hs h (MW m (m + 1) nn gg cc)) : ax_M L xs 216 fr lo [.ref m] h (fun r h' => r = some (.int (-6)) ∧ h'.1 = h.1 ∧ h'.2.1 = h.2.1) := by
  have hg := hM.at 0 rfl
  have hn0 : 0 < h.1 := Nat.lt_of_le_of_lt (Nat.zero_le _) (ax_g_lt hg).2
  refine ax_A.post (c_216 hg rfl) (fun r h' hz => ?_)
  rcases hz with ⟨-, rfl, rfl⟩ | ⟨c, -, -⟩
  · exact ⟨rfl, rfl, rfl⟩
  · exact absurd rfl c
theorem b_217 {L : Nat} {xs : Nat → Int32} {fr lo m nn gg cc : Nat} {h : ax_H} {x : Int32} (hfr : 8 ≤ fr) (hlo : 300 ≤ lo) (hn3 : 3 ≤ nn) (hn6 : nn ≤ 6) (hM : ax_hs h (MW m (m + 1) nn gg cc)) : ax_M L xs 217 fr lo [.ref m, .int x] h (fun r h' => r = some (.int (cntA nn x)) ∧ h'.1 = h.1 ∧ h'.2.1 = h.2.1) := by
  have hg := hM.at 0 rfl
  have hn0 : 0 < h.1 := Nat.lt_of_le_of_lt (Nat.zero_le _) (ax_g_lt hg).2
  refine ax_A.post (n_217 (by omega) (by omega) hn3 hn6 rfl rfl rfl rfl rfl rfl rfl rfl rfl rfl rfl rfl (hM.sub [0] rfl rfl) rfl rfl hn0) (fun r h' hz => ?_)
  obtain ⟨rfl, hn, hs⟩ := hz
  exact ⟨rfl, hn, hs⟩

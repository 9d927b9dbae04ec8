/-! the reference by one function M (field, place) -/
def RV (p al : Nat) (g : Nat → Int32) : List Value := .int (g 0) :: .int (g 1) :: .int (g 2) :: .int (g 3) :: .int (g 4) :: .int (g 5) :: .int (g 6) :: .int (g 7) :: .ref p :: .int (g 9) :: .ref (p + 1) :: .ref (p + 2) :: .ref (p + 3) :: .ref (p + 4) :: .ref (p + 5) :: .ref (p + 6) :: .ref (p + 7) :: .ref (p + 8) :: .ref (p + 9) :: .ref (p + 10) :: .int (g 20) :: .int (g 21) :: .int (g 22) :: .int (g 23) :: .int (g 24) :: .int (g 25) :: .int (g 26) :: .ref (p + 11) :: .ref (p + 12) :: .ref (p + 13) :: .ref (p + 14) :: .ref (p + 15) :: .ref (p + 16) :: .ref (p + 17) :: .ref al :: .ref (p + 19) :: .ref (p + 20) :: .int (g 37) :: .int (g 38) :: []
def cRI (a N : Nat) (g : Nat → Int32) : Nat × va_E := (a, .inl (0, N, .inl g))
def cRB (a N : Nat) (g : Nat → Int32) : Nat × va_E := (a, .inl (1, N, .inl g))
def cRZ (a N : Nat) (g : Nat → Int32) : Nat × va_E := (a, .inl (2, N, .inl g))
def cRo (m p al : Nat) (M : Nat → Nat → Int32) : Nat × va_E := (m, .inr (11, RV p al (M 0)))
def RW (m p al AL : Nat) (M : Nat → Nat → Int32) : List (Nat × va_E) := [cRo m p al M, cRB p 2048 (M 8), cRB (p + 1) 400 (M 10), cRI (p + 2) 2 (M 11), cRI (p + 3) 48 (M 12), cRZ (p + 4) 48 (M 13), cRB (p + 5) 9600 (M 14), cRI (p + 6) 48 (M 15), cRI (p + 7) 48 (M 16), cRI (p + 8) 48 (M 17), cRB (p + 9) 393216 (M 18), cRZ (p + 10) 912 (M 19), cRI (p + 11) 12 (M 27), cRI (p + 12) 12 (M 28), cRI (p + 13) 12 (M 29), cRB (p + 14) 4800 (M 30), cRI (p + 15) 24 (M 31), cRB (p + 16) 24576 (M 32), cRI (p + 17) 12 (M 33), cRI al AL (M 34), cRI (p + 19) 24576 (M 35), cRI (p + 20) 12 (M 36)]
def RC (m p al : Nat) : Prop := m < p ∧ m ≤ al ∧ 0 < m
def RS (m p al AL : Nat) (h0 h : ax_H) (M : Nat → Nat → Int32) : Prop := ax_hs h (RW m p al AL M) ∧ ax_fr (fun x => m ≤ x) h0 h ∧ h.1 = h0.1 ∧ h.2.1 = h0.2.1 ∧ 0 < h0.1
theorem set1 {fs fs' : List Value} {k : Nat} {v : Value} (h1 : fs'.length = fs.length) (hk : k < fs.length) (h2 : fs'[k]? = some v) (h3 : ∀ j, j ≠ k → fs'[j]? = fs[j]?) : fs' = fs.set k v := by
  refine List.ext_getElem? (fun j => ?_)
  by_cases e : j = k
  · subst e
    rw [List.getElem?_set_self hk, h2]
  · rw [List.getElem?_set_ne (Ne.symm e), h3 j e]
theorem set2 {fs fs' : List Value} {k l : Nat} {v u : Value} (h1 : fs'.length = fs.length) (hk : k < fs.length) (hl : l < fs.length) (h2 : fs'[k]? = some v) (h4 : fs'[l]? = some u) (hkl : k ≠ l) (h3 : ∀ j, j ≠ k → j ≠ l → fs'[j]? = fs[j]?) : fs' = (fs.set k v).set l u := by
  refine List.ext_getElem? (fun j => ?_)
  by_cases e : j = l
  · subst e
    rw [List.getElem?_set_self (by rw [List.length_set]; exact hl), h4]
  · rw [List.getElem?_set_ne (Ne.symm e)]
    by_cases e2 : j = k
    · subst e2
      rw [List.getElem?_set_self hk, h2]
    · rw [List.getElem?_set_ne (Ne.symm e2), h3 j e2 e]
/-- FILES of the reference -/
def FLI (c to : Nat) (og us lf jf zf : Nat → Int32) : Prop := c ≤ 48 ∧ (∀ i, i < c → ¬ og i < 0 ∧ (og i).toNatClampNeg < 48) ∧ (oL og c).Nodup ∧ (∀ f, f < 48 → (us f = 0 ↔ ¬ f ∈ oL og c)) ∧ (∀ f, f < 48 → inR 201 (lf f)) ∧ (∀ f, f < 48 → inR 512 (jf f)) ∧ (∀ f, f < 48 → inR 8193 (zf f)) ∧ to = ((oL og c).map (fun f => (zf f).toNatClampNeg)).sum ∧ to ≤ 32768
theorem FLI.lf {c to : Nat} {og us lf jf zf : Nat → Int32} (h : FLI c to og us lf jf zf) : ∀ f, f < 48 → ¬ lf f < 0 ∧ (lf f).toNatClampNeg ≤ 200 := fun f hf => by
  obtain ⟨k, hk, e⟩ := h.2.2.2.2.1 f hf
  rw [e, nI_clamp (show k < 2 ^ 31 by omega)]
  exact ⟨nI_pos (by omega), by omega⟩
theorem FLI.fnd {c to : Nat} {og us lf jf zf : Nat → Int32} (h : FLI c to og us lf jf zf) (ff pf : Nat → Int32) (b n : Nat) : mfnd ff pf lf og b n c 0 = -1 ∨ ∃ f, f < 48 ∧ f ∈ oL og c ∧ mfnd ff pf lf og b n c 0 = nI f := by
  rcases mfnd_c (ff := ff) (pf := pf) (lf := lf) (og := og) (b := b) (n := n) c 0 with e | ⟨j, -, h2, e, -⟩
  · exact Or.inl e
  · have h3 := h.2.1 j (by omega)
    exact Or.inr ⟨(og j).toNatClampNeg, h3.2, oL_mem.mpr ⟨j, by omega, rfl⟩, by rw [e]; exact nI_cl h3.1⟩
theorem sum_mem {l : List Nat} {g : Nat → Nat} {x : Nat} (h : x ∈ l) : g x ≤ (l.map g).sum := by
  induction l with
  | nil => exact absurd h List.not_mem_nil
  | cons a t ih =>
    rw [List.map_cons, List.sum_cons]
    rcases List.mem_cons.mp h with rfl | h
    · omega
    · have := ih h
      omega
theorem FLI.sz {c to f : Nat} {og us lf jf zf : Nat → Int32} (h : FLI c to og us lf jf zf) (hf : f < 48) (hm : f ∈ oL og c) : ∃ y, zf f = nI y ∧ y ≤ 8192 ∧ y ≤ to := by
  obtain ⟨y, hy, e⟩ := h.2.2.2.2.2.2.1 f hf
  refine ⟨y, e, by omega, ?_⟩
  have h1 := sum_mem (g := fun f => (zf f).toNatClampNeg) hm
  have h2 : (zf f).toNatClampNeg = y := by rw [e, nI_clamp (show y < 2 ^ 31 by omega)]
  have h3 := h.2.2.2.2.2.2.2.1
  rw [← h3] at h1
  omega
theorem FLI.perm {c c' to : Nat} {og og' us lf lf' jf zf : Nat → Int32} (h : FLI c to og us lf jf zf) (hp : (oL og' c').Perm (oL og c)) (hb : ∀ i, i < c' → ¬ og' i < 0 ∧ (og' i).toNatClampNeg < 48) (hl : ∀ f, f < 48 → inR 201 (lf' f)) : FLI c' to og' us lf' jf zf := by
  obtain ⟨h1, h2, h3, h4, h5, h6, h7, h8, h9⟩ := h
  have hc : c' = c := by
    have := hp.length_eq
    rwa [oL_len, oL_len] at this
  exact ⟨by omega, hb, hp.nodup_iff.mpr h3, fun f hf => (h4 f hf).trans (not_congr hp.mem_iff.symm), hl, h6, h7, h8.trans (hp.map _).sum_nat.symm, h9⟩
theorem flt_perm {l : List Nat} {f : Nat} (hl : l.Nodup) (hf : f ∈ l) : (f :: l.filter (fun x => !(x == f))).Perm l := by
  have e : l.filter (fun x => !(x == f)) = l.erase f := (hl.erase_eq_filter f).symm
  rw [e]
  exact (List.perm_cons_erase hf).symm
theorem ins_perm {l : List Nat} {f q : Nat} : (l.take q ++ f :: l.drop q).Perm (f :: l) := by
  refine List.perm_middle.trans ?_
  rw [List.take_append_drop]
theorem FLI.gone {c to f y : Nat} {og us lf jf zf : Nat → Int32} (h : FLI c to og us lf jf zf) (hf : f < 48) (hm : f ∈ oL og c) (hy : zf f = nI y) (hy2 : y ≤ 8192) : FLI (lvN (nI f) c 0 0 og) (to - y) (lvF (nI f) c 0 0 og) (upd us f 0) lf jf zf := by
  obtain ⟨h1, h2, h3, h4, h5, h6, h7, h8, h9⟩ := h
  have e := lv_oL (og := og) (c := c) hf (fun j hj => (h2 j hj).1)
  have hp := flt_perm h3 hm
  have hlen : lvN (nI f) c 0 0 og + 1 = c := by
    have := hp.length_eq
    rw [List.length_cons, ← e, oL_len, oL_len] at this
    exact this
  refine ⟨by omega, lv_nn (P := fun x => ¬ x < 0 ∧ x.toNatClampNeg < 48) c 0 0 og (Nat.le_refl _) (fun j hj => absurd hj (by omega)) (fun j _ hj => h2 j (by omega)), by rw [e]; exact h3.filter _, fun g hg => ?_, h5, h6, h7, ?_, by omega⟩
  · rw [e, List.mem_filter]
    by_cases z : g = f
    · subst z
      rw [pk_us]
      simp
    · rw [pk_un z, h4 g hg]
      simp [z]
  · have h10 := (hp.map (fun f => (zf f).toNatClampNeg)).sum_nat
    rw [List.map_cons, List.sum_cons, ← h8, hy, nI_clamp (show y < 2 ^ 31 by omega)] at h10
    rw [e]
    omega
theorem FLI.size {c to f y z : Nat} {og us lf jf zf : Nat → Int32} (h : FLI c to og us lf jf zf) (hf : f < 48) (hm : f ∈ oL og c) (hy : zf f = nI y) (hy2 : y ≤ 8192) (hz : z ≤ 8192) (hto : to - y + z ≤ 32768) : FLI c (to - y + z) og us lf jf (upd zf f (nI z)) := by
  obtain ⟨h1, h2, h3, h4, h5, h6, h7, h8, h9⟩ := h
  have hp := flt_perm h3 hm
  refine ⟨h1, h2, h3, h4, h5, h6, fun g hg => ?_, ?_, hto⟩
  · by_cases e : g = f
    · rw [e, pk_us]; exact ⟨z, by omega, rfl⟩
    · rw [pk_un e]; exact h7 g hg
  · have a1 := (hp.map (fun f => (zf f).toNatClampNeg)).sum_nat
    have a2 := (hp.map (fun g => (upd zf f (nI z) g).toNatClampNeg)).sum_nat
    rw [List.map_cons, List.sum_cons] at a1 a2
    have a3 : ((oL og c).filter (fun x => !(x == f))).map (fun g => (upd zf f (nI z) g).toNatClampNeg) = ((oL og c).filter (fun x => !(x == f))).map (fun g => (zf g).toNatClampNeg) := by
      refine List.map_congr_left (fun g hg => ?_)
      have := (List.mem_filter.mp hg).2
      rw [pk_un (by simpa using this)]
    rw [a3, pk_us, nI_clamp (show z < 2 ^ 31 by omega)] at a2
    rw [hy, nI_clamp (show y < 2 ^ 31 by omega), ← h8] at a1
    omega
theorem FLI.free {c to : Nat} {og us lf jf zf : Nat → Int32} (h : FLI c to og us lf jf zf) (hc : c ≤ 47) : frN us 48 0 < 48 ∧ ¬ frN us 48 0 ∈ oL og c := by
  obtain ⟨x, hx, hn⟩ := nd_free 48 (oL og c) (by rw [oL_len]; omega)
  have h1 := frN_le (us := us) 48 0 ⟨x, by omega, by omega, (h.2.2.2.1 x hx).mpr hn⟩
  exact ⟨by omega, (h.2.2.2.1 _ (by omega)).mp h1.2⟩
theorem FLI.made {c to f d n1 b : Nat} {ff pf og us lf jf zf : Nat → Int32} (h : FLI c to og us lf jf zf) (hc : c ≤ 47) (hf : f < 48) (hm : ¬ f ∈ oL og c) (hd : d < 512) (hn : n1 ≤ 200) : FLI (c + 1) to (upd (inF ff pf lf b n1 c og) (inA ff pf lf b n1 c og) (nI f)) (upd us f 1) (upd lf f (nI n1)) (upd jf f (nI d)) (upd zf f 0) := by
  obtain ⟨h1, h2, h3, h4, h5, h6, h7, h8, h9⟩ := h
  have e := in_oL (ff := ff) (pf := pf) (lf := lf) (b := b) (n := n1) (c := c) (og := og) hf
  have hp : (oL (upd (inF ff pf lf b n1 c og) (inA ff pf lf b n1 c og) (nI f)) (c + 1)).Perm (f :: oL og c) := by rw [e]; exact ins_perm
  have ofR : ∀ {N k : Nat} {x : Int32} {g : Nat → Int32}, (∀ f, f < 48 → inR N (g f)) → inR N x → ∀ g', g' < 48 → inR N (upd g f x g') := fun hg hx g' hg' => by
    by_cases z : g' = f
    · rw [z, pk_us]; exact hx
    · rw [pk_un z]; exact hg g' hg'
  refine ⟨by omega, in_nn (P := fun x => ¬ x < 0 ∧ x.toNatClampNeg < 48) ⟨nI_pos (by omega), by rw [nI_clamp (show f < 2 ^ 31 by omega)]; exact hf⟩ h2, hp.nodup_iff.mpr (List.nodup_cons.mpr ⟨hm, h3⟩), fun g hg => ?_, ofR (k := 0) h5 ⟨n1, by omega, rfl⟩, ofR (k := 0) h6 ⟨d, hd, rfl⟩, ofR (k := 0) h7 ⟨0, by decide, rfl⟩, ?_, h9⟩
  · rw [hp.mem_iff, List.mem_cons]
    by_cases z : g = f
    · subst z
      rw [pk_us]
      simp
    · rw [pk_un z, h4 g hg]
      simp [z]
  · rw [(hp.map _).sum_nat, List.map_cons, List.sum_cons, pk_us]
    have a3 : (oL og c).map (fun g => (upd zf f 0 g).toNatClampNeg) = (oL og c).map (fun g => (zf g).toNatClampNeg) := by
      refine List.map_congr_left (fun g hg => ?_)
      rw [pk_un (show ¬ g = f from fun z => hm (z ▸ hg))]
    rw [a3, ← h8]
    simp


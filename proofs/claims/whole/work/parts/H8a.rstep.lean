/-! what one act changes: places, FILES -/
theorem nar_b (x : Int32) : vp_nar .byte x &&& 255 = x &&& 255 := b_ext (fun i hi => by
  have h255 : ∀ j, j < 32 → bt 255 j = decide (j < 8) := by decide +kernel
  rw [b_and, b_and, h255 i hi]
  by_cases c : i < 8
  · rw [decide_eq_true c, Bool.and_true, Bool.and_true]
    show (x.toInt8.toInt32).toBitVec.getLsbD i = x.toBitVec.getLsbD i
    rw [Int8.toBitVec_toInt32, BitVec.getLsbD_signExtend, Int32.toBitVec_toInt8]
    rw [if_pos c, decide_eq_true hi, Bool.true_and, BitVec.getLsbD_signExtend, if_pos hi, decide_eq_true c, Bool.true_and]
  · rw [decide_eq_false c, Bool.and_false, Bool.and_false])
theorem rby_nar (f : Nat → Int32) (a j : Nat) : uN (vp_nar .byte (f (a + j)) &&& 255) = rby f a j := by
  unfold rby
  rw [nar_b]
theorem wlF_v {f a : Nat} {la : Nat → Int32} : ∀ (t x : Nat), wlF f a la t x = if 0 < t ∧ 19 * f + a / 448 ≤ x ∧ x ≤ 19 * f + (a + t - 1) / 448 then vp_nar .boolean 1 else la x
  | 0, x => by rw [if_neg (by omega)]; rfl
  | t + 1, x => by
    show upd (wlF f a la t) (19 * f + (a + t) / 448) (vp_nar .boolean 1) x = _
    by_cases e : x = 19 * f + (a + t) / 448
    · rw [e, pk_us, if_pos (by omega)]
    · rw [pk_un e, wlF_v t x]
      by_cases c : 0 < t ∧ 19 * f + a / 448 ≤ x ∧ x ≤ 19 * f + (a + t - 1) / 448
      · rw [if_pos c, if_pos (by omega)]
      · rw [if_neg c, if_neg (by omega)]
theorem laF_v {b z : Nat} {la : Nat → Int32} : ∀ (k x : Nat), laF b z la k x = if b ≤ x ∧ x < b + k ∧ z ≤ 448 * (x - b) then vp_nar .boolean 0 else la x
  | 0, x => by rw [if_neg (by omega)]; rfl
  | k + 1, x => by
    unfold laF
    by_cases c : z ≤ 448 * k
    · rw [if_pos c]
      by_cases e : x = b + k
      · rw [e, pk_us, if_pos (by omega)]
      · rw [pk_un e, laF_v k x]
        by_cases d : b ≤ x ∧ x < b + k ∧ z ≤ 448 * (x - b)
        · rw [if_pos d, if_pos (by omega)]
        · rw [if_neg d, if_neg (by omega)]
    · rw [if_neg c, laF_v k x]
      by_cases d : b ≤ x ∧ x < b + k ∧ z ≤ 448 * (x - b)
      · rw [if_pos d, if_pos (by omega)]
      · rw [if_neg d, if_neg]
        intro q
        have : x - b = k := by omega
        rw [this] at q
        omega
theorem rgF_i {g f : Nat → Int32} {a n x : Nat} (h1 : a ≤ x) (h2 : x < a + n) : rgF g a n f x = g (x - a) := if_pos ⟨h1, h2⟩
theorem rgF_o {g f : Nat → Int32} {a n x : Nat} (h : ¬ (a ≤ x ∧ x < a + n)) : rgF g a n f x = f x := if_neg h
theorem RFl.len {M : Nat → Nat → Int32} {T : TS} {l : List Nat} {k : Nat} (hT : TOK T k) (h : RFl M T l) : ∀ f, f ∈ l → (M 15 f).toNatClampNeg ≤ 200 := fun f hf => by
  obtain ⟨_, i, _, i2, i3⟩ := h.1 f hf
  have := hT.n1 i i2
  rw [i3.2.2.1, nI_clamp (by omega)]; exact this
/-- one FILE changes in its place -/
theorem RFl.in1 {M M' : Nat → Nat → Int32} {T T' : TS} {l : List Nat} {k f i : Nat} (hT : TOK T k) (hl : RFl M T l) (hf : f ∈ l) (hi : RFe M T f i) (hx : T.ex i = true) (hi5 : i < 512) (hP : ∀ g, g < 48 → ¬ g = f → smP M M' g) (hnm : nmS M M' f) (h16 : M' 16 f = M 16 f) (hF : ∀ j, ¬ j = i → smF T T' j) (hex : T'.ex i = true) (hE : RFe M' T' f i) : RFl M' T' l := by
  have hlen := hl.len hT
  obtain ⟨h1, h2, h3, h4⟩ := hl
  have hid : ∀ g, g ∈ l → M' 16 g = M 16 g := fun g hg => by
    by_cases e : g = f
    · rw [e]; exact h16
    · exact (hP g (h1 g hg).1 e).1
  have hns : ∀ g, g ∈ l → nmS M M' g := fun g hg => by
    by_cases e : g = f
    · rw [e]; exact hnm
    · have := hP g (h1 g hg).1 e
      exact ⟨this.2.2.1, this.2.2.2.1⟩
  refine ⟨fun g hg => ?_, fun j hj ej => ?_, fun g g' hg hg' e => ?_, ?_⟩
  · refine ⟨(h1 g hg).1, ?_⟩
    by_cases e : g = f
    · rw [e]; exact ⟨i, hi5, hex, hE⟩
    · obtain ⟨g1, j, j1, j2, j3⟩ := h1 g hg
      have hji : ¬ j = i := fun z => e (h3 g f hg hf (by rw [j3.1, hi.1, z]))
      exact ⟨j, j1, by rw [(hF j hji).1]; exact j2, j3.sm (hT.n1 j j2) (hT.z1 j) (hP g g1 e) (hF j hji)⟩
  · have hj2 : T.ex j = true := by
      by_cases e : j = i
      · rw [e]; exact hx
      · rw [← (hF j e).1]; exact ej
    obtain ⟨g, g1, g2⟩ := h2 j hj hj2
    exact ⟨g, g1, by rw [hid g g1]; exact g2⟩
  · rw [hid g hg, hid g' hg'] at e
    exact h3 g g' hg hg' e
  · exact h4.imp_of_mem (fun {a b} ha hb hab => hab.nm (hlen a ha) (hlen b hb) (hns a ha) (hns b hb))
/-- one goes -/
theorem RFl.del {M M' : Nat → Nat → Int32} {T T' : TS} {l : List Nat} {k f i : Nat} (hT : TOK T k) (hl : RFl M T l) (hf : f ∈ l) (hi : RFe M T f i) (hi5 : i < 512) (hP : ∀ g, g ∈ l → ¬ g = f → smP M M' g) (hF : ∀ j, ¬ j = i → smF T T' j) (hex : T'.ex i = false) : RFl M' T' (l.filter (fun x => !(x == f))) := by
  have hlen := hl.len hT
  obtain ⟨h1, h2, h3, h4⟩ := hl
  have hm : ∀ g, g ∈ l.filter (fun x => !(x == f)) → g ∈ l ∧ ¬ g = f := fun g hg => by
    rw [List.mem_filter] at hg
    exact ⟨hg.1, fun e => by have := hg.2; rw [e] at this; simp at this⟩
  refine ⟨fun g hg => ?_, fun j hj ej => ?_, fun g g' hg hg' e => ?_, ?_⟩
  · obtain ⟨hg1, hg2⟩ := hm g hg
    obtain ⟨g1, j, j1, j2, j3⟩ := h1 g hg1
    have hji : ¬ j = i := fun z => hg2 (h3 g f hg1 hf (by rw [j3.1, hi.1, z]))
    exact ⟨g1, j, j1, by rw [(hF j hji).1]; exact j2, j3.sm (hT.n1 j j2) (hT.z1 j) (hP g hg1 hg2) (hF j hji)⟩
  · have hji : ¬ j = i := fun z => by rw [z, hex] at ej; cases ej
    rw [(hF j hji).1] at ej
    obtain ⟨g, g1, g2⟩ := h2 j hj ej
    have hgf : ¬ g = f := fun z => by
      rw [z, hi.1] at g2
      exact hji (nI_inj (by omega) (by omega) g2).symm
    exact ⟨g, List.mem_filter.mpr ⟨g1, by simpa using hgf⟩, by rw [(hP g g1 hgf).1]; exact g2⟩
  · obtain ⟨a1, a2⟩ := hm g hg
    obtain ⟨b1, b2⟩ := hm g' hg'
    rw [(hP g a1 a2).1, (hP g' b1 b2).1] at e
    exact h3 g g' a1 b1 e
  · refine (h4.filter _).imp_of_mem (fun {a b} ha hb hab => ?_)
    obtain ⟨a1, a2⟩ := hm a ha
    obtain ⟨b1, b2⟩ := hm b hb
    exact hab.sm (hlen a a1) (hlen b b1) (hP a a1 a2) (hP b b1 b2)
/-- one comes -/
theorem RFl.ins {M M' : Nat → Nat → Int32} {T T' : TS} {l l' : List Nat} {f i : Nat} (hnl : ∀ j, T.ex j = true → T.nl j ≤ 200 ∧ T.sz j ≤ 8192) (hl : RFl M T l) (hi : T.ex i = false) (hi5 : i < 512) (hf : f < 48) (hp : l'.Perm (f :: l)) (hP : ∀ g, g ∈ l → smP M M' g) (hF : ∀ j, ¬ j = i → smF T T' j) (hex : T'.ex i = true) (hE : RFe M' T' f i) (hS : l'.Pairwise (kLt M')) : RFl M' T' l' := by
  obtain ⟨h1, h2, h3, h4⟩ := hl
  have hm : ∀ g, g ∈ l' ↔ g = f ∨ g ∈ l := fun g => by rw [hp.mem_iff, List.mem_cons]
  have hid : ∀ g, g ∈ l → ∃ j, j < 512 ∧ T.ex j = true ∧ ¬ j = i ∧ M' 16 g = nI j ∧ RFe M T g j := fun g hg => by
    obtain ⟨g1, j, j1, j2, j3⟩ := h1 g hg
    exact ⟨j, j1, j2, fun z => by (rw [z, hi] at j2; cases j2), by rw [(hP g hg).1]; exact j3.1, j3⟩
  refine ⟨fun g hg => ?_, fun j hj ej => ?_, fun g g' hg hg' e => ?_, hS⟩
  · rcases (hm g).mp hg with e | e
    · rw [e]; exact ⟨hf, i, hi5, hex, hE⟩
    · obtain ⟨j, j1, j2, j3, _, j5⟩ := hid g e
      exact ⟨(h1 g e).1, j, j1, by rw [(hF j j3).1]; exact j2, j5.sm (hnl j j2).1 (hnl j j2).2 (hP g e) (hF j j3)⟩
  · by_cases e : j = i
    · rw [e]; exact ⟨f, (hm f).mpr (Or.inl rfl), hE.1⟩
    · rw [(hF j e).1] at ej
      obtain ⟨g, g1, g2⟩ := h2 j hj ej
      exact ⟨g, (hm g).mpr (Or.inr g1), by rw [(hP g g1).1]; exact g2⟩
  · rcases (hm g).mp hg with a | a <;> rcases (hm g').mp hg' with b | b
    · rw [a, b]
    · obtain ⟨j, j1, j2, j3, j4, _⟩ := hid g' b
      rw [a, hE.1, j4] at e
      exact absurd (nI_inj (by omega) (by omega) e).symm j3
    · obtain ⟨j, j1, j2, j3, j4, _⟩ := hid g a
      rw [b, hE.1, j4] at e
      exact absurd (nI_inj (by omega) (by omega) e) j3
    · rw [(hP g a).1, (hP g' b).1] at e
      exact h3 g g' a b e

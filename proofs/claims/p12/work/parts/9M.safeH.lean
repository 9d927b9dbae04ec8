/-! DISKS: fail for every state -/
theorem b255 : ∀ i, i < 32 → (255#32).getLsbD i = decide (i < 8) := by decide
theorem bm24 : ∀ i, i < 32 → ((255#32 <<< 24) ^^^ (-1#32)).getLsbD i = decide (i < 24) := by decide
theorem bm16 : ∀ i, i < 32 → ((255#32 <<< 16) ^^^ (-1#32)).getLsbD i = decide (i < 16 ∨ 24 ≤ i) := by decide
theorem bm8 : ∀ i, i < 32 → ((255#32 <<< 8) ^^^ (-1#32)).getLsbD i = decide (i < 8 ∨ 16 ≤ i) := by decide
theorem bl24 (x v : BitVec 32) : ((x &&& ((255#32 <<< 24) ^^^ (-1#32))) ||| (v <<< 24)) &&& 255#32 = x &&& 255#32 := by
  apply BitVec.eq_of_getLsbD_eq
  intro i hi
  rw [BitVec.getLsbD_and, BitVec.getLsbD_or, BitVec.getLsbD_and, bm24 i hi, BitVec.getLsbD_shiftLeft, b255 i hi, BitVec.getLsbD_and, b255 i hi]
  by_cases h : i < 8
  · simp [h, show i < 24 by omega]
  · simp [h]
theorem bl16 (x v : BitVec 32) : ((x &&& ((255#32 <<< 16) ^^^ (-1#32))) ||| (v <<< 16)) &&& 255#32 = x &&& 255#32 := by
  apply BitVec.eq_of_getLsbD_eq
  intro i hi
  rw [BitVec.getLsbD_and, BitVec.getLsbD_or, BitVec.getLsbD_and, bm16 i hi, BitVec.getLsbD_shiftLeft, b255 i hi, BitVec.getLsbD_and, b255 i hi]
  by_cases h : i < 8
  · simp [h, show i < 16 by omega]
  · simp [h]
theorem bl8 (x v : BitVec 32) : ((x &&& ((255#32 <<< 8) ^^^ (-1#32))) ||| (v <<< 8)) &&& 255#32 = x &&& 255#32 := by
  apply BitVec.eq_of_getLsbD_eq
  intro i hi
  rw [BitVec.getLsbD_and, BitVec.getLsbD_or, BitVec.getLsbD_and, bm8 i hi, BitVec.getLsbD_shiftLeft, b255 i hi, BitVec.getLsbD_and, b255 i hi]
  by_cases h : i < 8
  · simp [h]
  · simp [h]
theorem bf24 (x v : BitVec 32) : ((x &&& ((255#32 <<< 24) ^^^ (-1#32))) ||| ((v &&& 255#32) <<< 24)) >>> 24 = v &&& 255#32 := by
  apply BitVec.eq_of_getLsbD_eq
  intro i hi
  rw [BitVec.getLsbD_ushiftRight, BitVec.getLsbD_or, BitVec.getLsbD_and, BitVec.getLsbD_shiftLeft]
  by_cases h : i < 8
  · rw [bm24 (24 + i) (by omega), BitVec.getLsbD_and, show 24 + i - 24 = i by omega]
    simp [show 24 + i < 32 by omega, show ¬ 24 + i < 24 by omega]
  · rw [BitVec.getLsbD_of_ge x (24 + i) (by omega), show 24 + i - 24 = i by omega, BitVec.getLsbD_and, b255 i hi]
    simp [h, show ¬ 24 + i < 32 by omega]
theorem bf16 (x v : BitVec 32) : ((x &&& ((255#32 <<< 16) ^^^ (-1#32))) ||| ((v &&& 255#32) <<< 16)) >>> 24 = x >>> 24 := by
  apply BitVec.eq_of_getLsbD_eq
  intro i hi
  rw [BitVec.getLsbD_ushiftRight, BitVec.getLsbD_ushiftRight, BitVec.getLsbD_or, BitVec.getLsbD_and, BitVec.getLsbD_shiftLeft]
  by_cases h : i < 8
  · rw [bm16 (24 + i) (by omega), BitVec.getLsbD_and, b255 (24 + i - 16) (by omega)]
    simp [show ¬ 24 + i - 16 < 8 by omega]
  · rw [BitVec.getLsbD_of_ge x (24 + i) (by omega)]
    simp [show ¬ 24 + i < 32 by omega]
theorem bf8 (x v : BitVec 32) : ((x &&& ((255#32 <<< 8) ^^^ (-1#32))) ||| ((v &&& 255#32) <<< 8)) >>> 24 = x >>> 24 := by
  apply BitVec.eq_of_getLsbD_eq
  intro i hi
  rw [BitVec.getLsbD_ushiftRight, BitVec.getLsbD_ushiftRight, BitVec.getLsbD_or, BitVec.getLsbD_and, BitVec.getLsbD_shiftLeft]
  by_cases h : i < 8
  · rw [bm8 (24 + i) (by omega), BitVec.getLsbD_and, b255 (24 + i - 8) (by omega)]
    simp [show ¬ 24 + i - 8 < 8 by omega]
    intro _
    omega
  · rw [BitVec.getLsbD_of_ge x (24 + i) (by omega)]
    simp [show ¬ 24 + i < 32 by omega]
/-- a word with byte r of it set to v -/
def sbW (x v : Int32) (r : Nat) : Int32 := (x &&& ((255 <<< ((24 - (8 * ((nI r) &&& 3))) &&& 31)) ^^^ (-1))) ||| (v <<< ((24 - (8 * ((nI r) &&& 3))) &&& 31))
theorem lst_sb (x v : Int32) {r : Nat} (hr : r < 3) : lstB (sbW x v r) = lstB x := by
  apply Int32.toBitVec_inj.mp
  rcases r with _ | _ | _ | r
  · exact bl24 x.toBitVec v.toBitVec
  · exact bl16 x.toBitVec v.toBitVec
  · exact bl8 x.toBitVec v.toBitVec
  · omega
theorem fst_sb (x v : Int32) {r : Nat} (hr : r < 3) : fstB (sbW x (v &&& 255) r) = if r = 0 then v &&& 255 else fstB x := by
  apply Int32.toBitVec_inj.mp
  rcases r with _ | _ | _ | r
  · exact bf24 x.toBitVec v.toBitVec
  · exact bf16 x.toBitVec v.toBitVec
  · exact bf8 x.toBitVec v.toBitVec
  · omega

theorem bff (x : BitVec 32) : (x >>> 24) &&& 255#32 = x >>> 24 := by
  apply BitVec.eq_of_getLsbD_eq
  intro i hi
  rw [BitVec.getLsbD_and, BitVec.getLsbD_ushiftRight, b255 i hi]
  by_cases h : i < 8
  · simp [h]
  · rw [BitVec.getLsbD_of_ge x (24 + i) (by omega)]
    simp
theorem fst255 (x : Int32) : fstB x &&& 255 = fstB x := by
  apply Int32.toBitVec_inj.mp
  exact bff x.toBitVec
theorem sb_step {x y : Int32} {v : Int32} {k r : Nat} (hk : k < 2 ^ 31) (hr : k % 4 = r) : (x &&& ((255 <<< ((24 - (8 * ((nI k) &&& 3))) &&& 31)) ^^^ (-1))) ||| (v <<< ((24 - (8 * ((nI k) &&& 3))) &&& 31)) = sbW x v r := by
  unfold sbW
  rw [and3 hk, and3 (show r < 2 ^ 31 by omega), hr, show r % 4 = r by omega]
theorem mvB_lst {F : Nat → Int32} {i j : Nat} : ∀ (m k r : Nat) (t : Nat → Int32), j + k + m < 2 ^ 31 → (j + k) % 4 = r → r + m ≤ 3 → lstB (mvB F i j m k t ((j + k) / 4)) = lstB (t ((j + k) / 4))
  | 0, _, _, _, _, _, _ => rfl
  | m + 1, k, r, t, hb, hr, hm => by
    show lstB (mvB F i j m (k + 1) (upd t ((j + k) / 4) _) ((j + k) / 4)) = _
    have e : (j + k) / 4 = (j + (k + 1)) / 4 := by omega
    have ih := mvB_lst (F := F) (i := i) (j := j) m (k + 1) (r + 1) (upd t ((j + k) / 4) (sbW (t ((j + k) / 4)) (bytA F (i + k)) r)) (by omega) (by omega) (by omega)
    rw [sb_step (y := 0) (r := r) (by omega) hr]
    rw [← e] at ih
    rw [ih, pk_us]
    exact lst_sb _ _ (by omega)
theorem mvB_fst {F : Nat → Int32} {i j : Nat} : ∀ (m k r : Nat) (t : Nat → Int32), j + k + m < 2 ^ 31 → (j + k) % 4 = r → 1 ≤ r → r + m ≤ 3 → fstB (mvB F i j m k t ((j + k) / 4)) = fstB (t ((j + k) / 4))
  | 0, _, _, _, _, _, _, _ => rfl
  | m + 1, k, r, t, hb, hr, h1, hm => by
    show fstB (mvB F i j m (k + 1) (upd t ((j + k) / 4) _) ((j + k) / 4)) = _
    have e : (j + k) / 4 = (j + (k + 1)) / 4 := by omega
    have ih := mvB_fst (F := F) (i := i) (j := j) m (k + 1) (r + 1) (upd t ((j + k) / 4) (sbW (t ((j + k) / 4)) (bytA F (i + k)) r)) (by omega) (by omega) (by omega) (by omega)
    rw [sb_step (y := 0) (r := r) (by omega) hr]
    rw [← e] at ih
    rw [ih, pk_us]
    unfold bytA
    rw [fst_sb _ _ (by omega), if_neg (by omega)]
theorem byt0 {F : Nat → Int32} {k : Nat} (hk : k < 2 ^ 31) (h4 : k % 4 = 0) : bytA F k = fstB (F (k / 4)) := by
  unfold bytA
  rw [and3 hk, h4]
  exact fst255 _
theorem mvB_new {F : Nat → Int32} {i j : Nat} (m k : Nat) (t : Nat → Int32) (hb : j + k + m < 2 ^ 31) (hi : i + k < 2 ^ 31) (h4 : (j + k) % 4 = 0) (h5 : (i + k) % 4 = 0) (hm : m < 3) : fstB (mvB F i j (m + 1) k t ((j + k) / 4)) = fstB (F ((i + k) / 4)) := by
  show fstB (mvB F i j m (k + 1) (upd t ((j + k) / 4) _) ((j + k) / 4)) = _
  have e : (j + k) / 4 = (j + (k + 1)) / 4 := by omega
  have ih := mvB_fst (F := F) (i := i) (j := j) m (k + 1) 1 (upd t ((j + k) / 4) (sbW (t ((j + k) / 4)) (bytA F (i + k)) 0)) (by omega) (by omega) (by omega) (by omega)
  rw [sb_step (y := 0) (r := 0) (by omega) h4]
  rw [← e] at ih
  rw [ih, pk_us, byt0 hi h5, ← fst255 (F ((i + k) / 4)), fst_sb _ _ (by omega), if_pos rfl]
theorem torn {rf t : Nat → Int32} {i s p : Nat} (hi : i < 32) (hs : s < 280) (h0 : 0 < p) (h5 : p < 512) : fstB (mvF rf (i * 512) (s * 512) p t (s * 128)) = fstB (rf (i * 128)) ∧ lstB (mvF rf (i * 512) (s * 512) p t (s * 128 + 127)) = lstB (t (s * 128 + 127)) := by
  unfold mvF
  rw [if_pos ⟨by omega, by omega⟩]
  refine ⟨?_, ?_⟩
  · by_cases h4 : 4 ≤ p
    · rw [mvB_out _ _ _ _ (by omega), pk_cpy_in (by omega) (by omega)]
      congr 2
      omega
    · have e0 : p / 4 * 4 = 0 := by omega
      rw [e0]
      have e1 := mvB_new (F := rf) (i := i * 512) (j := s * 512) (p - 1) 0 (va_cpy rf t (i * 512 / 4) (s * 512 / 4) (p / 4)) (by omega) (by omega) (by omega) (by omega) (by omega)
      rw [show p - 1 + 1 = p - 0 by omega, show (s * 512 + 0) / 4 = s * 128 by omega, show (i * 512 + 0) / 4 = i * 128 by omega] at e1
      exact e1
  · by_cases h4 : p / 4 = 127
    · have e1 := mvB_lst (F := rf) (i := i * 512) (j := s * 512) (p - p / 4 * 4) (p / 4 * 4) 0 (va_cpy rf t (i * 512 / 4) (s * 512 / 4) (p / 4)) (by omega) (by omega) (by omega)
      rw [show (s * 512 + p / 4 * 4) / 4 = s * 128 + 127 by omega] at e1
      rw [e1, pk_cpy_out (by omega)]
    · rw [mvB_out _ _ _ _ (by omega), pk_cpy_out (by omega)]
theorem mv_all {rf t : Nat → Int32} {i s x : Nat} (hx : x < 128) : mvF rf (i * 512) (s * 512) 512 t (s * 128 + x) = rf (i * 128 + x) := by
  unfold mvF
  rw [if_pos ⟨by omega, by omega⟩, mvB_out _ _ _ _ (by omega), pk_cpy_in (by omega) (by omega)]
  congr 1
  omega
theorem mv_none {rf t : Nat → Int32} {i s x : Nat} : mvF rf (i * 512) (s * 512) 0 t x = t x := by
  unfold mvF
  rw [if_pos ⟨by omega, by omega⟩]
  show mvB rf _ _ 0 0 _ x = t x
  exact pk_cpy_out (by omega)
theorem clI512 (x : Int32) : ∃ c : Nat, c ≤ 512 ∧ clI x 0 512 = nI c := by
  unfold clI
  by_cases h : x < 512
  · rw [if_pos h]
    by_cases h2 : (0 : Int32) < x
    · rw [if_pos h2]
      obtain ⟨j, hj, e⟩ := nI_of2 (x := x) (M := 512) (n := 512) (by decide) (fun z => absurd (Int32.lt_trans h2 z) (by decide)) (Int32.le_of_lt h)
      exact ⟨j, hj, e⟩
    · rw [if_neg h2]
      exact ⟨0, by omega, rfl⟩
  · rw [if_neg h]
    exact ⟨512, by omega, rfl⟩
/-- what stands after the first i of the blocks not FLUSHED -/
def FI_ (Z : ZT) (sw ff ow : Nat → Int32) (i : Nat) (g o : Nat → Int32) : Prop :=
  (∀ s, s < 280 → (∃ j, j < i ∧ sw j = nI s) → o s = -1 ∧ (whB g s → gd Z g (s * 128))) ∧
  (∀ s, s < 280 → (∀ j, j < i → ¬ sw j = nI s) → o s = ow s ∧ ∀ x, x < 128 → g (s * 128 + x) = ff (s * 128 + x))
theorem whB.cg {f g : Nat → Int32} {s : Nat} (h : ∀ x, x < 128 → g (s * 128 + x) = f (s * 128 + x)) (hw : whB g s) : whB f s := by
  unfold whB at hw ⊢
  have e0 : g (s * 128) = f (s * 128) := h 0 (by omega)
  rw [e0, h 127 (by omega)] at hw
  exact hw
theorem FI_.step {Z : ZT} {sw ff ow g o g2 : Nat → Int32} {i s0 : Nat} (h : FI_ Z sw ff ow i g o) (hs0 : s0 < 280) (e0 : sw i = nI s0) (hag : ∀ s, s < 280 → s ≠ s0 → ∀ x, x < 128 → g2 (s * 128 + x) = g (s * 128 + x)) (hg : whB g2 s0 → gd Z g2 (s0 * 128)) : FI_ Z sw ff ow (i + 1) g2 (upd o s0 (-1)) := by
  refine ⟨fun s hs hj => ?_, fun s hs hj => ?_⟩
  · by_cases e : s = s0
    · subst e
      exact ⟨pk_us, hg⟩
    · obtain ⟨j, hj1, hj2⟩ := hj
      have hji : j < i := by
        rcases Nat.lt_or_ge j i with z | z
        · exact z
        · have : j = i := by omega
          rw [this, e0] at hj2
          exact absurd (nI_inj (by omega) (by omega) hj2).symm e
      have h1 := h.1 s hs ⟨j, hji, hj2⟩
      have q := hag s hs e
      refine ⟨by rw [pk_un e]; exact h1.1, fun z => (h1.2 (whB.cg q z)).cg (q 1 (by omega)) (q 15 (by omega)) (q 16 (by omega))⟩
  · have e : s ≠ s0 := fun z => hj i (by omega) (by rw [z]; exact e0)
    have h1 := h.2 s hs (fun j hj1 => hj j (by omega))
    exact ⟨by rw [pk_un e]; exact h1.1, fun x hx => (hag s hs e x hx).trans (h1.2 x hx)⟩


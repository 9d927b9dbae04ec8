/-! what every state that calls can reach keeps (bounds alone): a NODE's cells by one function D (cell, place) -/
abbrev ZT : Type := {p : (Nat → Prop) × (Nat → Prop) // ∀ o, p.1 o → ¬ p.2 o}
def ZT.y (Z : ZT) (o : Nat) : Prop := Z.1.1 o
def ZT.x (Z : ZT) (o : Nat) : Prop := Z.1.2 o
def inR (N : Nat) (x : Int32) : Prop := ∃ k : Nat, k < N ∧ x = nI k
/-- a block's words from o on: a ROOT's VERSION is that of an OPERATION that may make one (Z); a RECORD's sizes are within bounds -/
def gd (Z : ZT) (b : Nat → Int32) (o : Nat) : Prop := ∀ k : Nat, k < 2 ^ 31 → b (o + 1) = nI k → (k / 10240 = 512 → Z.y (k % 512)) ∧ (k / 512 % 20 = 19 → ¬ k / 10240 = 512 → inR 8193 (b (o + 15)) ∧ inR 2049 (b (o + 16)))
def plT (t : Int32) : Prop := ∀ k : Nat, k < 2 ^ 31 → t = nI k → ¬ k / 10240 = 512 ∧ ¬ k / 512 % 20 = 19
theorem plT.gd {Z : ZT} {b : Nat → Int32} {o : Nat} (h : plT (b (o + 1))) : gd Z b o := fun k hk e => ⟨fun z => absurd z (h k hk e).1, fun z => absurd z (h k hk e).2⟩
def AQ (k a b l0 l1 l : Int32) : Prop := inR 10 k ∧ (k = 1 ∨ k = 3 ∨ k = 4 → inR 8193 a) ∧ (k = 4 → inR 2049 b) ∧ inR 201 l0 ∧ inR 201 l1 ∧ inR 2049 l
def opC (Z : ZT) (t k : Int32) : Prop := ∃ o : Nat, o < 512 ∧ t = nI o ∧ (k = 4 ∨ k = 9 → Z.x o) ∧ (k = 4 ∨ k = 8 ∨ k = 9 ∨ Z.y o)
def MI (Z : ZT) (x : Mg) : Prop := (x.1 0 = 5 ∨ x.1 0 = 11 ∨ x.1 0 = 12 → inR 281 (x.1 7)) ∧ (x.1 0 = 3 → inR 2049 (x.1 7)) ∧ (x.1 0 = 7 ∨ x.1 0 = 10 → ¬ x.1 5 = -1 → x.2 1 = x.1 5 ∧ gd Z x.2 0) ∧ (x.1 0 = 2 → AQ (x.2 0) (x.2 1) (x.2 2) (x.2 3) (x.2 4) (x.1 7) ∧ opC Z (x.1 5) (x.2 0))
def cN (jf : Nat → Int32) : Nat → Nat
  | 0 => 0
  | k + 1 => cN jf k + (if jf k < 0 then 0 else 1)
def TI (Z : ZT) (fl : Int32) (jf zf nf fo vf : Nat → Int32) : Prop :=
  (∀ i, i < 512 → fo i = -1 ∨ ∃ f : Nat, f < 48 ∧ fo i = nI f ∧ jf f = nI i) ∧
  (∀ f, f < 48 → jf f = -1 ∨ inR 512 (jf f)) ∧
  (∀ a, a < 960 → ¬ vf a < 0 → ¬ jf (a / 20) < 0) ∧
  (∀ f, f < 48 → inR 8193 (zf f) ∧ inR 2049 (nf f)) ∧
  fl = nI (cN jf 48) ∧ (∀ v : Nat, v < 512 → vf 960 = nI v → Z.y v)
/-- what stands when an OPERATION is planned and its STRIPES are fetched -/
def FC (fl : Int32) (jf W Q : Nat → Int32) : Prop :=
  ((W 7 = -1 ∧ (Q 0 = 0 ∨ Q 0 = 1 ∨ Q 0 = 2) ∧ ¬ fl = 48) ∨ ∃ f : Nat, f < 48 ∧ W 7 = nI f ∧ ¬ jf f < 0) ∧
  (W 8 = -1 ∨ ∃ f : Nat, f < 48 ∧ W 8 = nI f ∧ ¬ jf f < 0) ∧ (Q 0 = 7 → ¬ W 8 = -1) ∧ inR 8 (Q 0) ∧
  (∃ s c : Nat, s ≤ 2048 ∧ W 9 = nI s ∧ W 11 = nI c ∧ (s = 0 → c = 0) ∧ (0 < s → ∃ a : Nat, Q 1 = nI a ∧ a + s ≤ 8192 ∧ W 10 = nI (a / 448) ∧ c = (a + s - 1) / 448 - a / 448 + 1)) ∧
  (Q 0 = 5 → W 11 = 0) ∧ (Q 0 = 2 → inR 8193 (Q 1)) ∧ (Q 0 = 4 → inR 2049 (W 5)) ∧ W 13 = -1 ∧ W 14 = -1
def WI (Z : ZT) (fl : Int32) (jf W Q B : Nat → Int32) : Prop :=
  AQ (Q 0) (Q 1) (Q 2) (Q 3) (Q 4) (Q 5) ∧ inR 6 (W 3) ∧ inR 7 (W 11) ∧ (¬ W 3 = 0 → opC Z (W 4) (Q 0)) ∧ (W 3 = 2 → FC fl jf W Q ∧ ∀ i, i < 9 → ¬ B (i * 128) = 0 → plT (B (i * 128 + 1))) ∧
  (W 3 = 3 ∨ W 3 = 4 → ∃ o : Nat, o < 512 ∧ W 4 = nI o ∧ Z.y o) ∧ (W 3 = 5 → Q 0 = 4 ∨ Q 0 = 9 → W 5 < 0 ∨ inR 2049 (W 5)) ∧
  (∀ i, i < 9 → ¬ B (i * 128) = 0 → gd Z B (i * 128))
def DI (Z : ZT) (up dc : Int32) (ff rf sw ow tf : Nat → Int32) : Prop :=
  (∃ c : Nat, c ≤ 32 ∧ dc = nI c ∧
    (∀ j, j < c → ∃ s : Nat, s < 280 ∧ sw j = nI s ∧ ow s = nI j ∧ gd Z rf (j * 128) ∧ (¬ tf s = -1 → rf (j * 128 + 1) = tf s) ∧ (fstB (rf (j * 128)) = 0 ∨ ¬ fstB (rf (j * 128)) = lstB (ff (s * 128 + 127)))) ∧
    (∀ s, s < 280 → ow s = -1 ∨ ∃ j : Nat, j < c ∧ ow s = nI j ∧ sw j = nI s)) ∧
  (∀ s, s < 280 → whB ff s → gd Z ff (s * 128)) ∧
  (∀ s, s < 280 → ow s < 0 → ¬ tf s = -1 → ff (s * 128 + 1) = tf s ∧ gd Z ff (s * 128)) ∧
  (up = 0 → dc = 0 ∧ ∀ s, s < 280 → tf s = -1)
def LI (nn : Nat) (ni tu : Int32) : Prop := inR 961 ni ∧ inR nn tu
def NI (Z : ZT) (nn : Nat) (D : Nat → Nat → Int32) : Prop :=
  DI Z (D 0 6) (D 1 4) (D 2) (D 3) (D 4) (D 5) (D 6) ∧ TI Z (D 10 9) (D 11) (D 12) (D 13) (D 15) (D 16) ∧ WI Z (D 10 9) (D 11) (D 18) (D 19) (D 21) ∧ LI nn (D 7 12) (D 7 13)
/-- the words of a MESSAGE's body that count, by its head -/
def rlv (u : Nat → Int32) : Nat := if u 0 = 2 then 617 else if u 0 = 3 then ((u 7 + 3) / 4).toNatClampNeg else if u 0 = 5 ∨ u 0 = 11 ∨ u 0 = 12 then (u 7).toNatClampNeg else if u 0 = 7 ∨ u 0 = 10 then 128 else 0
def smM (x y : Mg) : Prop := x.1 = y.1 ∧ ∀ i, i < rlv x.1 → x.2 i = y.2 i
def smL : List Mg → List Mg → Prop
  | [], [] => True
  | x :: xs, y :: ys => smM x y ∧ smL xs ys
  | _, _ => False
theorem smL.len : ∀ {xs ys : List Mg}, smL xs ys → xs.length = ys.length
  | [], [], _ => rfl
  | x :: xs, y :: ys, h => congrArg (· + 1) (smL.len h.2)
  | [], _ :: _, h => absurd h id
  | _ :: _, [], h => absurd h id
theorem smL.app : ∀ {xs ys : List Mg} {x y : Mg}, smL xs ys → smM x y → smL (xs ++ [x]) (ys ++ [y])
  | [], [], _, _, _, h => ⟨h, trivial⟩
  | _ :: _, _ :: _, _, _, h, h2 => ⟨h.1, smL.app h.2 h2⟩
  | [], _ :: _, _, _, h, _ => absurd h id
  | _ :: _, [], _, _, h, _ => absurd h id
theorem smL.pst {xs ys : List Mg} {x y : Mg} (h : smL xs ys) (h2 : smM x y) : smL (pst xs x) (pst ys y) := by
  show smL (if xs.length < 128 then xs ++ [x] else xs) (if ys.length < 128 then ys ++ [y] else ys)
  rw [h.len]
  split
  · exact h.app h2
  · exact h
theorem smM.head {u b b' : Nat → Int32} (h : u 0 = 0 ∨ u 0 = 1 ∨ u 0 = 4 ∨ u 0 = 6 ∨ u 0 = 8 ∨ u 0 = 9) : smM (u, b) (u, b') := by
  have hk : ∀ x : Int32, (x = 0 ∨ x = 1 ∨ x = 4 ∨ x = 6 ∨ x = 8 ∨ x = 9) → ¬ x = 2 ∧ ¬ x = 3 ∧ ¬ (x = 5 ∨ x = 11 ∨ x = 12) ∧ ¬ (x = 7 ∨ x = 10) := by
    rintro x (rfl | rfl | rfl | rfl | rfl | rfl) <;> decide
  obtain ⟨h1, h2, h3, h4⟩ := hk _ h
  refine ⟨rfl, fun i hi => ?_⟩
  have hi : i < rlv u := hi
  unfold rlv at hi
  rw [if_neg h1, if_neg h2, if_neg h3, if_neg h4] at hi
  exact absurd hi (Nat.not_lt_zero _)
theorem smM.all {u b b' : Nat → Int32} {m : Nat} (hm : rlv u ≤ m) (h : ∀ i, i < m → b i = b' i) : smM (u, b) (u, b') := ⟨rfl, fun i hi => h i (Nat.lt_of_lt_of_le hi hm)⟩
/-- a state of a NODE and the MESSAGES, with and without an answer -/
abbrev St : Type := (Nat → Nat → Int32) × Int64 × Int64 × List Mg
abbrev SR : Type := Int32 × St
def bnS {α : Type} (s : St) (k : (Nat → Nat → Int32) → Int64 → Int64 → List Mg → α) : α := k s.1 s.2.1 s.2.2.1 s.2.2.2
def bnR {α : Type} (s : SR) (k : Int32 → (Nat → Nat → Int32) → Int64 → Int64 → List Mg → α) : α := k s.1 s.2.1 s.2.2.1 s.2.2.2.1 s.2.2.2.2
def bnN {α : Type} (s : Nat) (k : Nat → α) : α := k s
def bnI {α : Type} (s : Int32) (k : Int32 → α) : α := k s
theorem bnI_eq {α : Type} {s : Int32} {k : Int32 → α} {x : α} {a : Int32} (h : a = s) (hk : x = k a) : x = bnI s k := by
  subst h
  exact hk
theorem bnS_eq {α : Type} {s : St} {k : (Nat → Nat → Int32) → Int64 → Int64 → List Mg → α} {x : α} {D : Nat → Nat → Int32} {K A : Int64} {Y : List Mg} (h : (D, K, A, Y) = s) (hk : x = k D K A Y) : x = bnS s k := by
  subst h
  exact hk
theorem bnR_eq {α : Type} {s : SR} {k : Int32 → (Nat → Nat → Int32) → Int64 → Int64 → List Mg → α} {x : α} {y : Int32} {D : Nat → Nat → Int32} {K A : Int64} {Y : List Mg} (h : (y, D, K, A, Y) = s) (hk : x = k y D K A Y) : x = bnR s k := by
  subst h
  exact hk
theorem bnN_eq {α : Type} {s : Nat} {k : Nat → α} {x : α} {a : Nat} (h : a = s) (hk : x = k a) : x = bnN s k := by
  subst h
  exact hk
theorem eq_ifT {α : Type} {P : Prop} [Decidable P] {x a b : α} (c : P) (h : x = a) : x = if P then a else b := h.trans (if_pos c).symm
theorem eq_ifF {α : Type} {P : Prop} [Decidable P] {x a b : α} (c : ¬ P) (h : x = b) : x = if P then a else b := h.trans (if_neg c).symm
theorem nI_ne1 {a N : Nat} {x : Int32} (ha : a < N) (e : x = nI a) (hN : N ≤ 2 ^ 31 := by decide) : ¬ x = -1 := fun z => nI_pos (show a < 2 ^ 31 by omega) (by rw [← e, z]; decide)
theorem cl_eq {a N : Nat} {x : Int32} (ha : a < N) (e : x = nI a) (hN : N ≤ 2 ^ 31 := by decide) : a = x.toNatClampNeg := by rw [e, nI_clamp (by omega)]
theorem inR_cl {N : Nat} {x : Int32} (h : inR N x) (hN : N ≤ 2 ^ 31 := by first | decide | omega) : x.toNatClampNeg < N := by
  obtain ⟨k, hk, rfl⟩ := h
  rw [nI_clamp (by omega)]
  exact hk
theorem ar_ialdN {L : Nat} {xs : Nat → Int32} {mi pc fr lo : Nat} {lv : List (Nat × Value)} {r : List Value} {h : ax_H} {post : Option Value → ax_H → Prop} (n : Nat) {a N e : Nat} {f : Nat → Int32} (hd : decode (axt_b mi) pc = .ok (.iaload, 1)) (hn : pc + 1 = n) (hg : ax_g h a = some (.inl (0, N, .inl f))) (hi : e < N) (hN : N < 2 ^ 31) (k : ax_A (ax_step L xs) ((mi, n, fr, lo), lv, .int (f e) :: r, h) post) : ax_A (ax_step L xs) ((mi, pc, fr, lo), lv, .int (nI e) :: .ref a :: r, h) post := by
  refine ar_iald n hd hn hg (vin hi hN) ?_
  rw [nI_clamp (by omega)]
  exact k
theorem ar_iastN {L : Nat} {xs : Nat → Int32} {mi pc fr lo : Nat} {lv : List (Nat × Value)} {r : List Value} {h : ax_H} {post : Option Value → ax_H → Prop} (n : Nat) {a N e : Nat} {f : Nat → Int32} {x : Int32} (hd : decode (axt_b mi) pc = .ok (.iastore, 1)) (hn : pc + 1 = n) (hg : ax_g h a = some (.inl (0, N, .inl f))) (hi : e < N) (hN : N < 2 ^ 31) (k : ax_A (ax_step L xs) ((mi, n, fr, lo), lv, r, ax_put h a (.inl (0, N, .inl (upd f e x)))) post) : ax_A (ax_step L xs) ((mi, pc, fr, lo), lv, .int x :: .int (nI e) :: .ref a :: r, h) post := by
  refine ar_iast n hd hn hg (vin hi hN) ?_
  rw [nI_clamp (by omega)]
  exact k
/-- the MESSAGES under way -/
def NeT (Z : ZT) (h : ax_H) (n q : Nat) (u b : Nat → Int32) (Y : List Mg) : Prop := ∃ (ids : List Nat) (ms : List Mg), NTL h n (n + 1) ids ms q u b ∧ (∀ x ∈ ms, MI Z x) ∧ smL ms Y
def NDA (n nd x : Nat) : Prop := NTA n (n + 1) x ∨ (nd ≤ x ∧ x < nd + 22)
theorem NeT.fr {Z : ZT} {A : Nat → Prop} {h h' : ax_H} {n q : Nat} {u b : Nat → Int32} {Y : List Mg} (hN : NeT Z h n q u b Y) (hf : ax_fr A h h') (hA : ∀ x, NTA n (n + 1) x → ¬ A x) : NeT Z h' n q u b Y := by
  obtain ⟨ids, ms, k1, k2⟩ := hN
  exact ⟨ids, ms, k1.fr hf hA, k2⟩
theorem NeT.put {Z : ZT} {h : ax_H} {n q a : Nat} {c : va_E} {u b : Nat → Int32} {Y : List Mg} (hN : NeT Z h n q u b Y) (ha : n + 262 ≤ a) : NeT Z (ax_put h a c) n q u b Y := hN.fr (A := fun x => x = a) (ax_fr.rf.put rfl) (fun x hx e => by
  unfold NTA at hx
  omega)
theorem NeT.mgc {Z : ZT} {h : ax_H} {n q : Nat} {u b : Nat → Int32} {Y : List Mg} (hN : NeT Z h n q u b Y) : ax_g h (n + 1 + 1 + 2 * q) = some (.inr (2, [.int (u 0), .int (u 1), .int (u 2), .int (u 3), .int (u 4), .int (u 5), .int (u 6), .int (u 7), .ref (n + 1 + 1 + 2 * q + 1)])) := by
  obtain ⟨ids, ms, k1, k2⟩ := hN
  exact k1.read.1.1
theorem NeT.mbc {Z : ZT} {h : ax_H} {n q : Nat} {u b : Nat → Int32} {Y : List Mg} (hN : NeT Z h n q u b Y) : ax_g h (n + 1 + 1 + 2 * q + 1) = some (.inl (0, 617, .inl b)) := by
  obtain ⟨ids, ms, k1, k2⟩ := hN
  exact k1.read.1.2
theorem NeT.lq {Z : ZT} {h : ax_H} {n q : Nat} {u b : Nat → Int32} {Y : List Mg} (hN : NeT Z h n q u b Y) : q < 130 := by
  obtain ⟨ids, ms, k1, k2⟩ := hN
  exact k1.read.2
theorem pst_mem {P : Mg → Prop} {ms : List Mg} {x : Mg} (h : ∀ y ∈ ms, P y) (hx : P x) : ∀ y ∈ pst ms x, P y := by
  intro y hy
  unfold pst at hy
  split at hy
  · rcases List.mem_append.mp hy with h1 | h1
    · exact h y h1
    · rw [List.mem_singleton.mp h1]
      exact hx
  · exact h y hy
/-- post, then what is filled in: the MESSAGE that comes out must keep MI -/
theorem NeT.post {L : Nat} {xs : Nat → Int32} {fr lo : Nat} {Z : ZT} {h : ax_H} {n q : Nat} {u b : Nat → Int32} {Y : List Mg} {kd fm tt ep st : Int32} (hN : NeT Z h n q u b Y) : ax_M L xs 36 fr lo [.ref n, .int kd, .int fm, .int tt, .int ep, .int st] h (fun r h2 => ∃ (m : Nat) (bm : Nat → Int32), m < 130 ∧ m ≠ q ∧ r = some (.ref (n + 1 + 1 + 2 * m)) ∧ ms_at h2 (n + 1 + 1 + 2 * m) (mg kd fm tt ep st) bm ∧ (∀ (h' : ax_H) (u' b' : Nat → Int32) (y' : Mg), ax_fr (fun x => x = n + 1 + 1 + 2 * m ∨ x = n + 1 + 1 + 2 * m + 1) h2 h' → ms_at h' (n + 1 + 1 + 2 * m) u' b' → MI Z (u', b') → smM (u', b') y' → NeT Z h' n q u b (pst Y y')) ∧ ax_fr (NTA n (n + 1)) h h2 ∧ h2.1 = h.1 ∧ h2.2.1 = h.2.1) := by
  obtain ⟨ids, ms, k1, k2⟩ := hN
  refine ax_A.post (c_36H k1) (fun r h2 hq => ?_)
  obtain ⟨m, bm, ids', m1, m2, m3, m4, m5, m6, m7, m8⟩ := hq
  exact ⟨m, bm, m1, m3, m2, m4, fun h' u' b' y' e1 e2 e3 e4 => ⟨ids', _, m5 h' u' b' e1 e2, pst_mem k2.1 e3, smL.pst k2.2 e4⟩, m6, m7, m8⟩
/-- a MESSAGE of a kind that says nothing beside its head -/
theorem MI.head {Z : ZT} {u b : Nat → Int32} (h : u 0 = 0 ∨ u 0 = 1 ∨ u 0 = 4 ∨ u 0 = 6 ∨ u 0 = 8 ∨ u 0 = 9) : MI Z (u, b) := by
  have hk : ∀ x : Int32, (x = 0 ∨ x = 1 ∨ x = 4 ∨ x = 6 ∨ x = 8 ∨ x = 9) → ¬ (x = 5 ∨ x = 11 ∨ x = 12) ∧ ¬ x = 3 ∧ ¬ (x = 7 ∨ x = 10) ∧ ¬ x = 2 := by
    rintro x (rfl | rfl | rfl | rfl | rfl | rfl) <;> decide
  have h1 := hk _ h
  exact ⟨fun z => absurd z h1.1, fun z => absurd z h1.2.1, fun z => absurd z h1.2.2.1, fun z => absurd z h1.2.2.2⟩
theorem MI.cnt {Z : ZT} {u b : Nat → Int32} (h : u 0 = 5 ∨ u 0 = 11 ∨ u 0 = 12) (hc : inR 281 (u 7)) : MI Z (u, b) := by
  have hk : ∀ x : Int32, (x = 5 ∨ x = 11 ∨ x = 12) → ¬ x = 3 ∧ ¬ (x = 7 ∨ x = 10) ∧ ¬ x = 2 := by
    rintro x (rfl | rfl | rfl) <;> decide
  have h1 := hk _ h
  exact ⟨fun _ => hc, fun z => absurd z h1.1, fun z => absurd z h1.2.1, fun z => absurd z h1.2.2⟩
theorem MI.told {Z : ZT} {u b : Nat → Int32} (h : u 0 = 3) (hc : inR 2049 (u 7)) : MI Z (u, b) := by
  have hk : ∀ x : Int32, x = 3 → ¬ (x = 5 ∨ x = 11 ∨ x = 12) ∧ ¬ (x = 7 ∨ x = 10) ∧ ¬ x = 2 := by
    rintro x rfl
    decide
  have h1 := hk _ h
  exact ⟨fun z => absurd z h1.1, fun _ => hc, fun z => absurd z h1.2.1, fun z => absurd z h1.2.2⟩
theorem MI.item {Z : ZT} {u b : Nat → Int32} (h : u 0 = 7 ∨ u 0 = 10) (hc : ¬ u 5 = -1 → b 1 = u 5 ∧ gd Z b 0) : MI Z (u, b) := by
  have hk : ∀ x : Int32, (x = 7 ∨ x = 10) → ¬ (x = 5 ∨ x = 11 ∨ x = 12) ∧ ¬ x = 3 ∧ ¬ x = 2 := by
    rintro x (rfl | rfl) <;> decide
  have h1 := hk _ h
  exact ⟨fun z => absurd z h1.1, fun z => absurd z h1.2.1, fun _ => hc, fun z => absurd z h1.2.2⟩
theorem MI.ask {Z : ZT} {u b : Nat → Int32} (h : u 0 = 2) (hc : AQ (b 0) (b 1) (b 2) (b 3) (b 4) (u 7)) (ho : opC Z (u 5) (b 0)) : MI Z (u, b) := by
  have hk : ∀ x : Int32, x = 2 → ¬ (x = 5 ∨ x = 11 ∨ x = 12) ∧ ¬ x = 3 ∧ ¬ (x = 7 ∨ x = 10) := by
    rintro x rfl
    decide
  have h1 := hk _ h
  exact ⟨fun z => absurd z h1.1, fun z => absurd z h1.2.1, fun z => absurd z h1.2.2, fun _ => ⟨hc, ho⟩⟩

def cNd (n nd : Nat) (me : Int32) (D : Nat → Nat → Int32) : Nat × va_E := (nd, .inr (7, [.int me, .ref (n + 264), .ref n, .ref (nd + 1), .ref (nd + 7), .ref (nd + 6), .int (D 0 6), .int (D 0 7), .int (D 0 8)]))
def cDk (nd : Nat) (D : Nat → Nat → Int32) : Nat × va_E := (nd + 1, .inr (8, [.ref (nd + 2), .ref (nd + 3), .ref (nd + 4), .ref (nd + 5), .int (D 1 4)]))
def cAr (nd k N : Nat) (D : Nat → Nat → Int32) : Nat × va_E := (nd + k, .inl (0, N, .inl (D k)))
def cLd (n nd : Nat) (me : Int32) (D : Nat → Nat → Int32) (A : Int64) : Nat × va_E := (nd + 7, .inr (9, [.int me, .ref (n + 264), .ref n, .ref (nd + 10), .ref (nd + 18), .ref (nd + 8), .ref (nd + 9), .int (D 7 7), .int (D 7 8), .int (D 7 9), .int (D 7 10), .long A, .int (D 7 12), .int (D 7 13), .int (D 7 14)]))
def cTb (nd gg : Nat) (D : Nat → Nat → Int32) (K : Int64) : Nat × va_E := (nd + 10, .inr (6, [.int (nI gg), .ref (nd + 11), .ref (nd + 12), .ref (nd + 13), .ref (nd + 14), .ref (nd + 15), .ref (nd + 16), .ref (nd + 17), .long K, .int (D 10 9), .int (D 10 10)]))
def cWk (nd : Nat) (D : Nat → Nat → Int32) : Nat × va_E := (nd + 18, .inr (10, [.ref (nd + 10), .ref (nd + 19), .ref (nd + 21), .int (D 18 3), .int (D 18 4), .int (D 18 5), .int (D 18 6), .int (D 18 7), .int (D 18 8), .int (D 18 9), .int (D 18 10), .int (D 18 11), .int (D 18 12), .int (D 18 13), .int (D 18 14)]))
def cWa (nd : Nat) (D : Nat → Nat → Int32) : Nat × va_E := (nd + 19, .inr (5, [.int (D 19 0), .int (D 19 1), .int (D 19 2), .int (D 19 3), .int (D 19 4), .int (D 19 5), .int (D 19 6), .ref (nd + 20)]))
def cRk (n nn gg : Nat) (C : Int32) : Nat × va_E := (n + 264, .inr (3, [.int (nI nn), .int C, .int (nI gg), .ref (n + 265)]))
def cOr (n nn gg : Nat) (f : Nat → Int32) : Nat × va_E := (n + 265, .inl (0, gg * nn, .inl f))
def NW (n nd nn gg : Nat) (C me : Int32) (f : Nat → Int32) (D : Nat → Nat → Int32) (K A : Int64) : List (Nat × va_E) := [cNd n nd me D, cDk nd D, cAr nd 2 35840 D, cAr nd 3 4096 D, cAr nd 4 32 D, cAr nd 5 280 D, cAr nd 6 280 D, cLd n nd me D A, cAr nd 8 16 D, cAr nd 9 280 D, cTb nd gg D K, cAr nd 11 48 D, cAr nd 12 48 D, cAr nd 13 48 D, cAr nd 14 2400 D, cAr nd 15 512 D, cAr nd 16 961 D, cAr nd 17 961 D, cWk nd D, cWa nd D, cAr nd 20 612 D, cAr nd 21 1152 D, cRk n nn gg C, cOr n nn gg f]
/-- the constants of a store -/
def CS (n nd nn gg : Nat) (f : Nat → Int32) : Prop := n + 329 ≤ nd ∧ 0 < n ∧ 3 ≤ nn ∧ nn ≤ 6 ∧ 1 ≤ gg ∧ gg ≤ 16 ∧ Rg nn f
/-- a NODE, the MESSAGES, and that nothing else was written since h0 -/
def NS (Z : ZT) (n nd nn gg : Nat) (C me : Int32) (f : Nat → Int32) (q : Nat) (u b : Nat → Int32) (uv : Int32) (h0 h : ax_H) (D : Nat → Nat → Int32) (K A : Int64) (Y : List Mg) : Prop :=
  ax_hs h (NW n nd nn gg C me f D K A) ∧ NeT Z h n q u b Y ∧ ax_fr (NDA n nd) h0 h ∧ h.1 = h0.1 ∧ h.2.1 = h0.2.1 ∧ 0 < h0.1 ∧ D 0 6 = uv
def PS (Z : ZT) (n nd nn gg : Nat) (C me : Int32) (f : Nat → Int32) (q : Nat) (u b : Nat → Int32) (uv : Int32) (h0 h : ax_H) (R : (Nat → Nat → Int32) → Int64 → Int64 → List Mg → Prop) : Prop := ∃ (D : Nat → Nat → Int32) (K A : Int64) (Y : List Mg), NS Z n nd nn gg C me f q u b uv h0 h D K A Y ∧ NI Z nn D ∧ R D K A Y

theorem NeT.net {Z : ZT} {h : ax_H} {n q : Nat} {u b : Nat → Int32} {Y : List Mg} (hN : NeT Z h n q u b Y) : ∃ (k : Int32) (a c : Nat), ax_g h n = some (.inr (1, [.ref (n + 1), .int k, .ref a, .ref c])) := by
  obtain ⟨ids, ms, k1, k2⟩ := hN
  obtain ⟨a, c, e⟩ := k1.net
  exact ⟨_, a, c, e⟩
def NWa (n nd : Nat) : List Nat := [nd, nd + 1, nd + 2, nd + 3, nd + 4, nd + 5, nd + 6, nd + 7, nd + 8, nd + 9, nd + 10, nd + 11, nd + 12, nd + 13, nd + 14, nd + 15, nd + 16, nd + 17, nd + 18, nd + 19, nd + 20, nd + 21, n + 264, n + 265]
theorem far {F : List (Nat × va_E)} {n nd : Nat} (e : F.map (·.1) = NWa n nd) (hnd : n + 329 ≤ nd) : ∀ p ∈ F, ¬ NTA n (n + 1) p.1 := by
  intro p hp
  have h1 : p.1 ∈ F.map (·.1) := List.mem_map_of_mem hp
  rw [e] at h1
  unfold NWa at h1
  simp only [List.mem_cons, List.not_mem_nil, or_false] at h1
  unfold NTA
  omega
theorem ax_hs.msg {h : ax_H} {F : List (Nat × va_E)} {n m : Nat} {uu bm : Nat → Int32} (hF : ax_hs h F) (hfar : ∀ p ∈ F, ¬ NTA n (n + 1) p.1) (hm : m < 130) (hmm : ms_at h (n + 1 + 1 + 2 * m) uu bm) : ax_hs h ((n + 1 + 1 + 2 * m, ms_c uu (n + 1 + 1 + 2 * m + 1)) :: (n + 1 + 1 + 2 * m + 1, .inl (0, 617, .inl bm)) :: F) := by
  have h1 := ax_hs.consN (nt := n) (w := n + 1) hmm.2 hF (Or.inr (by omega)) hfar
  refine ax_hs.cons hmm.1 h1 (fun q hq e => ?_)
  rcases List.mem_cons.mp hq with rfl | hq
  · exact absurd e (by dsimp only; omega)
  · exact hfar q hq (e ▸ Or.inr (by omega))

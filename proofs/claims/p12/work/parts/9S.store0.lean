/-! the store's own cells by one function E (cell - (n + 262), place), those of asked by Q; the MESSAGES as a list -/
def cSt (s0 n : Nat) (E : Nat → Nat → Int32) : Nat × va_E := (s0, .inr (0, [.ref (n + 264), .ref n, .ref (n + 266), .ref (n + 328), .ref (n + 320), .ref (n + 262), .ref (n + 263), .int (E 100 7), .int (E 100 8), .int (E 100 9), .int (E 100 10)]))
def cAs (n : Nat) (E : Nat → Nat → Int32) : Nat × va_E := (n + 266, .inr (4, [.ref (n + 264), .ref n, .ref (n + 267), .int (E 4 3), .ref (n + 268), .ref (n + 269), .ref (n + 270), .ref (n + 271), .int (E 4 8), .int (E 4 9), .int (E 4 10), .int (E 4 11), .int (E 4 12), .int (E 4 13), .int (E 4 14), .int (E 4 15)]))
def cAk (n : Nat) : Nat × va_E := (n + 270, .inl (4, 24, .inr (.inr (.inr (.inr (fun j => if j < 24 then some (n + 272 + 2 * j) else none))))))
def cNa (n nn : Nat) : Nat × va_E := (n + 328, .inl (5, nn, .inr (.inr (.inr (.inr (fun j => if j < nn then some (n + 329 + 22 * j) else none))))))
def cTs (n gg : Nat) (E : Nat → Nat → Int32) (TK : Int64) : Nat × va_E := (n + 320, .inr (6, [.int (nI gg), .ref (n + 321), .ref (n + 322), .ref (n + 323), .ref (n + 324), .ref (n + 325), .ref (n + 326), .ref (n + 327), .long TK, .int (E 58 9), .int (E 58 10)]))
def cEr (n k N : Nat) (E : Nat → Nat → Int32) : Nat × va_E := (n + (262 + k), .inl (0, N, .inl (E k)))
def EW (s0 n nn gg : Nat) (C : Int32) (f : Nat → Int32) (E : Nat → Nat → Int32) (TK : Int64) : List (Nat × va_E) := [cSt s0 n E, cRk n nn gg C, cOr n nn gg f, cAs n E, cEr n 5 512 E, cEr n 6 100 E, cEr n 7 2 E, cAk n, cEr n 9 512 E, cNa n nn, cEr n 0 48 E, cEr n 1 961 E, cTs n gg E TK, cEr n 59 48 E, cEr n 60 48 E, cEr n 61 48 E, cEr n 62 2400 E, cEr n 63 512 E, cEr n 64 961 E, cEr n 65 961 E]
def EWa (s0 n : Nat) : List Nat := [s0, n + 264, n + 265, n + 266, n + 267, n + 268, n + 269, n + 270, n + 271, n + 328, n + 262, n + 263, n + 320, n + 321, n + 322, n + 323, n + 324, n + 325, n + 326, n + 327]
def akl (h : ax_H) (n j : Nat) (e w : Nat → Int32) : Prop := ax_g h (n + 272 + 2 * j) = some (.inr (5, [.int (e 0), .int (e 1), .int (e 2), .int (e 3), .int (e 4), .int (e 5), .int (e 6), .ref (n + 272 + 2 * j + 1)])) ∧ ax_g h (n + 272 + 2 * j + 1) = some (.inl (0, 612, .inl w))
def AKS (h : ax_H) (n : Nat) (Q : Nat → Mg) : Prop := ∀ j, j < 24 → akl h n j (Q j).1 (Q j).2
def AKX (h : ax_H) (n : Nat) (Q : Nat → Mg) (j : Nat) : Prop := ∀ i, i < 24 → i ≠ j → akl h n i (Q i).1 (Q i).2
def NeX (h : ax_H) (n : Nat) (ms : List Mg) (q : Nat) (u b : Nat → Int32) : Prop := ∃ ids : List Nat, NTL h n (n + 1) ids ms q u b
def CG (s0 n nn gg : Nat) (f : Nat → Int32) : Prop := 0 < s0 ∧ s0 < n ∧ 3 ≤ nn ∧ nn ≤ 6 ∧ 1 ≤ gg ∧ gg ≤ 16 ∧ Rg nn f
def ASA (s0 n x : Nat) : Prop := NTA n (n + 1) x ∨ (x = s0 ∨ (n + 262 ≤ x ∧ x < n + 329 ∧ ¬ x = n + 264 ∧ ¬ x = n + 265))
def AS (s0 n nn gg : Nat) (C : Int32) (f : Nat → Int32) (q : Nat) (u b : Nat → Int32) (h0 h : ax_H) (E : Nat → Nat → Int32) (TK : Int64) (Q : Nat → Mg) (ms : List Mg) : Prop :=
  ax_hs h (EW s0 n nn gg C f E TK) ∧ AKS h n Q ∧ NeX h n ms q u b ∧ ax_fr (ASA s0 n) h0 h ∧ h.1 = h0.1 ∧ h.2.1 = h0.2.1 ∧ 0 < h0.1
theorem akl.fr {A : Nat → Prop} {h h' : ax_H} {n j : Nat} {e w : Nat → Int32} (k : akl h n j e w) (hf : ax_fr A h h') (h1 : ¬ A (n + 272 + 2 * j)) (h2 : ¬ A (n + 272 + 2 * j + 1)) : akl h' n j e w := ⟨hf.g k.1 h1, hf.g k.2 h2⟩
theorem AKS.fr {A : Nat → Prop} {h h' : ax_H} {n : Nat} {Q : Nat → Mg} (k : AKS h n Q) (hf : ax_fr A h h') (hA : ∀ x, n + 272 ≤ x ∧ x < n + 320 → ¬ A x) : AKS h' n Q := fun j hj => (k j hj).fr hf (hA _ (by omega)) (hA _ (by omega))
theorem AKX.fr {A : Nat → Prop} {h h' : ax_H} {n j : Nat} {Q : Nat → Mg} (k : AKX h n Q j) (hf : ax_fr A h h') (hA : ∀ x, (n + 272 ≤ x ∧ x < n + 320) ∧ ¬ x = n + 272 + 2 * j ∧ ¬ x = n + 272 + 2 * j + 1 → ¬ A x) : AKX h' n Q j := fun i hi hij => (k i hi hij).fr hf (hA _ (by omega)) (hA _ (by omega))
theorem AKS.put {h : ax_H} {n a : Nat} {c : va_E} {Q : Nat → Mg} (k : AKS h n Q) (ha : a < n + 272 ∨ n + 320 ≤ a) : AKS (ax_put h a c) n Q := k.fr (A := fun x => x = a) (ax_fr.rf.put rfl) (fun x hx e => by omega)
theorem AKX.put {h : ax_H} {n a j : Nat} {c : va_E} {Q : Nat → Mg} (k : AKX h n Q j) (ha : a < n + 272 ∨ n + 320 ≤ a ∨ a = n + 272 + 2 * j ∨ a = n + 272 + 2 * j + 1) : AKX (ax_put h a c) n Q j := k.fr (A := fun x => x = a) (ax_fr.rf.put rfl) (fun x hx e => by omega)
theorem AKS.net {h h' : ax_H} {n : Nat} {Q : Nat → Mg} (k : AKS h n Q) (hf : ax_fr (NTA n (n + 1)) h h') : AKS h' n Q := k.fr hf (fun x hx e => by unfold NTA at e; omega)
theorem AKX.net {h h' : ax_H} {n j : Nat} {Q : Nat → Mg} (k : AKX h n Q j) (hf : ax_fr (NTA n (n + 1)) h h') : AKX h' n Q j := k.fr hf (fun x hx e => by unfold NTA at e; omega)
theorem AKS.x {h : ax_H} {n j : Nat} {Q : Nat → Mg} (k : AKS h n Q) : AKX h n Q j := fun i hi _ => k i hi
theorem AKX.same {h : ax_H} {n j : Nat} {Q : Nat → Mg} (k : AKX h n Q j) (_ : j < 24) (c : akl h n j (Q j).1 (Q j).2) : AKS h n Q := fun i hi => by
  by_cases e : i = j
  · subst e
    exact c
  · exact k i hi e
theorem AKX.back {h : ax_H} {n j : Nat} {Q : Nat → Mg} {e w : Nat → Int32} (k : AKX h n Q j) (_ : j < 24) (c : akl h n j e w) : AKS h n (va_up Q j (e, w)) := fun i hi => by
  by_cases z : i = j
  · subst z
    rw [va_up_s]
    exact c
  · rw [va_up_n _ _ z]
    exact k i hi z
theorem NeX.fr {A : Nat → Prop} {h h' : ax_H} {n q : Nat} {ms : List Mg} {u b : Nat → Int32} (hN : NeX h n ms q u b) (hf : ax_fr A h h') (hA : ∀ x, NTA n (n + 1) x → ¬ A x) : NeX h' n ms q u b := by
  obtain ⟨ids, k⟩ := hN
  exact ⟨ids, k.fr hf hA⟩
theorem NeX.put {h : ax_H} {n q a : Nat} {c : va_E} {ms : List Mg} {u b : Nat → Int32} (hN : NeX h n ms q u b) (ha : a < n ∨ n + 262 ≤ a) : NeX (ax_put h a c) n ms q u b := hN.fr (A := fun x => x = a) (ax_fr.rf.put rfl) (fun x hx e => by
  unfold NTA at hx
  omega)
theorem NeX.mgc {h : ax_H} {n q : Nat} {ms : List Mg} {u b : Nat → Int32} (hN : NeX h n ms q u b) : ax_g h (n + 1 + 1 + 2 * q) = some (.inr (2, [.int (u 0), .int (u 1), .int (u 2), .int (u 3), .int (u 4), .int (u 5), .int (u 6), .int (u 7), .ref (n + 1 + 1 + 2 * q + 1)])) := by
  obtain ⟨ids, k⟩ := hN
  exact k.read.1.1
theorem NeX.mbc {h : ax_H} {n q : Nat} {ms : List Mg} {u b : Nat → Int32} (hN : NeX h n ms q u b) : ax_g h (n + 1 + 1 + 2 * q + 1) = some (.inl (0, 617, .inl b)) := by
  obtain ⟨ids, k⟩ := hN
  exact k.read.1.2
theorem NeX.lq {h : ax_H} {n q : Nat} {ms : List Mg} {u b : Nat → Int32} (hN : NeX h n ms q u b) : q < 130 := by
  obtain ⟨ids, k⟩ := hN
  exact k.read.2
theorem NeX.net {h : ax_H} {n q : Nat} {ms : List Mg} {u b : Nat → Int32} (hN : NeX h n ms q u b) : ∃ (k : Int32) (a c : Nat), ax_g h n = some (.inr (1, [.ref (n + 1), .int k, .ref a, .ref c])) := by
  obtain ⟨ids, k⟩ := hN
  obtain ⟨a, c, e⟩ := k.net
  exact ⟨_, a, c, e⟩
theorem NeX.netc {h : ax_H} {n q : Nat} {ms : List Mg} {u b : Nat → Int32} (hN : NeX h n ms q u b) : ms.length ≤ 128 ∧ ∃ (a c : Nat), ax_g h n = some (.inr (1, [.ref (n + 1), .int (nI ms.length), .ref a, .ref c])) := by
  obtain ⟨ids, k⟩ := hN
  obtain ⟨a, c, e⟩ := k.net
  have h1 := k.len
  exact ⟨by omega, a, c, by rw [h1.1]; exact e⟩
theorem NeX.post {L : Nat} {xs : Nat → Int32} {fr lo : Nat} {h : ax_H} {n q : Nat} {ms : List Mg} {u b : Nat → Int32} {kd fm tt ep st : Int32} (hN : NeX h n ms q u b) : ax_M L xs 36 fr lo [.ref n, .int kd, .int fm, .int tt, .int ep, .int st] h (fun r h2 => ∃ (m : Nat) (bm : Nat → Int32), m < 130 ∧ m ≠ q ∧ r = some (.ref (n + 1 + 1 + 2 * m)) ∧ ms_at h2 (n + 1 + 1 + 2 * m) (mg kd fm tt ep st) bm ∧ (∀ (h' : ax_H) (u' b' : Nat → Int32), ax_fr (fun x => x = n + 1 + 1 + 2 * m ∨ x = n + 1 + 1 + 2 * m + 1) h2 h' → ms_at h' (n + 1 + 1 + 2 * m) u' b' → NeX h' n (pst ms (u', b')) q u b) ∧ ax_fr (NTA n (n + 1)) h h2 ∧ h2.1 = h.1 ∧ h2.2.1 = h.2.1 ∧ ms_at h2 (n + 1 + 1 + 2 * q) u b) := by
  obtain ⟨ids, k1⟩ := hN
  refine ax_A.post (c_36H k1) (fun r h2 hq => ?_)
  obtain ⟨m, bm, ids', m1, m2, m3, m4, m5, m6, m7, m8⟩ := hq
  exact ⟨m, bm, m1, m3, m2, m4, fun h' u' b' e1 e2 => ⟨ids', m5 h' u' b' e1 e2⟩, m6, m7, m8, (m5 h2 _ _ ax_fr.rf m4).read.1⟩
theorem farE {F : List (Nat × va_E)} {s0 n : Nat} (e : F.map (·.1) = EWa s0 n) (hsn : s0 < n) : ∀ p ∈ F, ¬ NTA n (n + 1) p.1 := by
  intro p hp
  have h1 : p.1 ∈ F.map (·.1) := List.mem_map_of_mem hp
  rw [e] at h1
  unfold EWa at h1
  simp only [List.mem_cons, List.not_mem_nil, or_false] at h1
  unfold NTA
  omega
theorem farK {F : List (Nat × va_E)} {s0 n : Nat} (e : F.map (·.1) = EWa s0 n) (hsn : s0 < n) : ∀ p ∈ F, ¬ (n + 272 ≤ p.1 ∧ p.1 < n + 320) := by
  intro p hp
  have h1 : p.1 ∈ F.map (·.1) := List.mem_map_of_mem hp
  rw [e] at h1
  unfold EWa at h1
  simp only [List.mem_cons, List.not_mem_nil, or_false] at h1
  omega
theorem farEA {F : List (Nat × va_E)} {s0 n j : Nat} (e : F.map (·.1) = (n + 272 + 2 * j) :: (n + 272 + 2 * j + 1) :: EWa s0 n) (hsn : s0 < n) (hj : j < 24) : ∀ p ∈ F, ¬ NTA n (n + 1) p.1 := by
  intro p hp
  have h1 : p.1 ∈ F.map (·.1) := List.mem_map_of_mem hp
  rw [e] at h1
  unfold EWa at h1
  simp only [List.mem_cons, List.not_mem_nil, or_false] at h1
  unfold NTA
  omega
theorem ax_hs.asc {h : ax_H} {F : List (Nat × va_E)} {n j : Nat} {e w : Nat → Int32} (hF : ax_hs h F) (hfar : ∀ p ∈ F, ¬ (n + 272 ≤ p.1 ∧ p.1 < n + 320)) (hj : j < 24) (hm : akl h n j e w) : ax_hs h ((n + 272 + 2 * j, .inr (5, [.int (e 0), .int (e 1), .int (e 2), .int (e 3), .int (e 4), .int (e 5), .int (e 6), .ref (n + 272 + 2 * j + 1)])) :: (n + 272 + 2 * j + 1, .inl (0, 612, .inl w)) :: F) := by
  have h1 := ax_hs.cons hm.2 hF (fun q hq e => hfar q hq (by rw [← e]; omega))
  refine ax_hs.cons hm.1 h1 (fun q hq e => ?_)
  rcases List.mem_cons.mp hq with rfl | hq
  · exact absurd e (by dsimp only; omega)
  · exact hfar q hq (by rw [← e]; omega)


/-! each call of the store from a state S: what it answers, and which state it leaves -/
def CX (s0 n nn gg : Nat) (C : Int32) (f : Nat → Int32) (h : ax_H) (TK : Int64) (S : SS) : Prop := ∃ (Z : ZT) (q : Nat) (u b : Nat → Int32), GS Z s0 n nn gg C f q u b h h S.1 TK S.2.1 S.2.2.1 S.2.2.2.1 S.2.2.2.2.1 S.2.2.2.2.2
theorem GS.cx {Z : ZT} {s0 n nn gg : Nat} {C : Int32} {f : Nat → Int32} {q : Nat} {u b : Nat → Int32} {h0 h : ax_H} {E : Nat → Nat → Int32} {TK : Int64} {Q : Nat → Mg} {ms : List Mg} {D : Nat → Nat → Nat → Int32} {K A : Nat → Int64} (hG : GS Z s0 n nn gg C f q u b h0 h E TK Q ms D K A) : CX s0 n nn gg C f h TK (E, Q, ms, D, K, A) := ⟨Z, q, u, b, hG.self⟩
def feR (xa xb xc xd xe : Int32) (S : SS) (y : Int32) (S' : SS) : Prop := ∃ l : Nat, l ≤ 2048 ∧ S.1 4 3 = nI l ∧ ((2048 < l + 20 ∧ y = -4 ∧ S' = S) ∨ (l + 20 ≤ 2048 ∧ y = nI (l + 20) ∧ S' = (fdE S.1 l xa xb xc xd xe, S.2)))
def enR (x : Int32) (S : SS) (y : Int32) (S' : SS) : Prop := ∃ l : Nat, l ≤ 2048 ∧ S.1 4 3 = nI l ∧ (((x < 0 ∨ nI l < x) ∧ y = -1 ∧ S' = S) ∨ (¬ x < 0 ∧ x ≤ nI l ∧ y = x ∧ S' = (va_up S.1 4 (upd (S.1 4) 3 x), S.2)))
def naR (x : Int32) (S : SS) (y : Int32) (S' : SS) : Prop := ∃ l : Nat, l ≤ 2048 ∧ S.1 4 3 = nI l ∧ (((x < 0 ∨ 1 < x ∨ 200 < l) ∧ y = -1 ∧ S' = S) ∨ (∃ k : Nat, k < 2 ∧ l ≤ 200 ∧ x = nI k ∧ y = nI l ∧ S' = (nmE S.1 k l, S.2)))
def bgR (nn : Nat) (f : Nat → Int32) (kd a b0 : Int32) (S : SS) (y : Int32) (S' : SS) : Prop := ∃ bg he se : Nat, S.1 4 8 = nI bg ∧ S.1 4 9 = nI he ∧ S.1 4 10 = nI se ∧ se ≤ he ∧ he ≤ bg ∧ bg ≤ se + 12 ∧ bg ≤ 512 ∧
  ((¬ mayA (S.1 7 0) (S.1 7 1) kd a b0 ∧ y = -1 ∧ S' = S) ∨ (mayA (S.1 7 0) (S.1 7 1) kd a b0 ∧ (12 ≤ bg - se ∨ 512 ≤ bg) ∧ y = -4 ∧ S' = S) ∨
   (mayA (S.1 7 0) (S.1 7 1) kd a b0 ∧ ¬ 12 ≤ bg - se ∧ bg < 512 ∧ y = nI bg ∧ ∃ ms' : List Mg, S' = (opE (va_up S.1 100 (upd (S.1 100) 10 0)) kd bg, va_up S.2.1 (bg % 24) (opQ (va_up S.1 100 (upd (S.1 100) 10 0)) (S.2.1 (bg % 24)) kd a b0), ms', S.2.2.2) ∧ ((he = bg ∧ askR nn f S'.1 S'.2.1 S.2.2.1 ms') ∨ (¬ he = bg ∧ ms' = S.2.2.1))))
def deR (nn gg : Nat) (C : Int32) (f : Nat → Int32) (S S' : SS) : Prop := (S.2.2.1 = [] ∧ S' = ncm S) ∨ ∃ (x : Mg) (S1 : SS), tkM x (ncm S) S1 ∧ hoR nn gg C f x S1 S'
def loR (S S' : SS) : Prop := (S.2.2.1 = [] ∧ S' = ncm S) ∨ ∃ x : Mg, tkM x (ncm S) S'
def twR (nn gg : Nat) (C : Int32) (f : Nat → Int32) (S S' : SS) : Prop := (S.2.2.1 = [] ∧ S' = ncm S) ∨ ∃ x : Mg, x ∈ S.2.2.1 ∧ hoR nn gg C f x (ncm S) S'
def siR (nn gg : Nat) (C : Int32) (f : Nat → Int32) (x : Int32) (S : SS) (y : Int32) (S' : SS) : Prop := ((x < 1 ∨ ¬ x ≤ 500) ∧ y = -1 ∧ S' = S) ∨ (¬ x < 1 ∧ x ≤ 500 ∧ y = x ∧ ∃ k, itR (mvR nn gg C f) k (ncm S) S')
def tiR (nn gg : Nat) (C : Int32) (f : Nat → Int32) (x : Int32) (S : SS) (y : Int32) (S' : SS) : Prop := ((x < 1 ∨ ¬ x ≤ 50) ∧ y = -1 ∧ S' = S) ∨ (¬ x < 1 ∧ x ≤ 50 ∧ y = x ∧ ∃ k, itR (tkR nn gg C f) k (ncm S) S')
def crR (nn gg : Nat) (C : Int32) (f : Nat → Int32) (x y0 z : Int32) (S : SS) (y : Int32) (S' : SS) : Prop := ((x < 0 ∨ nI nn ≤ x ∨ ∃ j : Nat, j < nn ∧ x = nI j ∧ S.2.2.2.1 j 0 6 = 0) ∧ y = 0 ∧ S' = S) ∨ (∃ j : Nat, j < nn ∧ x = nI j ∧ ¬ S.2.2.2.1 j 0 6 = 0 ∧ y = 1 ∧ ∃ u b : Nat → Int32, nodR (F_142 nn gg C (nI j) f u b (S.2.2.2.1 j) (S.2.2.2.2.1 j) (S.2.2.2.2.2 j) S.2.2.1 y0 z) j (ncm S) S')
def reR (nn gg : Nat) (C : Int32) (f : Nat → Int32) (x : Int32) (S : SS) (y : Int32) (S' : SS) : Prop := ((x < 0 ∨ nI nn ≤ x ∨ ∃ j : Nat, j < nn ∧ x = nI j ∧ ¬ S.2.2.2.1 j 0 6 = 0) ∧ y = 0 ∧ S' = S) ∨ (∃ j : Nat, j < nn ∧ x = nI j ∧ S.2.2.2.1 j 0 6 = 0 ∧ y = 1 ∧ ∃ u b : Nat → Int32, nodR (F_18 nn gg C (nI j) f u b (S.2.2.2.1 j) (S.2.2.2.2.1 j) (S.2.2.2.2.2 j) S.2.2.1 (S.1 4 13) (S.1 4 14)) j (ncm S) S')
def maR (nn : Nat) (x : Int32) (S : SS) (y : Int32) (S' : SS) : Prop := y = S.1 4 13 + 1 ∧ ∃ ms' : List Mg, S' = (drE (va_up S.1 100 (upd (S.1 100) 10 0)) (x &&& allN nn), S.2.1, ms', S.2.2.2) ∧ tmR nn 0 (S.1 4 13 + 1) (x &&& allN nn) nn 0 S.2.2.1 ms'
def rpR (nn : Nat) (C x : Int32) (S : SS) (y : Int32) (S' : SS) : Prop := ((x < 0 ∨ nI nn ≤ x ∨ (∃ j : Nat, j < nn ∧ x = nI j ∧ ¬ S.2.2.2.1 j 0 6 = 0) ∨ C - 1 ≤ S.1 100 9) ∧ y = 0 ∧ S' = S) ∨ (∃ j : Nat, j < nn ∧ x = nI j ∧ S.2.2.2.1 j 0 6 = 0 ∧ S.1 100 9 < C - 1 ∧ y = 1 ∧ ∃ ms' : List Mg, S' = (drE (va_up S.1 100 (upd (upd (S.1 100) 9 (S.1 100 9 + 1)) 10 0)) (S.1 4 14), S.2.1, ms', va_up S.2.2.2.1 j (va_up (S.2.2.2.1 j) 2 (ax_fill (S.2.2.2.1 j 2) 0 35840 0)), S.2.2.2.2.1, S.2.2.2.2.2) ∧ tmR nn 0 (S.1 4 13 + 1) (S.1 4 14) nn 0 S.2.2.1 ms')
def slR (nn gg : Nat) (C : Int32) (f : Nat → Int32) (TK : Int64) (S : SS) (y : Int32) (S' : SS) : Prop := ∃ Sf : SS, seR nn gg C f S Sf ∧ ((¬ dnP nn gg f Sf ∧ y = -7 ∧ S' = Sf) ∨ (dnP nn gg f Sf ∧ y = S.1 4 8 - S.1 4 10 ∧ ctR nn f TK Sf S'))
theorem cx_37 {L : Nat} {xs : Nat → Int32} {fr lo : Nat} {s0 n nn gg : Nat} {C : Int32} {f : Nat → Int32} {h : ax_H} {TK : Int64} {S : SS} {xa xb xc xd xe : Int32} (hfr : 2 ≤ fr) (hlo : 60 ≤ lo) (hC : CG s0 n nn gg f) (hP : CX s0 n nn gg C f h TK S) : ax_M L xs 37 fr lo [.ref s0, .int xa, .int xb, .int xc, .int xd, .int xe] h (fun r h' => ∃ (y : Int32) (S' : SS), r = some (.int y) ∧ CX s0 n nn gg C f h' TK S' ∧ SZ (n + 329 + 22 * nn) h h' ∧ feR xa xb xc xd xe S y S') := by
  have hC0 := hC
  obtain ⟨hs0, hsn, hnn3, hnn, hgg1, hgg, hRg⟩ := hC
  obtain ⟨E, Q, ms, D, K, A⟩ := S
  obtain ⟨Z, q, u, b, hG⟩ := hP
  replace hG : GS Z s0 n nn gg C f q u b h h E TK Q ms D K A := hG
  obtain ⟨hS, hG0, hM, hE, hK, hz⟩ := hG
  obtain ⟨l, hl, e3⟩ := hE.len
  refine ax_A.post (ek_37 hfr hlo hC0 hS e3 hl) (fun r h' hq => ?_)
  rcases hq with ⟨h20, rfl, hS2⟩ | ⟨h20, rfl, hS2⟩
  · have hG2 := GS.as hsn hz hG0 hS2 hM hE hK
    exact ⟨_, _, rfl, hG2.cx, hG2.2.2.2.2.2, l, hl, e3, Or.inl ⟨h20, rfl, rfl⟩⟩
  · have hG2 := GS.as hsn hz hG0 hS2 hM (hE.f4 (E' := fdE E l xa xb xc xd xe) rfl rfl rfl rfl ⟨l + 20, by omega, rfl⟩ hE.lens.2) hK
    exact ⟨_, _, rfl, hG2.cx, hG2.2.2.2.2.2, l, hl, e3, Or.inr ⟨h20, rfl, rfl⟩⟩
theorem cx_40 {L : Nat} {xs : Nat → Int32} {fr lo : Nat} {s0 n nn gg : Nat} {C : Int32} {f : Nat → Int32} {h : ax_H} {TK : Int64} {S : SS} {x : Int32} (hfr : 0 ≤ fr) (hlo : 0 ≤ lo) (hC : CG s0 n nn gg f) (hP : CX s0 n nn gg C f h TK S) : ax_M L xs 40 fr lo [.ref s0, .int x] h (fun r h' => ∃ (y : Int32) (S' : SS), r = some (.int y) ∧ CX s0 n nn gg C f h' TK S' ∧ SZ (n + 329 + 22 * nn) h h' ∧ enR x S y S') := by
  have hC0 := hC
  obtain ⟨hs0, hsn, hnn3, hnn, hgg1, hgg, hRg⟩ := hC
  obtain ⟨E, Q, ms, D, K, A⟩ := S
  obtain ⟨Z, q, u, b, hG⟩ := hP
  replace hG : GS Z s0 n nn gg C f q u b h h E TK Q ms D K A := hG
  obtain ⟨hS, hG0, hM, hE, hK, hz⟩ := hG
  obtain ⟨l, hl, e3⟩ := hE.len
  refine ax_A.post (ek_40 hfr hlo hC0 hS e3 hl) (fun r h' hq => ?_)
  rcases hq with ⟨hx, rfl, hS2⟩ | ⟨x1, x2, rfl, hS2⟩
  · have hG2 := GS.as hsn hz hG0 hS2 hM hE hK
    exact ⟨_, _, rfl, hG2.cx, hG2.2.2.2.2.2, l, hl, e3, Or.inl ⟨hx, rfl, rfl⟩⟩
  · obtain ⟨j, hj, rfl⟩ := natOf x1
    have hG2 := GS.as hsn hz hG0 hS2 hM (hE.f4 (E' := va_up E 4 (upd (E 4) 3 (nI j))) rfl rfl rfl rfl ⟨j, by have := (nI_leI hj (show l < 2 ^ 31 by omega)).mp x2; omega, rfl⟩ hE.lens.2) hK
    exact ⟨_, _, rfl, hG2.cx, hG2.2.2.2.2.2, l, hl, e3, Or.inr ⟨x1, x2, rfl, rfl⟩⟩
theorem cx_41 {L : Nat} {xs : Nat → Int32} {fr lo : Nat} {s0 n nn gg : Nat} {C : Int32} {f : Nat → Int32} {h : ax_H} {TK : Int64} {S : SS} {x : Int32} (hfr : 3 ≤ fr) (hlo : 110 ≤ lo) (hC : CG s0 n nn gg f) (hP : CX s0 n nn gg C f h TK S) : ax_M L xs 41 fr lo [.ref s0, .int x] h (fun r h' => ∃ (y : Int32) (S' : SS), r = some (.int y) ∧ CX s0 n nn gg C f h' TK S' ∧ SZ (n + 329 + 22 * nn) h h' ∧ naR x S y S') := by
  have hC0 := hC
  obtain ⟨hs0, hsn, hnn3, hnn, hgg1, hgg, hRg⟩ := hC
  obtain ⟨E, Q, ms, D, K, A⟩ := S
  obtain ⟨Z, q, u, b, hG⟩ := hP
  replace hG : GS Z s0 n nn gg C f q u b h h E TK Q ms D K A := hG
  obtain ⟨hS, hG0, hM, hE, hK, hz⟩ := hG
  obtain ⟨l, hl, e3⟩ := hE.len
  refine ax_A.post (ek_41 hfr hlo hC0 hS e3 hl) (fun r h' hq => ?_)
  rcases hq with ⟨hx, rfl, hS2⟩ | ⟨k, hk, hl2, rfl, rfl, hS2⟩
  · have hG2 := GS.as hsn hz hG0 hS2 hM hE hK
    exact ⟨_, _, rfl, hG2.cx, hG2.2.2.2.2.2, l, hl, e3, Or.inl ⟨hx, rfl, rfl⟩⟩
  · have hn : ∀ j, inR 201 (E 7 j) → inR 201 (nmE E k l 7 j) := fun j h1 => by
      show inR 201 (upd (E 7) k (nI l) j)
      by_cases z : j = k
      · rw [z, pk_us]; exact ⟨l, by omega, rfl⟩
      · rw [pk_un z]; exact h1
    have hG2 := GS.as hsn hz hG0 hS2 hM (hE.f4 (E' := nmE E k l) rfl rfl rfl rfl ⟨0, by decide, rfl⟩ ⟨hn 0 hE.lens.2.1, hn 1 hE.lens.2.2⟩) hK
    exact ⟨_, _, rfl, hG2.cx, hG2.2.2.2.2.2, l, hl, e3, Or.inr ⟨k, hk, hl2, rfl, rfl, rfl⟩⟩
theorem cx_44 {L : Nat} {xs : Nat → Int32} {fr lo : Nat} {s0 n nn gg : Nat} {C : Int32} {f : Nat → Int32} {h : ax_H} {TK : Int64} {S : SS} {x y0 z : Int32} (hfr : 4 ≤ fr) (hlo : 130 ≤ lo) (hC : CG s0 n nn gg f) (hP : CX s0 n nn gg C f h TK S) : ax_M L xs 44 fr lo [.ref s0, .int x, .int y0, .int z] h (fun r h' => ∃ (y : Int32) (S' : SS), r = some (.int y) ∧ CX s0 n nn gg C f h' TK S' ∧ SZ (n + 329 + 22 * nn) h h' ∧ bgR nn f x y0 z S y S') := by
  have hC0 := hC
  obtain ⟨hs0, hsn, hnn3, hnn, hgg1, hgg, hRg⟩ := hC
  obtain ⟨E, Q, ms, D, K, A⟩ := S
  obtain ⟨Z, q, u, b, hG⟩ := hP
  replace hG : GS Z s0 n nn gg C f q u b h h E TK Q ms D K A := hG
  obtain ⟨hS, hG0, hM, hE, hK, hz⟩ := hG
  obtain ⟨bg, he, se, si, ⟨a1, a2, a3, a4⟩, ⟨b1, b2, b3, b4, b5, b6⟩, c, d, e, g⟩ := id hE
  refine ax_A.post (ek_44 hfr hlo hC0 hS a2 a1 a3 (by omega) b4 b6 c.1) (fun r h' hq => ?_)
  rcases hq with ⟨hm, rfl, hS2⟩ | ⟨hm, hf, rfl, hS2⟩ | ⟨hma, hn12, hb5, rfl, ms', hS2, hr⟩
  · have hG2 := GS.as hsn hz hG0 hS2 hM hE hK
    exact ⟨_, _, rfl, hG2.cx, hG2.2.2.2.2.2, bg, he, se, a1, a2, a3, b3, b4, b5, b6, Or.inl ⟨hm, rfl, rfl⟩⟩
  · have hG2 := GS.as hsn hz hG0 hS2 hM hE hK
    exact ⟨_, _, rfl, hG2.cx, hG2.2.2.2.2.2, bg, he, se, a1, a2, a3, b3, b4, b5, b6, Or.inr (Or.inl ⟨hm, hf, rfl, rfl⟩)⟩
  · have hE2 := hE.op (hz := g) (k := x) (a := y0) (b := z) a1 hb5 hma (fun s h1 h2 => by
      have : s = se := nI_inj (by omega) (by omega) (h1.symm.trans a3)
      omega)
    have hM2 : ∀ y ∈ ms', MI (Z.add bg x g) y := by
      rcases hr with ⟨-, hr⟩ | ⟨-, rfl⟩
      · exact hr.mi hE2 (fun y hy => (hM y hy).mono ZT.le_add)
      · exact fun y hy => (hM y hy).mono ZT.le_add
    have hG2 := GS.as hsn hz (hG0.mono ZT.le_add) hS2 hM2 hE2 ⟨hK.1.mono ZT.le_add, hK.2.1, Or.inl rfl⟩
    exact ⟨_, _, rfl, hG2.cx, hG2.2.2.2.2.2, bg, he, se, a1, a2, a3, b3, b4, b5, b6, Or.inr (Or.inr ⟨hma, hn12, hb5, rfl, ms', rfl, hr⟩)⟩
theorem cx_49 {L : Nat} {xs : Nat → Int32} {fr lo : Nat} {s0 n nn gg : Nat} {C : Int32} {f : Nat → Int32} {h : ax_H} {TK : Int64} {S : SS} {x : Int32} (hfr : 10 ≤ fr) (hlo : 330 ≤ lo) (hC : CG s0 n nn gg f) (hP : CX s0 n nn gg C f h TK S) : ax_M L xs 49 fr lo [.ref s0, .int x] h (fun r h' => ∃ (S' : SS), r = none ∧ CX s0 n nn gg C f h' TK S' ∧ SZ (n + 329 + 22 * nn) h h' ∧ deR nn gg C f S S') := by
  have hC0 := hC
  obtain ⟨hs0, hsn, hnn3, hnn, hgg1, hgg, hRg⟩ := hC
  obtain ⟨E, Q, ms, D, K, A⟩ := S
  obtain ⟨Z, q, u, b, hG⟩ := hP
  replace hG : GS Z s0 n nn gg C f q u b h h E TK Q ms D K A := hG
  refine ax_A.post (g_49 hfr hlo hC0 hG) (fun r h' hq => ?_)
  obtain ⟨rfl, q', u', b', E', Q', ms', D', K', A', hG2, hR, -, hrl⟩ := hq
  exact ⟨_, rfl, hG2.cx, hG2.2.2.2.2.2, hrl⟩
theorem cx_129 {L : Nat} {xs : Nat → Int32} {fr lo : Nat} {s0 n nn gg : Nat} {C : Int32} {f : Nat → Int32} {h : ax_H} {TK : Int64} {S : SS} {x : Int32} (hfr : 10 ≤ fr) (hlo : 330 ≤ lo) (hC : CG s0 n nn gg f) (hP : CX s0 n nn gg C f h TK S) : ax_M L xs 129 fr lo [.ref s0, .int x] h (fun r h' => ∃ (S' : SS), r = none ∧ CX s0 n nn gg C f h' TK S' ∧ SZ (n + 329 + 22 * nn) h h' ∧ loR S S') := by
  have hC0 := hC
  obtain ⟨hs0, hsn, hnn3, hnn, hgg1, hgg, hRg⟩ := hC
  obtain ⟨E, Q, ms, D, K, A⟩ := S
  obtain ⟨Z, q, u, b, hG⟩ := hP
  replace hG : GS Z s0 n nn gg C f q u b h h E TK Q ms D K A := hG
  refine ax_A.post (g_129 hfr hlo hC0 hG) (fun r h' hq => ?_)
  obtain ⟨rfl, q', u', b', E', Q', ms', D', K', A', hG2, hR, -, hrl⟩ := hq
  exact ⟨_, rfl, hG2.cx, hG2.2.2.2.2.2, hrl⟩
theorem cx_130 {L : Nat} {xs : Nat → Int32} {fr lo : Nat} {s0 n nn gg : Nat} {C : Int32} {f : Nat → Int32} {h : ax_H} {TK : Int64} {S : SS} {x : Int32} (hfr : 10 ≤ fr) (hlo : 330 ≤ lo) (hC : CG s0 n nn gg f) (hP : CX s0 n nn gg C f h TK S) : ax_M L xs 130 fr lo [.ref s0, .int x] h (fun r h' => ∃ (S' : SS), r = none ∧ CX s0 n nn gg C f h' TK S' ∧ SZ (n + 329 + 22 * nn) h h' ∧ twR nn gg C f S S') := by
  have hC0 := hC
  obtain ⟨hs0, hsn, hnn3, hnn, hgg1, hgg, hRg⟩ := hC
  obtain ⟨E, Q, ms, D, K, A⟩ := S
  obtain ⟨Z, q, u, b, hG⟩ := hP
  replace hG : GS Z s0 n nn gg C f q u b h h E TK Q ms D K A := hG
  refine ax_A.post (g_130 hfr hlo hC0 hG) (fun r h' hq => ?_)
  obtain ⟨rfl, q', u', b', E', Q', ms', D', K', A', hG2, hR, -, hrl⟩ := hq
  exact ⟨_, rfl, hG2.cx, hG2.2.2.2.2.2, hrl⟩
theorem cx_131 {L : Nat} {xs : Nat → Int32} {fr lo : Nat} {s0 n nn gg : Nat} {C : Int32} {f : Nat → Int32} {h : ax_H} {TK : Int64} {S : SS} {x y0 : Int32} (hfr : 10 ≤ fr) (hlo : 350 ≤ lo) (hC : CG s0 n nn gg f) (hP : CX s0 n nn gg C f h TK S) : ax_M L xs 131 fr lo [.ref s0, .int x, .int y0] h (fun r h' => ∃ (y : Int32) (S' : SS), r = some (.int y) ∧ CX s0 n nn gg C f h' TK S' ∧ SZ (n + 329 + 22 * nn) h h' ∧ siR nn gg C f x S y S') := by
  have hC0 := hC
  obtain ⟨hs0, hsn, hnn3, hnn, hgg1, hgg, hRg⟩ := hC
  obtain ⟨E, Q, ms, D, K, A⟩ := S
  obtain ⟨Z, q, u, b, hG⟩ := hP
  replace hG : GS Z s0 n nn gg C f q u b h h E TK Q ms D K A := hG
  refine ax_A.post (g_131 hfr hlo hC0 hG) (fun r h' hq => ?_)
  rcases hq with ⟨hx, rfl, q', u', b', E', Q', ms', D', K', A', hG2, hR, -, hrl⟩ | ⟨x1, x2, rfl, q', u', b', E', Q', ms', D', K', A', hG2, hR, -, hrl⟩
  · exact ⟨_, _, rfl, hG2.cx, hG2.2.2.2.2.2, Or.inl ⟨hx, rfl, hrl⟩⟩
  · exact ⟨_, _, rfl, hG2.cx, hG2.2.2.2.2.2, Or.inr ⟨x1, x2, rfl, hrl⟩⟩
theorem cx_132 {L : Nat} {xs : Nat → Int32} {fr lo : Nat} {s0 n nn gg : Nat} {C : Int32} {f : Nat → Int32} {h : ax_H} {TK : Int64} {S : SS} {x : Int32} (hfr : 10 ≤ fr) (hlo : 350 ≤ lo) (hC : CG s0 n nn gg f) (hP : CX s0 n nn gg C f h TK S) : ax_M L xs 132 fr lo [.ref s0, .int x] h (fun r h' => ∃ (y : Int32) (S' : SS), r = some (.int y) ∧ CX s0 n nn gg C f h' TK S' ∧ SZ (n + 329 + 22 * nn) h h' ∧ tiR nn gg C f x S y S') := by
  have hC0 := hC
  obtain ⟨hs0, hsn, hnn3, hnn, hgg1, hgg, hRg⟩ := hC
  obtain ⟨E, Q, ms, D, K, A⟩ := S
  obtain ⟨Z, q, u, b, hG⟩ := hP
  replace hG : GS Z s0 n nn gg C f q u b h h E TK Q ms D K A := hG
  refine ax_A.post (g_132 hfr hlo hC0 hG) (fun r h' hq => ?_)
  rcases hq with ⟨hx, rfl, q', u', b', E', Q', ms', D', K', A', hG2, hR, -, hrl⟩ | ⟨x1, x2, rfl, q', u', b', E', Q', ms', D', K', A', hG2, hR, -, hrl⟩
  · exact ⟨_, _, rfl, hG2.cx, hG2.2.2.2.2.2, Or.inl ⟨hx, rfl, hrl⟩⟩
  · exact ⟨_, _, rfl, hG2.cx, hG2.2.2.2.2.2, Or.inr ⟨x1, x2, rfl, hrl⟩⟩
theorem cx_141 {L : Nat} {xs : Nat → Int32} {fr lo : Nat} {s0 n nn gg : Nat} {C : Int32} {f : Nat → Int32} {h : ax_H} {TK : Int64} {S : SS} {x y0 z : Int32} (hfr : 7 ≤ fr) (hlo : 220 ≤ lo) (hC : CG s0 n nn gg f) (hP : CX s0 n nn gg C f h TK S) : ax_M L xs 141 fr lo [.ref s0, .int x, .int y0, .int z] h (fun r h' => ∃ (y : Int32) (S' : SS), r = some (.int y) ∧ CX s0 n nn gg C f h' TK S' ∧ SZ (n + 329 + 22 * nn) h h' ∧ crR nn gg C f x y0 z S y S') := by
  have hC0 := hC
  obtain ⟨hs0, hsn, hnn3, hnn, hgg1, hgg, hRg⟩ := hC
  obtain ⟨E, Q, ms, D, K, A⟩ := S
  obtain ⟨Z, q, u, b, hG⟩ := hP
  replace hG : GS Z s0 n nn gg C f q u b h h E TK Q ms D K A := hG
  refine ax_A.post (g_141 hfr hlo hC0 hG) (fun r h' hq => ?_)
  rcases hq with ⟨hx, rfl, hG2⟩ | ⟨j, hj, rfl, hd, rfl, ms', D', K', A', hG2, hu, hrl⟩
  · exact ⟨_, _, rfl, hG2.cx, hG2.2.2.2.2.2, Or.inl ⟨hx, rfl, rfl⟩⟩
  · exact ⟨_, _, rfl, hG2.cx, hG2.2.2.2.2.2, Or.inr ⟨j, hj, rfl, hd, rfl, u, b, hrl⟩⟩
theorem cx_144 {L : Nat} {xs : Nat → Int32} {fr lo : Nat} {s0 n nn gg : Nat} {C : Int32} {f : Nat → Int32} {h : ax_H} {TK : Int64} {S : SS} {x : Int32} (hfr : 7 ≤ fr) (hlo : 220 ≤ lo) (hC : CG s0 n nn gg f) (hP : CX s0 n nn gg C f h TK S) : ax_M L xs 144 fr lo [.ref s0, .int x] h (fun r h' => ∃ (y : Int32) (S' : SS), r = some (.int y) ∧ CX s0 n nn gg C f h' TK S' ∧ SZ (n + 329 + 22 * nn) h h' ∧ reR nn gg C f x S y S') := by
  have hC0 := hC
  obtain ⟨hs0, hsn, hnn3, hnn, hgg1, hgg, hRg⟩ := hC
  obtain ⟨E, Q, ms, D, K, A⟩ := S
  obtain ⟨Z, q, u, b, hG⟩ := hP
  replace hG : GS Z s0 n nn gg C f q u b h h E TK Q ms D K A := hG
  refine ax_A.post (g_144 hfr hlo hC0 hG) (fun r h' hq => ?_)
  rcases hq with ⟨hx, rfl, hG2⟩ | ⟨j, hj, rfl, hd, rfl, ms', D', K', A', hG2, hu, hrl⟩
  · exact ⟨_, _, rfl, hG2.cx, hG2.2.2.2.2.2, Or.inl ⟨hx, rfl, rfl⟩⟩
  · exact ⟨_, _, rfl, hG2.cx, hG2.2.2.2.2.2, Or.inr ⟨j, hj, rfl, hd, rfl, u, b, hrl⟩⟩
theorem cx_145 {L : Nat} {xs : Nat → Int32} {fr lo : Nat} {s0 n nn gg : Nat} {C : Int32} {f : Nat → Int32} {h : ax_H} {TK : Int64} {S : SS} {x : Int32} (hfr : 4 ≤ fr) (hlo : 120 ≤ lo) (hC : CG s0 n nn gg f) (hP : CX s0 n nn gg C f h TK S) : ax_M L xs 145 fr lo [.ref s0, .int x] h (fun r h' => ∃ (y : Int32) (S' : SS), r = some (.int y) ∧ CX s0 n nn gg C f h' TK S' ∧ SZ (n + 329 + 22 * nn) h h' ∧ maR nn x S y S') := by
  have hC0 := hC
  obtain ⟨hs0, hsn, hnn3, hnn, hgg1, hgg, hRg⟩ := hC
  obtain ⟨E, Q, ms, D, K, A⟩ := S
  obtain ⟨Z, q, u, b, hG⟩ := hP
  replace hG : GS Z s0 n nn gg C f q u b h h E TK Q ms D K A := hG
  refine ax_A.post (g_145 hfr hlo hC0 hG) (fun r h' hq => ?_)
  obtain ⟨rfl, ms', hG2, hr⟩ := hq
  exact ⟨_, _, rfl, hG2.cx, hG2.2.2.2.2.2, rfl, ms', rfl, hr⟩
theorem cx_148 {L : Nat} {xs : Nat → Int32} {fr lo : Nat} {s0 n nn gg : Nat} {C : Int32} {f : Nat → Int32} {h : ax_H} {TK : Int64} {S : SS} {x : Int32} (hfr : 4 ≤ fr) (hlo : 120 ≤ lo) (hC : CG s0 n nn gg f) (hP : CX s0 n nn gg C f h TK S) : ax_M L xs 148 fr lo [.ref s0, .int x] h (fun r h' => ∃ (y : Int32) (S' : SS), r = some (.int y) ∧ CX s0 n nn gg C f h' TK S' ∧ SZ (n + 329 + 22 * nn) h h' ∧ rpR nn C x S y S') := by
  have hC0 := hC
  obtain ⟨hs0, hsn, hnn3, hnn, hgg1, hgg, hRg⟩ := hC
  obtain ⟨E, Q, ms, D, K, A⟩ := S
  obtain ⟨Z, q, u, b, hG⟩ := hP
  replace hG : GS Z s0 n nn gg C f q u b h h E TK Q ms D K A := hG
  refine ax_A.post (g_148 hfr hlo hC0 hG) (fun r h' hq => ?_)
  rcases hq with ⟨hx, rfl, hG2⟩ | ⟨j, hj, rfl, hd, hc, rfl, ms', hG2, hr⟩
  · exact ⟨_, _, rfl, hG2.cx, hG2.2.2.2.2.2, Or.inl ⟨hx, rfl, rfl⟩⟩
  · exact ⟨_, _, rfl, hG2.cx, hG2.2.2.2.2.2, Or.inr ⟨j, hj, rfl, hd, hc, rfl, ms', rfl, hr⟩⟩
theorem cx_150 {L : Nat} {xs : Nat → Int32} {fr lo : Nat} {s0 n nn gg : Nat} {C : Int32} {f : Nat → Int32} {h : ax_H} {TK : Int64} {S : SS}  (hfr : 10 ≤ fr) (hlo : 350 ≤ lo) (hC : CG s0 n nn gg f) (hP : CX s0 n nn gg C f h TK S) : ax_M L xs 150 fr lo [.ref s0] h (fun r h' => ∃ (y : Int32) (S' : SS) (TK' : Int64), r = some (.int y) ∧ CX s0 n nn gg C f h' TK' S' ∧ SZ (n + 329 + 22 * nn) h h' ∧ slR nn gg C f TK S y S') := by
  have hC0 := hC
  obtain ⟨hs0, hsn, hnn3, hnn, hgg1, hgg, hRg⟩ := hC
  obtain ⟨E, Q, ms, D, K, A⟩ := S
  obtain ⟨Z, q, u, b, hG⟩ := hP
  replace hG : GS Z s0 n nn gg C f q u b h h E TK Q ms D K A := hG
  refine ax_A.post (g_150 hfr hlo hC0 hG) (fun r h' hq => ?_)
  obtain ⟨y, q', u', b', E', TK', Q', ms', D', K', A', rfl, ⟨Sf, s1, s2⟩, hG2, hU⟩ := hq
  exact ⟨_, _, TK', rfl, hG2.cx, hG2.2.2.2.2.2, Sf, s1, s2⟩
theorem cx_160 {L : Nat} {xs : Nat → Int32} {fr lo : Nat} {s0 n nn gg : Nat} {C : Int32} {f : Nat → Int32} {h : ax_H} {TK : Int64} {S : SS} {x : Int32} (hfr : 0 ≤ fr) (hlo : 0 ≤ lo) (hC : CG s0 n nn gg f) (hP : CX s0 n nn gg C f h TK S) : ax_M L xs 160 fr lo [.ref s0, .int x] h (fun r h' => ∃ (y : Int32) (S' : SS), r = some (.int y) ∧ CX s0 n nn gg C f h' TK S' ∧ SZ (n + 329 + 22 * nn) h h' ∧ y = ansV S.1 x ∧ S' = S) := by
  have hC0 := hC
  obtain ⟨hs0, hsn, hnn3, hnn, hgg1, hgg, hRg⟩ := hC
  obtain ⟨E, Q, ms, D, K, A⟩ := S
  obtain ⟨Z, q, u, b, hG⟩ := hP
  replace hG : GS Z s0 n nn gg C f q u b h h E TK Q ms D K A := hG
  refine ax_A.post (g_160 hfr hlo hC0 hG) (fun r h' hq => ?_)
  obtain ⟨rfl, rfl⟩ := hq
  exact ⟨_, _, rfl, hG.cx, SZ.rf, rfl, rfl⟩
theorem cx_161 {L : Nat} {xs : Nat → Int32} {fr lo : Nat} {s0 n nn gg : Nat} {C : Int32} {f : Nat → Int32} {h : ax_H} {TK : Int64} {S : SS} {x y0 : Int32} (hfr : 1 ≤ fr) (hlo : 40 ≤ lo) (hC : CG s0 n nn gg f) (hP : CX s0 n nn gg C f h TK S) : ax_M L xs 161 fr lo [.ref s0, .int x, .int y0] h (fun r h' => ∃ (y : Int32) (S' : SS), r = some (.int y) ∧ CX s0 n nn gg C f h' TK S' ∧ SZ (n + 329 + 22 * nn) h h' ∧ y = tldV S.1 S.2.1 x y0 ∧ S' = S) := by
  have hC0 := hC
  obtain ⟨hs0, hsn, hnn3, hnn, hgg1, hgg, hRg⟩ := hC
  obtain ⟨E, Q, ms, D, K, A⟩ := S
  obtain ⟨Z, q, u, b, hG⟩ := hP
  replace hG : GS Z s0 n nn gg C f q u b h h E TK Q ms D K A := hG
  refine ax_A.post (g_161 hfr hlo hC0 hG) (fun r h' hq => ?_)
  obtain ⟨rfl, rfl⟩ := hq
  exact ⟨_, _, rfl, hG.cx, SZ.rf, rfl, rfl⟩
theorem cx_163 {L : Nat} {xs : Nat → Int32} {fr lo : Nat} {s0 n nn gg : Nat} {C : Int32} {f : Nat → Int32} {h : ax_H} {TK : Int64} {S : SS} {x y0 : Int32} (hfr : 1 ≤ fr) (hlo : 40 ≤ lo) (hC : CG s0 n nn gg f) (hP : CX s0 n nn gg C f h TK S) : ax_M L xs 163 fr lo [.ref s0, .int x, .int y0] h (fun r h' => ∃ (y : Int32) (S' : SS), r = some (.int y) ∧ CX s0 n nn gg C f h' TK S' ∧ SZ (n + 329 + 22 * nn) h h' ∧ y = filV S.1 x y0 ∧ S' = S) := by
  have hC0 := hC
  obtain ⟨hs0, hsn, hnn3, hnn, hgg1, hgg, hRg⟩ := hC
  obtain ⟨E, Q, ms, D, K, A⟩ := S
  obtain ⟨Z, q, u, b, hG⟩ := hP
  replace hG : GS Z s0 n nn gg C f q u b h h E TK Q ms D K A := hG
  refine ax_A.post (g_163 hfr hlo hC0 hG) (fun r h' hq => ?_)
  obtain ⟨rfl, rfl⟩ := hq
  exact ⟨_, _, rfl, hG.cx, SZ.rf, rfl, rfl⟩
theorem cx_164 {L : Nat} {xs : Nat → Int32} {fr lo : Nat} {s0 n nn gg : Nat} {C : Int32} {f : Nat → Int32} {h : ax_H} {TK : Int64} {S : SS} {x y0 z : Int32} (hfr : 2 ≤ fr) (hlo : 70 ≤ lo) (hC : CG s0 n nn gg f) (hP : CX s0 n nn gg C f h TK S) : ax_M L xs 164 fr lo [.ref s0, .int x, .int y0, .int z] h (fun r h' => ∃ (y : Int32) (S' : SS), r = some (.int y) ∧ CX s0 n nn gg C f h' TK S' ∧ SZ (n + 329 + 22 * nn) h h' ∧ y = whrV f nn gg C S.1 x y0 z ∧ S' = S) := by
  have hC0 := hC
  obtain ⟨hs0, hsn, hnn3, hnn, hgg1, hgg, hRg⟩ := hC
  obtain ⟨E, Q, ms, D, K, A⟩ := S
  obtain ⟨Z, q, u, b, hG⟩ := hP
  replace hG : GS Z s0 n nn gg C f q u b h h E TK Q ms D K A := hG
  refine ax_A.post (g_164 hfr hlo hC0 hG) (fun r h' hq => ?_)
  obtain ⟨rfl, rfl⟩ := hq
  exact ⟨_, _, rfl, hG.cx, SZ.rf, rfl, rfl⟩
theorem cx_166 {L : Nat} {xs : Nat → Int32} {fr lo : Nat} {s0 n nn gg : Nat} {C : Int32} {f : Nat → Int32} {h : ax_H} {TK : Int64} {S : SS} {x y0 z v : Int32} (hfr : 3 ≤ fr) (hlo : 110 ≤ lo) (hC : CG s0 n nn gg f) (hP : CX s0 n nn gg C f h TK S) : ax_M L xs 166 fr lo [.ref s0, .int x, .int y0, .int z, .int v] h (fun r h' => ∃ (y : Int32) (S' : SS), r = some (.int y) ∧ CX s0 n nn gg C f h' TK S' ∧ SZ (n + 329 + 22 * nn) h h' ∧ y = odV f nn gg C S.1 S.2.2.2.1 x y0 z v ∧ S' = S) := by
  have hC0 := hC
  obtain ⟨hs0, hsn, hnn3, hnn, hgg1, hgg, hRg⟩ := hC
  obtain ⟨E, Q, ms, D, K, A⟩ := S
  obtain ⟨Z, q, u, b, hG⟩ := hP
  replace hG : GS Z s0 n nn gg C f q u b h h E TK Q ms D K A := hG
  refine ax_A.post (g_166 hfr hlo hC0 hG) (fun r h' hq => ?_)
  obtain ⟨rfl, rfl⟩ := hq
  exact ⟨_, _, rfl, hG.cx, SZ.rf, rfl, rfl⟩
theorem cx_172 {L : Nat} {xs : Nat → Int32} {fr lo : Nat} {s0 n nn gg : Nat} {C : Int32} {f : Nat → Int32} {h : ax_H} {TK : Int64} {S : SS} {x : Int32} (hfr : 1 ≤ fr) (hlo : 40 ≤ lo) (hC : CG s0 n nn gg f) (hP : CX s0 n nn gg C f h TK S) : ax_M L xs 172 fr lo [.ref s0, .int x] h (fun r h' => ∃ (y : Int32) (S' : SS), r = some (.int y) ∧ CX s0 n nn gg C f h' TK S' ∧ SZ (n + 329 + 22 * nn) h h' ∧ y = cntV nn S.1 S.2.2.2.1 x ∧ S' = S) := by
  have hC0 := hC
  obtain ⟨hs0, hsn, hnn3, hnn, hgg1, hgg, hRg⟩ := hC
  obtain ⟨E, Q, ms, D, K, A⟩ := S
  obtain ⟨Z, q, u, b, hG⟩ := hP
  replace hG : GS Z s0 n nn gg C f q u b h h E TK Q ms D K A := hG
  refine ax_A.post (g_172 hfr hlo hC0 hG) (fun r h' hq => ?_)
  obtain ⟨rfl, rfl⟩ := hq
  exact ⟨_, _, rfl, hG.cx, SZ.rf, rfl, rfl⟩

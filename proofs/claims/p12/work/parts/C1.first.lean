/-! the first state: that of the constructors -/
def E00 (nn : Nat) : Nat → Nat → Int32 := va_up (va_up (va_up (va_up (va_up (va_up (fun _ _ => 0) 4 (upd (upd (upd (upd (fun _ => 0) 12 (-1)) 13 1) 14 (allN nn)) 15 (allN nn))) 59 (ax_fill (fun _ => 0) 0 48 (-1))) 60 (ax_fill (fun _ => 0) 0 48 0)) 63 (ax_fill (fun _ => 0) 0 512 (-1))) 64 (ax_fill (fun _ => 0) 0 961 (-1))) 65 (ax_fill (fun _ => 0) 0 961 0)
def D00 (nn : Nat) (ep st : Int32) (fm : Nat → Int32) : Nat → Nat → Int32 := va_up (va_up (va_up (va_up (va_up (va_up (va_up (va_up (va_up (va_up (va_up (fun _ _ => 0) 0 (upd (upd (upd (fun _ => 0) 6 1) 7 1) 8 (allN nn))) 5 (ax_fill (fun _ => 0) 0 280 (-1))) 6 (ax_fill (fun _ => 0) 0 280 (-1))) 7 (upd (upd (fun _ => 0) 7 ep) 8 st)) 8 fm) 11 (ax_fill (fun _ => 0) 0 48 (-1))) 12 (ax_fill (fun _ => 0) 0 48 0)) 15 (ax_fill (fun _ => 0) 0 512 (-1))) 16 (ax_fill (fun _ => 0) 0 961 (-1))) 17 (ax_fill (fun _ => 0) 0 961 0)) 18 (upd (fun _ => 0) 4 (-1))
def Z00 : ZT := ⟨(fun _ => False, fun _ => False), fun _ h => h.elim⟩
theorem NI00 {nn : Nat} {ep st : Int32} {fm : Nat → Int32} (hnn : 3 ≤ nn) : NI Z00 nn (D00 nn ep st fm) := by
  have h6 : ∀ s, s < 280 → D00 nn ep st fm 6 s = -1 := fun s hs => if_pos ⟨by omega, hs⟩
  have h5 : ∀ s, s < 280 → D00 nn ep st fm 5 s = -1 := fun s hs => if_pos ⟨by omega, hs⟩
  refine ⟨⟨⟨0, by omega, rfl, fun j hj => absurd hj (by omega), fun s hs => Or.inl (h5 s hs)⟩, fun s hs w => absurd (show fstB (0 : Int32) = 0 by decide) w.1, fun s hs _ w => absurd (h6 s hs) w, fun z => absurd (show (1 : Int32) = 0 from z) (by decide)⟩, TI.forget (fun f _ => ⟨0, by decide, rfl⟩), ⟨⟨⟨0, by decide, rfl⟩, fun z => absurd (show (0 : Int32) = 1 ∨ (0 : Int32) = 3 ∨ (0 : Int32) = 4 from z) (by decide), fun z => absurd (show (0 : Int32) = 4 from z) (by decide), ⟨0, by decide, rfl⟩, ⟨0, by decide, rfl⟩, ⟨0, by decide, rfl⟩⟩, ⟨0, by decide, rfl⟩, ⟨0, by decide, rfl⟩, fun z => absurd rfl z, fun z => absurd (show (0 : Int32) = 2 from z) (by decide), fun z => absurd (show (0 : Int32) = 3 ∨ (0 : Int32) = 4 from z) (by decide), fun z => absurd (show (0 : Int32) = 5 from z) (by decide), fun i hi z => absurd rfl z⟩, ⟨0, by decide, rfl⟩, ⟨0, by omega, rfl⟩⟩
theorem fresh_cp {h : ax_H} {x1 x2 x3 : Int32} {s0 n nn gg cc p : Nat} {f : Nat → Int32} (hFr : Fresh h x1 x2 x3 s0 n nn gg cc p f) (hs0 : 0 < s0) (hp0 : 0 < h.1) : CG s0 n nn gg f ∧ ∃ D : Nat → Nat → Nat → Int32, CP s0 n nn gg (nI cc) f h D ∧ allU nn D := by
  obtain ⟨⟨a1, a2, -⟩, -, ⟨c1, c2, -⟩, ⟨-, -, -, d4⟩, hsn, hSW, hAk, ⟨ids, ms, hN, hms⟩, hQ⟩ := hFr
  refine ⟨⟨hs0, hsn, a1, a2, c1, c2, d4⟩, ?_⟩
  have hQ2 : ∃ fm : Nat → Nat → Int32, ∀ j, j < nn → ax_hs h (QN (n + 329 + 22 * j) (n + 264) n (nI gg) (nI j) 1 1 (allN nn) (if j = p then 1 else 0) (if j = p then allN nn else 0) 0 0 0 0 0 (fm j)) := by
    refine ⟨fun j => if hj : j < nn then (hQ j hj).choose else fun _ => 0, fun j hj => ?_⟩
    have := (hQ j hj).choose_spec
    simp only [dif_pos hj]
    exact this
  obtain ⟨fm, hQ3⟩ := hQ2
  have hE : ax_hs h (EW s0 n nn gg (nI cc) f (E00 nn) 0) := hSW.sub [0, 1, 2, 3, 15, 16, 17, 18, 19, 4, 13, 14, 5, 6, 7, 8, 9, 10, 11, 12] rfl rfl
  refine ⟨fun j => D00 nn (if j = p then 1 else 0) (if j = p then allN nn else 0) (fm j), ⟨Z00, 0, fun _ => 0, fun _ => 0, E00 nn, 0, fun _ => (fun _ => 0, fun _ => 0), ms, fun _ => 0, fun _ => 0, ⟨hE, fun j hj => hAk j hj, ⟨ids, hN⟩, ax_fr.rf, rfl, rfl, hp0⟩, fun j hj => ⟨?_, NI00 a1, Or.inr rfl⟩, fun x hx => ?_, ?_, ?_, SZ.rf⟩, fun j hj => rfl⟩
  · have h2 : ax_hs h [cRk n nn gg (nI cc), cOr n nn gg f] := hSW.sub [1, 2] rfl rfl
    have h3 := (hQ3 j hj).app h2 (fun i k a b ha hb e => by
      have ha2 : a.1 ∈ (QN (n + 329 + 22 * j) (n + 264) n (nI gg) (nI j) 1 1 (allN nn) (if j = p then 1 else 0) (if j = p then allN nn else 0) 0 0 0 0 0 (fm j)).map (·.1) := List.mem_map_of_mem (List.mem_of_getElem? ha)
      have hb2 : b.1 ∈ [cRk n nn gg (nI cc), cOr n nn gg f].map (·.1) := List.mem_map_of_mem (List.mem_of_getElem? hb)
      have e1 : [cRk n nn gg (nI cc), cOr n nn gg f].map (·.1) = [n + 264, n + 265] := rfl
      have e2 : (QN (n + 329 + 22 * j) (n + 264) n (nI gg) (nI j) 1 1 (allN nn) (if j = p then 1 else 0) (if j = p then allN nn else 0) 0 0 0 0 0 (fm j)).map (·.1) = [n + 329 + 22 * j, n + 329 + 22 * j + 1, n + 329 + 22 * j + 2, n + 329 + 22 * j + 3, n + 329 + 22 * j + 4, n + 329 + 22 * j + 5, n + 329 + 22 * j + 6, n + 329 + 22 * j + 7, n + 329 + 22 * j + 8, n + 329 + 22 * j + 9, n + 329 + 22 * j + 10, n + 329 + 22 * j + 11, n + 329 + 22 * j + 12, n + 329 + 22 * j + 13, n + 329 + 22 * j + 14, n + 329 + 22 * j + 15, n + 329 + 22 * j + 16, n + 329 + 22 * j + 17, n + 329 + 22 * j + 18, n + 329 + 22 * j + 19, n + 329 + 22 * j + 20, n + 329 + 22 * j + 21] := rfl
      rw [e1] at hb2
      rw [e2] at ha2
      simp only [List.mem_cons, List.not_mem_nil, or_false] at ha2 hb2
      omega)
    exact h3
  · have h1 : x.1 ∈ LST p nn 1 (allN nn) := by rw [← hms]; exact List.mem_map_of_mem hx
    obtain ⟨k, -, e⟩ := List.mem_map.mp h1
    exact MI.head (u := x.1) (b := x.2) (Or.inr (Or.inr (Or.inl (by rw [← e]; rfl))))
  · exact ⟨0, 0, 0, 0, ⟨rfl, rfl, rfl, rfl⟩, ⟨by omega, by omega, by omega, by omega, by omega, by omega⟩, ⟨⟨0, by decide, rfl⟩, ⟨0, by decide, rfl⟩, ⟨0, by decide, rfl⟩⟩, fun o _ ho => absurd ho (by omega), fun j _ => ⟨0, by decide, rfl⟩, fun o ho => by rcases ho with ho | ho <;> exact ho.elim⟩
  · exact ⟨TI.forget (fun f _ => ⟨0, by decide, rfl⟩), fun k _ => ⟨0, by decide, rfl⟩, Or.inl rfl⟩
def M00 (nn cc gg : Nat) : Nat → Nat → Int32 := va_up (fun _ _ => 0) 0 (upd (upd (upd (upd (upd (upd (fun _ => 0) 0 (nI nn)) 1 (nI cc)) 2 (nI gg)) 3 (allN nn)) 4 (allN nn)) 5 1)
theorem mw_rp {h : ax_H} {m nn gg cc : Nat} (hM : ax_hs h (MW m (m + 1) nn gg cc)) (hm : 0 < m) (hp0 : 0 < h.1) : RP nn cc gg 0 m (m + 1) h (m + 1 + 18) 64 (M00 nn cc gg) := by
  refine ⟨⟨hM, ax_fr.rf, rfl, rfl, hp0⟩, ⟨by omega, by omega, hm⟩, ⟨rfl, rfl, rfl⟩, ⟨0, by decide, rfl⟩, ⟨⟨0, by decide, rfl⟩, ⟨0, by decide, rfl⟩⟩, ⟨0, 0, rfl, rfl, by omega, fun i hi => absurd hi (by omega), List.nodup_nil, fun f _ => ⟨fun _ => List.not_mem_nil, fun _ => rfl⟩, fun f _ => ⟨0, by decide, rfl⟩, fun f _ => ⟨0, by decide, rfl⟩, fun f _ => ⟨0, by decide, rfl⟩, rfl, by omega⟩, ⟨0, 0, rfl, rfl, by omega, by omega, by omega, by omega, fun w hw => absurd hw (by omega)⟩, ⟨0, rfl, by omega⟩, fun x _ => ⟨0, by decide, rfl⟩, Or.inl rfl, Or.inl rfl⟩
/-- which NODES are UP, here and there -/
def UPR (nn : Nat) (D : Nat → Nat → Nat → Int32) (up : Int32) : Prop := ∀ j, j < nn → (D j 0 6 = 0 ↔ bt up j = false)
theorem UPR.gr {nn : Nat} {D D' : Nat → Nat → Nat → Int32} {up : Int32} (h : UPR nn D up) (hR : GR nn D D') : UPR nn D' up := fun j hj => by rw [hR j hj]; exact h j hj
theorem UPR.all {nn : Nat} {D : Nat → Nat → Nat → Int32} (h3 : 3 ≤ nn) (h6 : nn ≤ 6) (h : allU nn D) : UPR nn D (allN nn) := fun j hj => by
  rw [h j hj, b_all h3 h6 j hj]
  decide
theorem UPR.flip {nn j v : Nat} {D D' : Nat → Nat → Nat → Int32} {up : Int32} (h6 : nn ≤ 6) (h : UPR nn D up) (hj : j < nn) (hv : v = 0 ∨ v = 1) (hb : D j 0 6 = 0 ↔ v = 1) (hD : ∀ i, i < nn → D' i 0 6 = if i = j then nI v else D i 0 6) : UPR nn D' (up ^^^ ((1 : Int32) <<< (nI j &&& 31))) := fun i hi => by
  rw [hD i hi, b_flip up (show i < 32 by omega) (show j < 32 by omega)]
  by_cases e : i = j
  · subst e
    rw [if_pos rfl, if_pos rfl]
    have h1 := h i hi
    rcases hv with rfl | rfl
    · have h2 : ¬ D i 0 6 = 0 := fun z => absurd (hb.mp z) (by decide)
      have h3 : ¬ bt up i = false := fun z => h2 (h1.mpr z)
      simp at h3
      rw [h3]
      decide
    · have h3 : bt up i = false := h1.mp (hb.mpr rfl)
      rw [h3]
      decide
  · rw [if_neg e, if_neg e]
    exact h i hi
/-- the two stores before the call of place i; c calls were made -/
def LW (s0 n nn gg cc m B1 B2 cl : Nat) (f : Nat → Int32) (h : ax_H) : Prop := ∃ (D : Nat → Nat → Nat → Int32) (al AL : Nat) (M : Nat → Nat → Int32), CP s0 n nn gg (nI cc) f h D ∧ RP nn cc gg cl m (m + 1) h al AL M ∧ UPR nn D (M 0 3) ∧ h.1 + 64 ≤ B1 + AL ∧ h.2.1 + 128 = B2 + 2 * AL
theorem LW.room {s0 n nn gg cc m B1 B2 cl : Nat} {f : Nat → Int32} {h : ax_H} (hW : LW s0 n nn gg cc m B1 B2 cl f h) : h.1 ≤ B1 + 448 ∧ h.2.1 ≤ B2 + 896 := by
  obtain ⟨D, al, AL, M, -, hR, -, h1, h2⟩ := hW
  have hA := hR.2.2.2.2.2.2.2.2.2.2
  unfold AOK at hA
  omega


/-! the first state: what is true of it -/
def g00 (nn : Nat) : Gh := ⟨fun _ => (fun _ => 0, fun _ => 0), 0, fun _ => allN nn, 1, fun e n k => e = 1 ∧ n < nn ∧ k = 5243392, fun _ => 0, 1, 0, 0⟩
def S00 (nn p : Nat) (fm : Nat → Nat → Int32) (ms : List Mg) : SS := (E00 nn, fun _ => (fun _ => 0, fun _ => 0), ms, fun j => D00 nn (if j = p then 1 else 0) (if j = p then allN nn else 0) (fm j), fun _ => 0, fun _ => 0)
theorem LST_x {p nn : Nat} {ms : List Mg} (h : ms.map (·.1) = LST p nn 1 (allN nn)) : ms.length = nn ∧ ∀ x ∈ ms, ∃ k, x.1 = mg 4 (nI p) (nI k) 1 (allN nn) := by
  refine ⟨?_, fun x hx => ?_⟩
  · have := congrArg List.length h
    unfold LST at this
    rw [List.length_map, List.length_map, List.length_range'] at this
    exact this
  · have h1 : x.1 ∈ LST p nn 1 (allN nn) := by rw [← h]; exact List.mem_map_of_mem hx
    obtain ⟨k, -, e⟩ := List.mem_map.mp h1
    exact ⟨k, e.symm⟩
theorem lo00 {P : Pm} {fm : Nat → Int32} (hm : MkE P.nn P.gg P.C P.f (allN P.nn) fm) : LO P (g00 P.nn) 1 (D00 P.nn 1 (allN P.nn) fm) 0 := by
  have hv : ∀ a, a < 961 → D00 P.nn 1 (allN P.nn) fm 16 a = -1 := fun a ha => if_pos ⟨by omega, ha⟩
  have h11 : ∀ a, a < 48 → D00 P.nn 1 (allN P.nn) fm 11 a = -1 := fun a ha => if_pos ⟨by omega, ha⟩
  have h12 : ∀ a, a < 48 → D00 P.nn 1 (allN P.nn) fm 12 a = 0 := fun a ha => if_pos ⟨by omega, ha⟩
  have h15 : ∀ a, a < 512 → D00 P.nn 1 (allN P.nn) fm 15 a = -1 := fun a ha => if_pos ⟨by omega, ha⟩
  refine ⟨⟨rfl, rfl, Nat.le_refl _, Nat.le_refl _⟩, fun i hi => hm i hi, fun a k h1 h2 => absurd (by rw [hv a h1]; decide) h2, fun f p h1 h2 _ _ => absurd (h11 f h1) h2, Or.inl ⟨rfl, 0, Nat.le_refl _, hv 960 (by decide), ?_, rfl, fun v hv ev => absurd ev (fun z => nIneg (by omega) z.symm)⟩⟩
  refine ⟨fun i hi => Or.inl ⟨rfl, h15 i hi⟩, fun f hf => Or.inl ⟨h11 f hf, h12 f hf, q_0 f, fun p hp => hv _ (by omega)⟩, ?_, fun i f hi hf e => ?_, fun i f hi hf e => ?_, fun i f hi hf e => ?_, fun f _ _ => q_0 f⟩
  · show (0 : Int32) = nI (Sm (fun i => if T0.ex i = true then 1 else 0) 512)
    rw [Sm_z (fun i _ => if_neg (by show ¬ false = true; decide))]
    rfl
  · rw [h11 f hf] at e; exact absurd e.symm (nIneg (by omega))
  · rw [h11 f hf] at e; exact absurd e.symm (nIneg (by omega))
  · rw [h11 f hf] at e; exact absurd e.symm (nIneg (by omega))
theorem svx00 {P : Pm} {R p : Nat} {fm : Nat → Nat → Int32} {ms : List Mg} (h6 : P.nn ≤ 6) (hR : 0 < R) (hp : p < P.nn) (hpl : nof P.f 0 (allN P.nn) P.nn 0 0 = nI p) (hm : MkE P.nn P.gg P.C P.f (allN P.nn) (fm p)) (hms : ms.map (·.1) = LST p P.nn 1 (allN P.nn)) : SVX P R 1 (g00 P.nn) 0 (S00 P.nn p fm ms) := by
  obtain ⟨m1, m2⟩ := LST_x hms
  have hD : ∀ j, ¬ ldB P.f P.nn (nI j) (allN P.nn) = 0 → j < P.nn → j = p := fun j hl hj => by
    unfold ldB at hl
    rw [hpl] at hl
    by_cases c : nI p = nI j
    · exact (nI_inj (by omega) (by omega) c).symm
    · rw [if_neg c] at hl; exact absurd rfl hl
  have hNU : ∀ j, j < P.nn → NU P (g00 P.nn) j 1 (D00 P.nn (if j = p then 1 else 0) (if j = p then allN P.nn else 0) (fm j)) 0 := fun j hj => by
    have t6 : ∀ s, s < 280 → D00 P.nn (if j = p then 1 else 0) (if j = p then allN P.nn else 0) (fm j) 6 s = -1 := fun s hs => if_pos ⟨by omega, hs⟩
    have t5 : ∀ s, s < 280 → D00 P.nn (if j = p then 1 else 0) (if j = p then allN P.nn else 0) (fm j) 5 s = -1 := fun s hs => if_pos ⟨by omega, hs⟩
    refine ⟨⟨rfl, Nat.le_refl _, rfl, Nat.le_refl _⟩, ⟨0, by omega, rfl, fun j hj => absurd hj (by omega), fun s hs => Or.inl (t5 s hs), fun s hs _ => Or.inl ⟨t6 s hs, fun w => absurd (show fstB (0 : Int32) = 0 by decide) w.1⟩, fun s hs w => absurd (show fstB (0 : Int32) = 0 by decide) w.1, fun s j hs hj => absurd hj (by omega), fun s t hs ht e hn => absurd (t6 s hs) hn⟩, fun e k hr hk => ?_, fun e' k hr => ?_, ⟨0, by decide, rfl⟩, fun hl => ?_⟩
    · have : k = 5243392 := hr.2.2
      omega
    · obtain ⟨e1, n1, k1⟩ := hr
      exact ⟨by omega, by omega, by show 1 ≤ e'; omega⟩
    · have : j = p := hD j hl hj
      subst this
      rw [if_pos rfl, if_pos rfl]
      exact lo00 hm
  refine ⟨⟨⟨⟨Nat.zero_le _, fun o ho => absurd ho (Nat.not_lt_zero o)⟩, ⟨by show 1 < 2 ^ 30; decide, Nat.le_refl _⟩, ⟨0, ?_⟩, fun x hx => ?_, fun j hj => Or.inr ⟨by show ¬ (1 : Int32) = 0; decide, 1, hNU j hj⟩⟩, ⟨?_, fun n => Or.inl (by show 0 < 1; omega), fun n => Nat.zero_le _⟩, rfl, hR, Nat.le_refl _⟩, ?_, fun x hx => ?_, fun j hj _ hl => ?_⟩
  · refine ⟨rfl, ⟨Nat.le_refl _, Nat.zero_le _⟩, rfl, rfl, fun v hv e => absurd e (fun z => nIneg (by omega) z.symm), fun o _ ho => absurd ho (Nat.not_lt_zero o), ⟨rfl, rfl⟩, rfl, ⟨Nat.le_refl _, Nat.zero_le _, rfl⟩, fun n hn hb => ?_⟩
    have hb : bt (allN P.nn) n = true := hb
    have hn2 : n < P.nn := by
      rcases Nat.lt_or_ge n P.nn with q | q
      · exact q
      · rw [allN_no P.nn (by omega) n hn q] at hb; cases hb
    exact ⟨hn2, rfl, hn2, rfl⟩
  · obtain ⟨k, e⟩ := m2 x hx
    obtain ⟨x1, x2⟩ := x
    have e : x1 = mg 4 (nI p) (nI k) 1 (allN P.nn) := e
    subst e
    exact ⟨1, MO.plain rfl (Nat.le_refl _) rfl (Or.inr rfl)⟩
  · exact Nat.le_of_eq (Sm_z (fun n _ => if_neg (by show ¬ 1 < 0; omega)))
  · show ms.length ≤ 128
    omega
  · obtain ⟨k, e⟩ := m2 x hx
    exact MS.k4 (by rw [e]; rfl)
  · exact GH.fr rfl rfl rfl rfl (show ax_fill (fun _ => (0 : Int32)) 0 961 (-1) 960 = -1 from ax_fill_in _ _ (by omega) (by omega))
theorem RwA.rk {nn gg : Nat} {f : Nat → Int32} {C : Int32} (h : RwA nn gg f) : RK (nn, gg, C, f) := fun x i j hx hi hj e => by
  have hb : ∀ a : Int32, ¬ befS (nI x) a a := fun a z => by
    rcases z with z | ⟨_, z⟩
    · exact Int32.lt_irrefl z
    · exact Int32.lt_irrefl z
  have e : f (x * nn + i) = f (x * nn + j) := e
  rcases Nat.lt_or_ge i j with q | q
  · have := (h x hx).2 i j q hj
    rw [e] at this
    exact absurd this (hb _)
  · rcases Nat.lt_or_ge j i with q2 | q2
    · have := (h x hx).2 j i q2 hi
      rw [e] at this
      exact absurd this (hb _)
    · omega
theorem fresh_cx {h : ax_H} {x1 x2 x3 : Int32} {s0 n nn gg cc p : Nat} {f : Nat → Int32} (hFr : FreshX h x1 x2 x3 s0 n nn gg cc p f) (hs0 : 0 < s0) (hp0 : 0 < h.1) : CG s0 n nn gg f ∧ ∃ (fm : Nat → Nat → Int32) (ms : List Mg), (p < nn → MkE nn gg (nI cc) f (allN nn) (fm p)) ∧ ms.map (·.1) = LST p nn 1 (allN nn) ∧ CX s0 n nn gg (nI cc) f h 0 (S00 nn p fm ms) := by
  obtain ⟨⟨a1, a2, -⟩, -, ⟨c1, c2, -⟩, ⟨-, -, -, d4, -⟩, hsn, hSW, hAk, ⟨ids, ms, hN, hms⟩, hQ⟩ := hFr
  refine ⟨⟨hs0, hsn, a1, a2, c1, c2, d4⟩, ?_⟩
  have hQ2 : ∃ fm : Nat → Nat → Int32, ∀ j, j < nn → (j = p → MkE nn gg (nI cc) f (allN nn) (fm j)) ∧ ax_hs h (QN (n + 329 + 22 * j) (n + 264) n (nI gg) (nI j) 1 1 (allN nn) (if j = p then 1 else 0) (if j = p then allN nn else 0) 0 0 0 0 0 (fm j)) := by
    refine ⟨fun j => if hj : j < nn then (hQ j hj).choose else fun _ => 0, fun j hj => ?_⟩
    have := (hQ j hj).choose_spec
    simp only [dif_pos hj]
    exact this
  obtain ⟨fm, hQ3⟩ := hQ2
  have hE : ax_hs h (EW s0 n nn gg (nI cc) f (E00 nn) 0) := hSW.sub [0, 1, 2, 3, 15, 16, 17, 18, 19, 4, 13, 14, 5, 6, 7, 8, 9, 10, 11, 12] rfl rfl
  refine ⟨fm, ms, fun hp => (hQ3 p hp).1 rfl, hms, Z00, 0, fun _ => 0, fun _ => 0, ⟨hE, fun j hj => hAk j hj, ⟨ids, hN⟩, ax_fr.rf, rfl, rfl, hp0⟩, fun j hj => ⟨?_, NI00 a1, Or.inr rfl⟩, fun x hx => ?_, ?_, ?_, SZ.rf⟩
  · have h2 : ax_hs h [cRk n nn gg (nI cc), cOr n nn gg f] := hSW.sub [1, 2] rfl rfl
    have h3 := (hQ3 j hj).2.app h2 (fun i k a b ha hb e => by
      have ha2 : a.1 ∈ (QN (n + 329 + 22 * j) (n + 264) n (nI gg) (nI j) 1 1 (allN nn) (if j = p then 1 else 0) (if j = p then allN nn else 0) 0 0 0 0 0 (fm j)).map (·.1) := List.mem_map_of_mem (List.mem_of_getElem? ha)
      have hb2 : b.1 ∈ [cRk n nn gg (nI cc), cOr n nn gg f].map (·.1) := List.mem_map_of_mem (List.mem_of_getElem? hb)
      have e1 : [cRk n nn gg (nI cc), cOr n nn gg f].map (·.1) = [n + 264, n + 265] := rfl
      have e2 : (QN (n + 329 + 22 * j) (n + 264) n (nI gg) (nI j) 1 1 (allN nn) (if j = p then 1 else 0) (if j = p then allN nn else 0) 0 0 0 0 0 (fm j)).map (·.1) = [n + 329 + 22 * j, n + 329 + 22 * j + 1, n + 329 + 22 * j + 2, n + 329 + 22 * j + 3, n + 329 + 22 * j + 4, n + 329 + 22 * j + 5, n + 329 + 22 * j + 6, n + 329 + 22 * j + 7, n + 329 + 22 * j + 8, n + 329 + 22 * j + 9, n + 329 + 22 * j + 10, n + 329 + 22 * j + 11, n + 329 + 22 * j + 12, n + 329 + 22 * j + 13, n + 329 + 22 * j + 14, n + 329 + 22 * j + 15, n + 329 + 22 * j + 16, n + 329 + 22 * j + 17, n + 329 + 22 * j + 18, n + 329 + 22 * j + 19, n + 329 + 22 * j + 20, n + 329 + 22 * j + 21] := rfl
      rw [e1] at hb2
      rw [e2] at ha2
      simp only [List.mem_cons, List.not_mem_nil, or_false] at ha2 hb2
      omega)
    exact h3
  · have h1 : x.1 ∈ LST p nn 1 (allN nn) := by rw [← hms]; exact List.mem_map_of_mem hx
    obtain ⟨k, -, e⟩ := List.mem_map.mp h1
    exact MI.head (u := x.1) (b := x.2) (Or.inr (Or.inr (Or.inl (by rw [← e]; rfl))))
  · exact ⟨0, 0, 0, 0, ⟨rfl, rfl, rfl, rfl⟩, ⟨by omega, by omega, by omega, by omega, by omega, by omega⟩, ⟨⟨0, by decide, rfl⟩, ⟨0, by decide, rfl⟩, ⟨0, by decide, rfl⟩⟩, fun o _ ho => absurd ho (by omega), fun j _ => ⟨0, by decide, rfl⟩, fun o ho => by rcases ho with ho | ho <;> exact ho.elim⟩
  · exact ⟨TI.forget (fun f _ => ⟨0, by decide, rfl⟩), fun k _ => ⟨0, by decide, rfl⟩, Or.inl rfl⟩

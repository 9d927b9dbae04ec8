/-! ITEMS as blocks -/
def stW (T : TS) (i s : Nat) (w : Nat → Int32) : Prop := (∀ x, 2 ≤ x → x < 15 → w x = 0) ∧ ∀ y, y < 448 → bytA w (60 + y) = T.dt i (448 * s + y)
/-- what the ROOT says -/
def rootW (T : TS) (a : Int32) : Nat → Int32 := wrR (fun i => if T.ex i = true then nI i else -1) (fun y => T.vr (y / 20) (y % 20)) 0 512 0 0 (upd (upd (fun _ => 0) 15 (nI T.cnt)) 16 a)
def ctW (ops : Nat → Mg) (k : Nat) (w : Nat → Int32) : Prop :=
  (k / 10240 = 512 → ∀ x, 2 ≤ x → x < 127 → w x = rootW (tsp ops (k % 512 + 1)) (efA ops (k % 512 + 1)) x) ∧
  (¬ k / 10240 = 512 → k / 512 % 20 = 19 → ∀ x, 2 ≤ x → x < 127 → w x = recW (tsp ops (k % 512 + 1)) (k / 10240) x) ∧
  (¬ k / 10240 = 512 → ¬ k / 512 % 20 = 19 → stW (tsp ops (k % 512 + 1)) (k / 10240) (k / 512 % 20) w)
/-- an ITEM as it must be -/
def Bk (ops : Nat → Mg) (bg : Nat) (w : Nat → Int32) : Prop := ∃ k : Nat, k < 5243392 ∧ w 1 = nI k ∧ k % 512 < bg ∧ (∃ x, stp (tsp ops (k % 512)) (k % 512) (ops (k % 512)) = some x) ∧ isIt (tsp ops (k % 512 + 1)) (nI (k % 512)) k ∧ ctW ops k w
theorem stW.cg {T : TS} {i s : Nat} {w w' : Nat → Int32} (h : stW T i s w) (e : ∀ x, 2 ≤ x → x < 127 → w x = w' x) : stW T i s w' := ⟨fun x h1 h2 => by rw [← e x h1 (by omega)]; exact h.1 x h1 h2, fun y hy => by rw [← h.2 y hy]; exact byt_cg (e _ (by omega) (by omega)).symm rfl⟩
theorem Bk_X (ops : Nat → Mg) (bg : Nat) : BX (Bk ops bg) := by
  refine ⟨fun w w' e ⟨k, h1, h2, h3, h4, h5, h6, h7, h8⟩ => ⟨k, h1, by rw [← e 1 (by omega) (by omega)]; exact h2, h3, h4, h5, fun z x a1 a2 => by rw [← e x (by omega) a2]; exact h6 z x a1 a2, fun z z2 x a1 a2 => by rw [← e x (by omega) a2]; exact h7 z z2 x a1 a2, fun z z2 => (h8 z z2).cg (fun x a1 a2 => e x (by omega) a2)⟩, fun w ⟨k, h1, h2, _⟩ => ?_⟩
  rw [h2]
  exact nI_pos (by omega)
/-- a STRIPE that was fetched says what FILE i has there -/
theorem Bk.str {ops : Nat → Mg} {bg k i s v : Nat} {w : Nat → Int32} (h : Bk ops bg w) (hS : STB ops k) (hi : i < 512) (hs : s < 19) (hv : v < 512) (e : w 1 = nI (tgN i s v)) (ev : (tsp ops k).vr i s = nI v) : stW (tsp ops k) i s w := by
  obtain ⟨t, t1, t2, t3, t4, t5, t6, t7, t8⟩ := h
  have hb : tgN i s v < 5242880 := by unfold tgN; omega
  rw [t2] at e
  have := nI_inj (by omega) (by omega) e
  subst this
  obtain ⟨d1, d2, d3⟩ := tgN_d (i := i) (show s < 20 by omega) hv
  rw [d1, d2, d3] at t8
  obtain ⟨a1, a2⟩ := t8 (by omega) (by omega)
  obtain ⟨_, _, _, _, _, b6⟩ := hS.s i s v (by omega) hv ev
  exact ⟨a1, fun y hy => by rw [a2 y hy, b6 hs y hy]⟩
/-- the blocks when nothing is lacking any more -/
theorem FE.old {ops : Nat → Mg} {bg o : Nat} {D : Nat → Nat → Int32} {K : Int64} (h : FE ops (Bk ops bg) o D K) (ho : o < 512) (hT : TOK (tsp ops o) o) (hS : STB ops o) (h12 : D 18 12 = 0) :
    ∃ sp c a : Nat, sp ≤ 2048 ∧ D 18 9 = nI sp ∧ D 18 11 = nI c ∧ c ≤ 6 ∧ (sp = 0 → c = 0) ∧ (0 < sp → D 19 1 = nI a ∧ a + sp ≤ 8192 ∧ D 18 10 = nI (a / 448) ∧ c = (a + sp - 1) / 448 - a / 448 + 1) ∧ (∀ y, c * 128 ≤ y → y < 1152 → D 21 y = 0) ∧
      (∀ fx i : Nat, fx < 48 → i < 512 → D 18 7 = nI fx → D 11 fx = nI i → ∀ j, j < c → stW (tsp ops o) i (a / 448 + j) (fun x => D 21 (j * 128 + x))) ∧ (D 18 7 = -1 → ∀ y, y < 1152 → D 21 y = 0) := by
  obtain ⟨sp, c, a, s1, s2, s3, s4, s5, s6, s7, s8⟩ := h.sp
  have hb : ∀ j, bt (D 18 12) j = false := fun j => by rw [h12, b_0]
  have hc : c ≤ 6 := by
    rcases Nat.eq_zero_or_pos sp with z | z
    · have := s4 z; omega
    · obtain ⟨_, a2, _, a4⟩ := s5 z
      omega
  refine ⟨sp, c, a, s1, s2, s3, hc, s4, s5, fun y h1 h2 => ?_, fun fx i hfx hi e7 ej j hj => ?_, fun e7 y hy => ?_⟩
  · have := s7 (y / 128) (by omega)
    rcases this with z | ⟨z, _⟩
    · have := z (y % 128) (Nat.mod_lt _ (by decide))
      rw [show y / 128 * 128 + y % 128 = y by omega] at this
      exact this
    · omega
  · have hsp : 0 < sp := by
      rcases Nat.eq_zero_or_pos sp with z | z
      · have := s4 z; omega
      · exact z
    obtain ⟨t1, t2, t3, t4⟩ := s5 hsp
    have hq : a / 448 + j < 19 := by omega
    obtain ⟨_, _, _, k4⟩ := h.tk.at hfx hi ej
    have hvv := k4 (a / 448 + j) (by omega)
    rw [← Nat.add_assoc] at hvv
    by_cases c1 : (tsp ops o).vr i (a / 448 + j) = -1
    · rcases s7 j (by omega) with z | ⟨z1, z2, z3, fy, y1, y2, y3, _⟩
      · refine ⟨fun x h1 h2 => z x (by omega), fun y hy => ?_⟩
        rw [hS.z i _ hq c1 y hy]
        have : bytA (fun x => D 21 (j * 128 + x)) (60 + y) = bytA (fun _ => 0) 0 := by
          refine byt_ext (fun q hq => ?_)
          show bt (D 21 (j * 128 + (60 + y) / 4)) _ = bt 0 _
          rw [z _ (by omega), b_0, b_0]
        rw [this]
        decide
      · -- a block that was filled in has a VERSION
        exfalso
        rw [e7] at y2
        have := nI_inj (by omega) (by omega) y2
        subst this
        rw [hvv, c1] at y3
        exact y3 (by decide)
    · obtain ⟨v, v1, v2⟩ := (hT.v1 i (a / 448 + j)).resolve_left c1
      have hnn : ¬ D 16 (fx * 20 + a / 448 + j) < 0 := by rw [hvv, v2]; exact nI_pos (by omega)
      obtain ⟨g1, g2⟩ := s8 j hj (hb j) fx hfx e7 hnn
      refine g1.str hS hi hq (by omega) ?_ v2
      show D 21 (j * 128 + 1) = _
      rw [g2, Nat.add_assoc]
      exact tgA_v hfx (by omega) ej (by rw [← Nat.add_assoc, hvv, v2])
  · rcases s7 (y / 128) (by omega) with z | ⟨_, _, _, fy, y1, y2, _⟩
    · have := z (y % 128) (Nat.mod_lt _ (by decide))
      rw [show y / 128 * 128 + y % 128 = y by omega] at this
      exact this
    · rw [e7] at y2
      exact absurd y2.symm (nIneg (by omega))

/-! settle always comes to its end -/
theorem rg_end {P : Pm} {l : Nat} {g : Gh} {S : SS} (hP : PmO P) (hl : l < P.nn) (hA : AV P g) (h : RG P g l S) (hms : S.2.2.1 = []) : Ends P 1933 S := by
  refine Ends.step (n := 1932) (fun T S' ht hd => ?_)
  obtain ⟨g1, Zs, hg1, hT, ht1⟩ := h.tk hP hl hms ht
  obtain ⟨h0, g2, hg2, h2, i⟩ := RG.dr (I := fun _ S1 => PNs l S1 ∧ PDs P l S1) hP hl (fun g g' S1 S1' x Z h hi hst _ h' => PNs.st hP hl h hi hst h') hT (ht1.pn hP hl h) hd
  exact rst_end hP (sl_ok P) hl (rst_tb hl) g2 S' ⟨h2, h0, i.2, (hA.gs hg1).gs hg2⟩
theorem stl_c {P : Pm} {k t : Nat} {S Sf : SS} (h : stl P.nn P.gg P.C P.f (k + 1) t S Sf) : (dnP P.nn P.gg P.f S ∧ Sf = S) ∨ ∃ S1 S2 : SS, ((t = 0 ∧ S1 = S) ∨ (¬ t = 0 ∧ tkR P.nn P.gg P.C P.f S S1)) ∧ drR P.nn P.gg P.C P.f S1 S2 ∧ stl P.nn P.gg P.C P.f k (t + 1) S2 Sf := by
  rcases (show (dnP P.nn P.gg P.f S ∧ Sf = S) ∨ (¬ dnP P.nn P.gg P.f S ∧ ∃ S1 S2 : SS, ((t = 0 ∧ S1 = S) ∨ (¬ t = 0 ∧ tkR P.nn P.gg P.C P.f S S1)) ∧ drR P.nn P.gg P.C P.f S1 S2 ∧ stl P.nn P.gg P.C P.f k (t + 1) S2 Sf) from h) with z | ⟨_, z⟩
  · exact Or.inl z
  · exact Or.inr z
theorem se_end {P : Pm} {R c rc : Nat} {g : Gh} {S Sf : SS} (hP : PmO P) (hn0 : 0 < P.nn) (hK : RK P) (hC : P.C = nI R) (hR : R ≤ P.nn) (hc : c + 1 < 2 ^ 30) (h : SVX P R c g rc S) (hr : seR P.nn P.gg P.C P.f S Sf) : dnP P.nn P.gg P.f Sf := by
  obtain ⟨ms2, S1, z1, z2, z3⟩ := hr
  have hep := h.1.ep
  obtain ⟨a1, a2, l, l1, l2, l3, l4, l5, l6⟩ := se_1 hP hn0 h.gx (by omega) z1 z2
  have hA0 : AV P (g.draw (allN P.nn) g.er) := by
    refine ⟨R, rc, hK, hC, hR, h.1.er.draw, h.1.lt, ?_, fun n => ?_⟩
    · show fup g.mp (g.ep + 1) (allN P.nn) (g.ep + 1) = _
      rw [fup_s]
    · show g.er n < g.ep + 1
      have := h.1.er.c3 n
      omega
  rcases stl_c (k := 2000) z3 with ⟨q, e⟩ | ⟨S1', S2, w1, w2, w3⟩
  · rw [e]; exact q
  have e1 : S1' = S1 := by
    rcases w1 with ⟨_, e⟩ | ⟨e, _⟩
    · exact e
    · exact absurd rfl e
  subst e1
  obtain ⟨c1, g2, c2, c3, c4, c5, _, _⟩ := dr_C hP l1 l3 a1.2.1 l2 l4 l5 w2
  obtain ⟨gx2, _, x2, _⟩ := a1.dr hP w2
  rcases stl_c (k := 1999) w3 with ⟨q, e⟩ | ⟨T, S3, v1, v2, v3⟩
  · rw [e]; exact q
  have ht : tkR P.nn P.gg P.C P.f S2 T := by
    rcases v1 with ⟨e, _⟩ | ⟨_, e⟩
    · exact absurd e (by decide)
    · exact e
  have l22 : lds P g2 l g2.ep := by rw [lds_gs c2, c2.ep]; exact l2
  obtain ⟨g3, d1, d2, d3, _, _, d5, d6, d7⟩ := tk_C hP l1 c3 l22 c1 c4 (c5 l6) ht
  obtain ⟨gx3, _, x3, _⟩ := x2.tick hP ht
  have l23 : lds P g3 l g3.ep := by rw [lds_gs d1, d1.ep]; exact l22
  obtain ⟨f1, g4, f2, f3, f4, _, f6, _⟩ := dr_C hP l1 d2 d3 l23 d5 d6 v2
  obtain ⟨gx4, _, x4, _⟩ := x3.dr hP v2
  have l24 : lds P g4 l g4.ep := by rw [lds_gs f2, f2.ep]; exact l23
  have hRG : RG P g4 l S3 := ⟨f3, by rw [f1]; exact Nat.zero_le _, l24, fun n hn => by rw [f6 n hn (d7 n hn), f2.ep], fun x hx => by (rw [f1] at hx; cases hx), CL1.nil f1, f4, x4.2.2.2.hd (Nat.le_of_eq (GI.hde x4.1 f3.1))⟩
  exact rg_end hP l1 (((hA0.gs c2).gs d1).gs f2) hRG f1 1999 2 Sf (by decide) (by decide) v3
/-- settle keeps what is true, and answers with the count -/
theorem SVX.slx {P : Pm} {R c rc : Nat} {g : Gh} {S S' : SS} {TK : Int64} {y : Int32} (hP : PmO P) (hn0 : 0 < P.nn) (hK : RK P) (hC : P.C = nI R) (hR : R ≤ P.nn) (hc : c + 1 < 2 ^ 30) (h : SVX P R c g rc S) (hr : slR P.nn P.gg P.C P.f TK S y S') : y = S.1 4 8 - S.1 4 10 ∧ ∃ g', SVX P R (c + 1) g' 0 S' := by
  obtain ⟨Sf, r1, r2⟩ := hr
  have hd := se_end hP hn0 hK hC hR hc h r1
  rcases r2 with ⟨q, _⟩ | ⟨_, q1, q2⟩
  · exact absurd hd q
  · exact ⟨q1, h.sl hP hn0 hK hC hR hc r1 hd q2⟩

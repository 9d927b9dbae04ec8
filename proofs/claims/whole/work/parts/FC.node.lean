/-! one MESSAGE at a NODE -/
theorem wk_mono {N N' : Nat} (h : N ≤ N') (k : Int32) : wk N k ≤ wk N' k := by
  unfold wk
  repeat' split
  all_goals omega
theorem Wt_mono {N N' : Nat} (h : N ≤ N') : ∀ Z : List Mg, Wt N Z ≤ Wt N' Z
  | [] => Nat.le_refl _
  | z :: Z => by
    have h1 := wk_mono h (z.1 0)
    have h2 := Wt_mono h Z
    show wk N (z.1 0) + Wt N Z ≤ wk N' (z.1 0) + Wt N' Z
    omega
/-- the leader hears, and goes on -/
def LHr (P : Pm) (g : Gh) (me : Int32) (u b : Nat → Int32) (D : Nat → Nat → Int32) (K A : Int64) (D' : Nat → Nat → Int32) (K' A' : Int64) (Z : List Mg) : Prop :=
  Nn g (D' 16 960) ≤ Nn g (D 16 960) ∧ Wt (Nn g (D' 16 960)) Z + Ph g D' K' A' + 1 ≤ Ph g D K A + wk (Nn g (D 16 960)) (u 0) ∧ CLh P.gg u b D D' ∧ (∀ q, q < 7 → D' q = D q) ∧ (∀ z ∈ Z, MS P g z ∧ z.1 3 = D 7 7 ∧ ¬ z.1 0 = 5 ∧ ¬ z.1 0 = 11 ∧ (z.1 0 = 4 → ∃ j, j < P.nn ∧ z = mLI me D j)) ∧ LOr P.nn me D Z
theorem lead_z {P : Pm} {g : Gh} {e : Nat} {me : Int32} {u b : Nat → Int32} {D : Nat → Nat → Int32} {K A : Int64} {Y : List Mg} (hG : GO g) (hb12 : g.bg ≤ g.sn + 12) (hgg : 0 < P.gg) (hnn : P.nn ≤ 6) (hf : Rg P.nn P.f) (h : LO P g e D K) (hni : inR 961 (D 7 12)) (hm : MO P g e (u, b)) (hs : MS P g (u, b)) :
    ∃ (D' : Nat → Nat → Int32) (K' A' : Int64) (Z : List Mg), bnS (F_67 P.nn P.gg P.C me P.f u b D K A Y) (fun D3 K3 A3 Y3 => bnS (F_91 P.nn P.gg P.C me P.f u b D3 K3 A3 Y3) (fun D4 K4 A4 Y4 => (D4, K4, A4, Y4))) = (D', K', A', psl Y Z) ∧ LO P g e D' K' ∧ LHr P g me u b D K A D' K' A' Z := by
  obtain ⟨D1, K1, A1, Z1, r1, ⟨n1, n2, n3, n4, n5⟩, r3, r4, r5⟩ := hear_z (me := me) (A := A) hG hb12 hgg hnn hf h hm hs
  obtain ⟨D2, K2, Z2, s1, s2, hq, hq12, m1, m2, m3, m4, m5, m6⟩ := goon_z (me := me) (u := u) (b := b) (A := A1) (Y := psl Y Z1) hG hgg hnn r3
  refine ⟨D2, K2, A1, Z1 ++ Z2, ?_, s2, Nat.le_trans m1 n1, ?_, fun n hn t1 t2 => ?_, fun q hq' => by rw [hq q hq', r4 q hq'], fun z hz => ?_, n5.app (fun z hz => by rcases (m5 z hz).2.2 with y | y | y <;> rw [y] <;> decide)⟩
  · rw [r1 Y, bnS_e, s1, bnS_e, psl_app]
  · rw [Wt_app]
    have w1 := Wt_mono m1 Z1
    have hPh : Wt (Nn g (D2 16 960)) Z2 + Ph g D2 K2 A1 ≤ Ph g D1 K1 A1 := by
      rw [if_pos rfl] at m2
      have t := TN_le m1
      unfold Ph
      by_cases c : knA K2 (D2 10 9) = 0
      · obtain ⟨a1, a2, a3⟩ := m3 c
        rw [if_pos c, if_pos (by rw [← a1, ← a2]; exact c)]
        rw [a3] at m2 ⊢
        omega
      · rw [if_neg c]
        omega
    omega
  · obtain ⟨a1, a2, a3, a4, a5, a6, a7⟩ := m4 t1 n hn t2
    have hst : D1 18 3 ≤ 2 := by
      rcases a2 with a2 | a2
      · exact a2
      · exact absurd a2 r3.no5
    rcases n3 n hn hst a1 with ⟨b1, b2, b3, b4⟩ | ⟨b1, b2, b3, b4⟩
    · exact Or.inl ⟨b1, b2, fun k hk hp => (b3 k hk hp).c a3 a4 a5 a6 a7, fun z1 z2 j hj => by rw [a5, a6, a7]; exact b4 z1 z2 j hj⟩
    · exact Or.inr ⟨b1, b2, b3, fun j hj => (b4 j hj).c a3 a4 a5 a6 a7⟩
  · rcases List.mem_append.mp hz with y | y
    · have y1 := n4 z y
      refine ⟨y1.ms, ?_⟩
      rcases y1 with ⟨j, _, e⟩ | ⟨t, k, e⟩ | ⟨to, c, bf, c1, e⟩
      · rename_i hj; exact ⟨by rw [e]; rfl, by rw [e]; exact (show ¬ (4 : Int32) = 5 by decide), by rw [e]; exact (show ¬ (4 : Int32) = 11 by decide), fun _ => ⟨j, hj, e⟩⟩
      · refine ⟨?_, by rw [e, mGT_0]; decide, by rw [e, mGT_0]; decide, fun q => by rw [e, mGT_0] at q; exact absurd q (by decide)⟩
        rw [e]
        show va_up (mg 6 me k (D 7 7) (D 7 8)) 5 t 3 = D 7 7
        rw [va_up_n _ _ (by decide)]; rfl
      · have w : ∀ x, x ≠ 7 → z.1 x = mg 12 me to (D 7 7) (D 7 8) x := fun x hx => by
          rw [e]
          show va_up (mg 12 me to (D 7 7) (D 7 8)) 7 (nI c) x = _
          rw [va_up_n _ _ hx]
        have h0 : z.1 0 = 12 := w 0 (by decide)
        exact ⟨w 3 (by decide), by rw [h0]; decide, by rw [h0]; decide, fun q => by rw [h0] at q; exact absurd q (by decide)⟩
    · obtain ⟨y1, y2, y3⟩ := m5 z y
      refine ⟨y1, by rw [y2, h.l1.1], ?_, ?_, fun q => ?_⟩
      · rcases y3 with y3 | y3 | y3 <;> rw [y3] <;> decide
      · rcases y3 with y3 | y3 | y3 <;> rw [y3] <;> decide
      · exfalso; rcases y3 with y3 | y3 | y3 <;> rw [y3] at q <;> exact absurd q (by decide)

/-! listed, gotHave, gotLack -/
theorem ver_t {t : Nat} (ht : t < 2 ^ 31) : (nI t - nI t / 512 * 512 : Int32) = nI (t % 512) := by
  have h := rem_toI (x := nI t) (c := 512) (by decide) (by decide)
  apply Int32.toInt_inj.mp
  have e : (512 : Int32) = nI 512 := rfl
  rw [e, h, nI_toInt ht, nI_toInt (by omega)]
  show Int.tmod (t : Int) (512 : Int) = ((t % 512 : Nat) : Int)
  rw [Int.tmod_eq_emod_of_nonneg (by omega)]
  omega
theorem plc_tag {jf vf : Nat → Int32} {t a : Nat} (ht : t < 5243392) (h : plc jf t a) (hv : vf a = nI (t % 512)) : tgA jf vf a = nI t := by
  rcases h with ⟨h1, h2⟩ | ⟨h1, f, f1, f2, f3⟩
  · subst h2
    rw [tgA_r hv]
    congr 1
    unfold tgN
    omega
  · subst f3
    rw [tgA_v f1 (Nat.mod_lt _ (by decide)) f2 hv, tgN_e]
theorem plc_grp {jf : Nat → Int32} {t a gg : Nat} (ht : t < 5243392) (h : plc jf t a) : grp jf gg a = gr gg t := by
  unfold grp gr
  rcases h with ⟨h1, h2⟩ | ⟨h1, f, f1, f2, f3⟩
  · rw [if_pos (Or.inl h2), if_pos (Or.inl h1)]
  · have hp : t / 512 % 20 < 20 := Nat.mod_lt _ (by decide)
    by_cases c : t / 512 % 20 = 19
    · rw [if_pos (Or.inr (by omega)), if_pos (Or.inr c)]
    · rw [if_neg (by omega), if_neg (by omega), f3, show (f * 20 + t / 512 % 20) / 20 = f by omega, show (f * 20 + t / 512 % 20) % 20 = t / 512 % 20 by omega, f2, nI_clamp (by omega)]
theorem gr_lt {gg : Nat} (h : 0 < gg) (t : Nat) : gr gg t < gg := by
  unfold gr
  split
  · exact h
  · exact Nat.mod_lt _ h
/-- where an ITEM is found -/
theorem LO.find {P : Pm} {g : Gh} {e : Nat} {D : Nat → Nat → Int32} {K : Int64} (h : LO P g e D K) (hgg : 0 < P.gg) {t : Nat} (ht : t < 5243392) : (fndI (D 15) (D 16) (nI t) = -1 ∧ ∀ a, plc (D 11) t a → ¬ D 16 a = nI (t % 512)) ∨ ∃ a, a < 961 ∧ fndI (D 15) (D 16) (nI t) = nI a ∧ plc (D 11) t a ∧ D 16 a = nI (t % 512) ∧ tgA (D 11) (D 16) a = nI t ∧ D 8 (grp (D 11) P.gg a) = msk P g e t := by
  obtain ⟨c, _, htr, _⟩ := h.tab
  rcases htr.find (k := t) (by omega) with z | ⟨a, a1, a2, a3, a4⟩
  · exact Or.inl z
  · refine Or.inr ⟨a, a1, a2, a3, a4, plc_tag ht a3 a4, ?_⟩
    rw [plc_grp ht a3]
    exact h.l2 _ (gr_lt hgg t)
/-- holders: one more -/
theorem LO.hold {P : Pm} {g : Gh} {e : Nat} {D : Nat → Nat → Int32} {K : Int64} (h : LO P g e D K) {a t n : Nat} (hn : n < 32) (hva : ¬ D 16 a < 0) (ht : tgA (D 11) (D 16) a = nI t) (htb : t < 5243392) (hr : g.rep e n t) : LO P g e (va_up D 17 (upd (D 17) a ((D 17 a) ||| (1 <<< (nI n &&& 31))))) K := by
  refine h.frame (by rw [va_up_n _ _ (by decide)]) (by rw [va_up_n _ _ (by decide)]) (fun q _ _ h17 => va_up_n _ _ h17) (fun x k h1 h2 h3 h4 m hm hb => ?_) (fun fx p h1 h2 h3 h4 => ?_)
  rotate_left
  · rw [va_up_s]
    obtain ⟨c, _, htr, _⟩ := h.tab
    rcases htr.b2 fx h1 with ⟨z, _⟩ | ⟨i, i1, i2, _⟩
    · exact absurd z h2
    · have hu := (htr.u1 i fx i1 h1 i2 h3).2 p h4
      rw [pk_un (fun z => hva (by rw [← z, hu]; decide))]
      exact h.hz fx p h1 h2 h3 h4
  rw [va_up_s] at hb
  by_cases z : x = a
  · subst z
    rw [pk_us, bt_set _ hn (by
      rcases Nat.lt_or_ge m 32 with y | y
      · exact y
      · rw [b_big y] at hb; cases hb)] at hb
    simp only [Bool.or_eq_true, decide_eq_true_eq] at hb
    rw [ht] at h3
    have := nI_inj (by omega) (by omega) h3
    subst this
    rcases hb with hb | hb
    · exact h.hd x t h1 h2 ht htb m hm hb
    · rw [hb]; exact hr
  · rw [pk_un z] at hb
    exact h.hd x k h1 h2 h3 h4 m hm hb
/-- judge -/
theorem judge_lem {P : Pm} {g : Gh} {e : Nat} {me : Int32} {u b : Nat → Int32} {D : Nat → Nat → Int32} {K A : Int64} {Y : List Mg} (h : LO P g e D K) (hgg : 0 < P.gg) (hnn : P.nn ≤ 6) {t n : Nat} (ht : t < 5243392) (hn : n < P.nn) (hr : g.rep e n t) (hmb : ∀ i, P.nn ≤ i → bt (msk P g e t) i = false) :
    ∃ (y : Int32) (D' : Nat → Nat → Int32), F_76 P.nn P.gg P.C me P.f u b D K A Y (nI t) (nI n) = (y, D', K, A, Y) ∧ LO P g e D' K ∧ (∀ q, q ≠ 17 → D' q = D q) ∧ (y = 0 ∨ y = 1 ∨ y = 2) ∧
      (y = 1 → (¬ knA K (D 10 9) = 0 ∧ (∀ a, plc (D 11) t a → ¬ D 16 a = nI (t % 512)) ∧ ¬ D 16 960 < nI (t % 512)) ∨ (bt (msk P g e t) n = false ∧ sec P g e t)) := by
  unfold F_76
  rcases h.find hgg ht with ⟨z1, z2⟩ | ⟨a, a1, a2, a3, a4, a5, a6⟩
  · rw [if_pos z1]
    by_cases c : knA K (D 10 9) = 0
    · rw [if_pos c]
      exact ⟨2, D, rfl, h, fun _ _ => rfl, Or.inr (Or.inr rfl), fun z => absurd z (by decide)⟩
    · rw [if_neg c, ver_t (by omega)]
      by_cases d : D 16 960 < nI (t % 512)
      · rw [if_pos d]
        exact ⟨2, D, rfl, h, fun _ _ => rfl, Or.inr (Or.inr rfl), fun z => absurd z (by decide)⟩
      · rw [if_neg d]
        exact ⟨1, D, rfl, h, fun _ _ => rfl, Or.inr (Or.inl rfl), fun _ => Or.inl ⟨c, z2, d⟩⟩
  · have hcl : (fndI (D 15) (D 16) (nI t)).toNatClampNeg = a := by rw [a2, nI_clamp (by omega)]
    rw [if_neg (by rw [a2]; exact nIneg (by omega)), bnN_e, hcl, a6]
    have hLO := h.hold (show n < 32 by omega) (by rw [a4]; exact nI_pos (by omega)) a5 ht hr
    have keep : ∀ q, q ≠ 17 → va_up D 17 (upd (D 17) a ((D 17 a) ||| (1 <<< (nI n &&& 31)))) q = D q := fun q hq => va_up_n _ _ hq
    by_cases c : ((msk P g e t) >>> (nI n &&& 31)) &&& 1 = 0
    · rw [if_pos c]
      have hbn := (bitz _ (show n < 32 by omega)).mp c
      by_cases d : msk P g e t = 0
      · rw [if_pos d]
        exact ⟨2, _, rfl, hLO, keep, Or.inr (Or.inr rfl), fun z => absurd z (by decide)⟩
      · rw [if_neg d]
        by_cases q : (upd (D 17) a ((D 17 a) ||| (1 <<< (nI n &&& 31))) a) &&& (msk P g e t) = msk P g e t
        · rw [if_neg (fun z => z q)]
          refine ⟨1, _, rfl, hLO, keep, Or.inr (Or.inl rfl), fun _ => Or.inr ⟨hbn, h.l1.2.2.1, d, fun m hm hbm => ?_⟩⟩
          have hb := (bt_sub _ _).mp q m (by omega) hbm
          refine hLO.hd a t a1 ?_ ?_ ht m hm ?_
          · rw [keep 16 (by decide), a4]; exact nI_pos (by omega)
          · rw [keep 16 (by decide), keep 11 (by decide)]; exact a5
          · rw [va_up_s]; exact hb
        · rw [if_pos q]
          exact ⟨2, _, rfl, hLO, keep, Or.inr (Or.inr rfl), fun z => absurd z (by decide)⟩
    · rw [if_neg c]
      exact ⟨0, _, rfl, hLO, keep, Or.inl rfl, fun z => absurd z (by decide)⟩
/-- fetchIfNews: GET or nothing -/
theorem fetch_lem {P : Pm} {g : Gh} {e : Nat} {nn gg : Nat} {C me : Int32} {f u b : Nat → Int32} {D : Nat → Nat → Int32} {K A : Int64} {Y : List Mg} {x k : Int32} (hx : ∃ t, t < 5243392 ∧ x = nI t) (h7 : D 7 7 = nI e) (h8 : D 7 8 = g.mp e) (he : e ≤ g.ep) (hY : MOL P g Y) :
    ∃ (A' : Int64) (Y' : List Mg), F_79 nn gg C me f u b D K A Y x k = (D, K, A', Y') ∧ MOL P g Y' := by
  have hp : MOL P g (pst Y (va_up (mg 6 me k (D 7 7) (D 7 8)) 5 x, fun _ => 0)) := hY.put (MO.m_gt6 (e := e) (by rw [va_up_n _ _ (by decide)]; rfl) (by rw [va_up_n _ _ (by decide)]; exact h7) he (by rw [va_up_n _ _ (by decide)]; exact h8) (by rw [va_up_s]; exact hx))
  unfold F_79
  simp only [bnN_e]
  repeat' split
  all_goals first | exact ⟨_, _, rfl, hY⟩ | exact ⟨_, _, rfl, hp⟩

/-! what is true of a NODE -/
/-- what NODE n told of is still there (H), or it went rightly -/
def Rp (P : Pm) (g : Gh) (n : Nat) (H : Nat → Prop) : Prop := ∀ e k, g.rep e n k → k < 5243392 ∧ g.er n < e → dead P g k ∨ H k ∨ ∃ e', e ≤ e' ∧ bt (msk P g e' k) n = false ∧ sec P g e' k
def NU (P : Pm) (g : Gh) (n e : Nat) (D : Nat → Nat → Int32) (K : Int64) : Prop :=
  (D 0 7 = nI e ∧ e ≤ g.ep ∧ D 0 8 = g.mp e ∧ g.es ≤ e) ∧
  (DUD (Bg P g) D) ∧
  (Rp P g n (fun k => stb D (nI k))) ∧
  (∀ e' k, g.rep e' n k → k < 5243393 ∧ e' ≤ e ∧ g.es ≤ e') ∧
  (inR 961 (D 7 12)) ∧
  (¬ ldB P.f P.nn (nI n) (D 0 8) = 0 → LO P g e D K)
theorem NU.ep {P : Pm} {g : Gh} {n e : Nat} {D : Nat → Nat → Int32} {K : Int64} (h_ : NU P g n e D K) : D 0 7 = nI e ∧ e ≤ g.ep ∧ D 0 8 = g.mp e ∧ g.es ≤ e := h_.1
theorem NU.du {P : Pm} {g : Gh} {n e : Nat} {D : Nat → Nat → Int32} {K : Int64} (h_ : NU P g n e D K) : DUD (Bg P g) D := h_.2.1
theorem NU.rp {P : Pm} {g : Gh} {n e : Nat} {D : Nat → Nat → Int32} {K : Int64} (h_ : NU P g n e D K) : Rp P g n (fun k => stb D (nI k)) := h_.2.2.1
theorem NU.rk {P : Pm} {g : Gh} {n e : Nat} {D : Nat → Nat → Int32} {K : Int64} (h_ : NU P g n e D K) : ∀ e' k, g.rep e' n k → k < 5243393 ∧ e' ≤ e ∧ g.es ≤ e' := h_.2.2.2.1
theorem NU.ni {P : Pm} {g : Gh} {n e : Nat} {D : Nat → Nat → Int32} {K : Int64} (h_ : NU P g n e D K) : inR 961 (D 7 12) := h_.2.2.2.2.1
theorem NU.ld {P : Pm} {g : Gh} {n e : Nat} {D : Nat → Nat → Int32} {K : Int64} (h_ : NU P g n e D K) : ¬ ldB P.f P.nn (nI n) (D 0 8) = 0 → LO P g e D K := h_.2.2.2.2.2
/-- NODE n tells more -/
def NG (g g' : Gh) (n : Nat) : Prop :=
  (Gle g g') ∧
  (∀ e n' k, n' ≠ n → g'.rep e n' k → g.rep e n' k) ∧
  (g'.er = g.er) ∧
  (g'.ops = g.ops) ∧
  (g'.bg = g.bg) ∧
  (g'.mp = g.mp) ∧
  (g'.ep = g.ep) ∧
  (∀ e n' k, g'.rep e n' k → g.rep e n' k ∨ (k < 5243393 ∧ e ≤ g.ep)) ∧
  (g'.hd = g.hd)
theorem NG.le {g g' : Gh} {n : Nat} (h_ : NG g g' n) : Gle g g' := h_.1
theorem NG.ot {g g' : Gh} {n : Nat} (h_ : NG g g' n) : ∀ e n' k, n' ≠ n → g'.rep e n' k → g.rep e n' k := h_.2.1
theorem NG.er {g g' : Gh} {n : Nat} (h_ : NG g g' n) : g'.er = g.er := h_.2.2.1
theorem NG.ops {g g' : Gh} {n : Nat} (h_ : NG g g' n) : g'.ops = g.ops := h_.2.2.2.1
theorem NG.bg {g g' : Gh} {n : Nat} (h_ : NG g g' n) : g'.bg = g.bg := h_.2.2.2.2.1
theorem NG.mp {g g' : Gh} {n : Nat} (h_ : NG g g' n) : g'.mp = g.mp := h_.2.2.2.2.2.1
theorem NG.ep {g g' : Gh} {n : Nat} (h_ : NG g g' n) : g'.ep = g.ep := h_.2.2.2.2.2.2.1
theorem NG.rk {g g' : Gh} {n : Nat} (h_ : NG g g' n) : ∀ e n' k, g'.rep e n' k → g.rep e n' k ∨ (k < 5243393 ∧ e ≤ g.ep) := h_.2.2.2.2.2.2.2.1
theorem NG.hd {g g' : Gh} {n : Nat} (h_ : NG g g' n) : g'.hd = g.hd := h_.2.2.2.2.2.2.2.2
theorem NG.rf (g : Gh) (n : Nat) : NG g g n := ⟨Gle.rf g, fun _ _ _ _ h => h, rfl, rfl, rfl, rfl, rfl, fun _ _ _ h => Or.inl h, rfl⟩
theorem NG.tr {a b c : Gh} {n : Nat} (h : NG a b n) (h2 : NG b c n) : NG a c n := ⟨h.le.tr h2.le, fun e n' k z y => h.ot e n' k z (h2.ot e n' k z y), by rw [h2.er, h.er], by rw [h2.ops, h.ops], by rw [h2.bg, h.bg], by rw [h2.mp, h.mp], by rw [h2.ep, h.ep], fun e n' k z => by
  rcases h2.rk e n' k z with y | ⟨y1, y2⟩
  · exact h.rk e n' k y
  · exact Or.inr ⟨y1, by rw [← h.ep]; exact y2⟩, by rw [h2.hd, h.hd]⟩
theorem NG.tell0 (g : Gh) {e n : Nat} {Q : Nat → Prop} (hQ : ∀ k, Q k → k < 5243393) (he : e ≤ g.ep) : NG g (g.tell e n Q) n := ⟨g.tell_le e n Q, fun e' n' k z y => by
  rcases y with y | ⟨_, y, _⟩
  · exact y
  · exact absurd y z, rfl, rfl, rfl, rfl, rfl, fun e' n' k y => by
  rcases y with y | ⟨y1, _, y3⟩
  · exact Or.inl y
  · exact Or.inr ⟨hQ k y3, by rw [y1]; exact he⟩, rfl⟩
theorem NG.tell (g : Gh) {e n : Nat} {Q : Nat → Prop} (hQ : ∀ k, Q k → k < 5243392) (he : e ≤ g.ep) : NG g (g.tell e n Q) n := NG.tell0 g (fun k z => Nat.lt_succ_of_lt (hQ k z)) he
theorem GO.ng {g g' : Gh} {n : Nat} (hG : GO g) (h : NG g g' n) : GO g' := by
  unfold GO
  rw [h.bg, h.ops]
  exact hG
theorem Rp.mono {P : Pm} {g g' : Gh} {n : Nat} {H H' : Nat → Prop} (hg : Gle g g') (he : g'.er n = g.er n) (h : Rp P g n H) (hn : ∀ e k, g'.rep e n k → k < 5243392 → g.rep e n k ∨ H' k) (hH : ∀ k, H k → H' k) : Rp P g' n H' := fun e k hr hl => by
  rcases hn e k hr hl.1 with z | z
  · rw [he] at hl
    rcases h e k z hl with y | y | ⟨e', y1, y2, y3⟩
    · exact Or.inl (hg.deadM y)
    · exact Or.inr (Or.inl (hH k y))
    · exact Or.inr (Or.inr ⟨e', y1, by rw [hg.mkE y3.1]; exact y2, hg.secM y3⟩)
  · exact Or.inr (Or.inl z)
theorem DU.mono {B B' : (Nat → Int32) → Prop} {dc : Int32} {ff rf sw ow tf : Nat → Int32} (hB : ∀ w, B w → B' w) (h : DU B dc ff rf sw ow tf) : DU B' dc ff rf sw ow tf := by
  obtain ⟨c, hc, ec, h1, h2, h3, h4, h5, h6⟩ := h
  refine ⟨c, hc, ec, h1, h2, h3, fun s hs hw => hB _ (h4 s hs hw), fun s j hs hj e => ?_, h6⟩
  rcases h5 s j hs hj e with z | ⟨z1, z2, z3, z4, z5⟩
  · exact Or.inl z
  · exact Or.inr ⟨z1, z2, z3, hB _ z4, z5⟩
theorem NU.tell0 {P : Pm} {g : Gh} {n e : Nat} {D : Nat → Nat → Int32} {K : Int64} (hG : GO g) (h : NU P g n e D K) {Q : Nat → Prop} (hQ : ∀ k, Q k → k < 5243392 → stb D (nI k)) (hQk : ∀ k, Q k → k < 5243393) : NU P (g.tell e n Q) n e D K := by
  have hle := g.tell_le e n Q
  refine ⟨h.ep, h.du.mono (fun w hw => hle.BgM hw), h.rp.mono hle rfl (fun e' k hr hk => ?_) (fun _ z => z), fun e' k hr => ?_, h.ni, fun z => (h.ld z).mono hle hG.1⟩
  · rcases hr with y | ⟨_, _, y⟩
    · exact Or.inl y
    · exact Or.inr (hQ k y hk)
  · rcases hr with y | ⟨y1, _, y⟩
    · exact h.rk e' k y
    · exact ⟨hQk k y, by omega, by rw [y1]; exact h.ep.2.2.2⟩
theorem NU.tell {P : Pm} {g : Gh} {n e : Nat} {D : Nat → Nat → Int32} {K : Int64} (hG : GO g) (h : NU P g n e D K) {Q : Nat → Prop} (hQ : ∀ k, Q k → stb D (nI k)) (hQk : ∀ k, Q k → k < 5243392) : NU P (g.tell e n Q) n e D K := h.tell0 hG (fun k z _ => hQ k z) (fun k z => Nat.lt_succ_of_lt (hQk k z))
/-- tags are numbers of ITEMS -/
theorem Bg.num {P : Pm} {g : Gh} {w : Nat → Int32} (h : Bg P g w) : ∃ k, k < 5243392 ∧ w 1 = nI k := by
  obtain ⟨⟨k, k1, k2, _⟩, _⟩ := h
  exact ⟨k, k1, k2⟩
theorem NU.num {P : Pm} {g : Gh} {n e : Nat} {D : Nat → Nat → Int32} {K : Int64} (h : NU P g n e D K) {s : Nat} (hs : s < 280) (ht : ¬ D 6 s = -1) : ∃ k, k < 5243392 ∧ D 6 s = nI k := by
  obtain ⟨w, w1, w2⟩ := h.du.tag hs ht
  obtain ⟨k, k1, k2⟩ := w1.num
  exact ⟨k, k1, by rw [← w2]; exact k2⟩
def NOut (P : Pm) (g : Gh) (n : Nat) (D : Nat → Nat → Int32) (s : St) : Prop := ∃ (g' : Gh) (e' : Nat) (D' : Nat → Nat → Int32) (K' A' : Int64) (Y' : List Mg), s = (D', K', A', Y') ∧ NG g g' n ∧ NU P g' n e' D' K' ∧ MOL P g' Y' ∧ D' 0 6 = D 0 6
theorem neg1 {x : Int32} (h : ¬ x < 0) : ¬ x = -1 := fun e => h (by rw [e]; decide)
/-- list -/
theorem list_lem {P : Pm} {g : Gh} {n e : Nat} {u b : Nat → Int32} {D : Nat → Nat → Int32} {K A : Int64} {Y : List Mg} {to : Int32} (hG : GO g) (hn : n < P.nn) (h : NU P g n e D K) (hY : MOL P g Y) : NOut P g n D (F_56 P.nn P.gg P.C (nI n) P.f u b D K A Y to) := by
  have hQ : ∀ k, (k < 5243392 ∧ stb D (nI k)) → stb D (nI k) := fun k z => z.2
  obtain ⟨a1, a2, a3, _⟩ := ls_sp (tf := D 6) (ow := D 5) 280 0 0 (fun _ => 0)
  have hle := g.tell_le e n (fun k => k < 5243392 ∧ stb D (nI k))
  have hcl := lsC_le (D 6) (D 5) 280 0 0
  refine ⟨_, e, D, K, A, _, rfl, NG.tell g (fun k z => z.1) h.ep.2.1, h.tell hG hQ (fun k z => z.1), (hY.mono hle).put (e := e) (MO.m_ls5 (by rw [va_up_n _ _ (by decide), va_up_n _ _ (by decide)]; rfl) (by rw [va_up_n _ _ (by decide), va_up_n _ _ (by decide)]; exact h.ep.1) h.ep.2.1 (by rw [va_up_n _ _ (by decide), va_up_n _ _ (by decide)]; exact h.ep.2.2.1) ⟨n, hn, by rw [va_up_n _ _ (by decide), va_up_n _ _ (by decide)]; rfl, fun i hi => ?_⟩ (by rw [va_up_s, nI_clamp (by omega)]; omega)), rfl⟩
  rw [va_up_s, nI_clamp (by omega)] at hi
  obtain ⟨m, m1, m2, m3, m4, m5⟩ := a3 i (by omega) hi
  obtain ⟨k, k1, k2⟩ := h.num (show m < 280 by omega) (neg1 m4)
  refine ⟨k, by rw [m3, k2], k1, Or.inr ⟨rfl, rfl, k1, m, by omega, k2, (h.du.ow (by omega)).mp m5⟩⟩
/-- give -/
theorem give_lem {P : Pm} {g : Gh} {n e : Nat} {u b : Nat → Int32} {D : Nat → Nat → Int32} {K A : Int64} {Y : List Mg} {kd t tt ask : Int32} (hG : GO g) (hn : n < P.nn) (ht : ¬ t < 0) (hkd : kd = 7 ∨ kd = 10) (h : NU P g n e D K) (hY : MOL P g Y) : NOut P g n D (F_58 P.nn P.gg P.C (nI n) P.f u b D K A Y kd t tt ask) := by
  have hl : MOL P g (pst Y (va_up (mg 8 (nI n) ask (D 0 7) (D 0 8)) 5 t, fun _ => 0)) := hY.put (e := e) (MO.m_lk (by rw [va_up_n _ _ (by decide)]; rfl) (by rw [va_up_n _ _ (by decide)]; exact h.ep.1) h.ep.2.1 (by rw [va_up_n _ _ (by decide)]; exact h.ep.2.2.1) ⟨n, hn, by rw [va_up_n _ _ (by decide)]; rfl⟩)
  unfold F_58
  rcases sloB_cs (D 6) t with ⟨z1, z2⟩ | ⟨j, j1, j2, j3⟩
  · rw [if_pos z1]
    exact ⟨g, e, D, K, A, _, rfl, NG.rf g n, h, hl, rfl⟩
  · have hcl : (sloB (D 6) t).toNatClampNeg = j := by rw [j2, nI_clamp (by omega)]
    rw [if_neg (by rw [j2]; exact nIneg (by omega)), bnN_e, hcl]
    by_cases c : D 5 j < 0
    · rw [if_pos c]
      have hne : ¬ D 6 j = -1 := by rw [j3]; exact neg1 ht
      obtain ⟨k, k1, k2⟩ := h.num j1 hne
      have ho := (h.du.ow j1).mp c
      have hblk : whB (D 2) j ∧ D 2 (j * 128 + 1) = D 6 j ∧ Bg P g (fun x => D 2 (j * 128 + x)) := by
        obtain ⟨c0, _, _, _, _, h3, h4, _⟩ := h.du
        rcases h3 j j1 ho with ⟨y, _⟩ | ⟨_, y2, y3⟩
        · exact absurd y hne
        · exact ⟨y2, y3, h4 j j1 y2⟩
      have hle := g.tell_le e n (fun x => x = k)
      refine ⟨_, e, D, K, A, _, rfl, NG.tell g (Q := fun x => x = k) (fun x z => by rw [z]; exact k1) h.ep.2.1, h.tell hG (fun x z => by rw [z]; exact ⟨j, j1, k2, ho⟩) (fun x z => by rw [z]; exact k1), (hY.mono hle).put (e := e) ?_, rfl⟩
      have htk : t = nI k := by rw [← j3, k2]
      have hb1 : D 2 (j * 128 + 1) = nI k := by rw [hblk.2.1, k2]
      rcases hkd with y | y
      · subst y
        exact MO.m_it (by rw [va_up_n _ _ (by decide)]; rfl) (by rw [va_up_n _ _ (by decide)]; exact h.ep.1) h.ep.2.1 (by rw [va_up_n _ _ (by decide)]; exact h.ep.2.2.1) ⟨n, k, hn, by rw [va_up_n _ _ (by decide)]; rfl, k1, by rw [va_up_s]; exact htk, hb1, hle.BgM hblk.2.2, Or.inr ⟨rfl, rfl, rfl⟩⟩
      · subst y
        exact MO.m_pu (by rw [va_up_n _ _ (by decide)]; rfl) (by rw [va_up_n _ _ (by decide)]; exact h.ep.1) h.ep.2.1 (by rw [va_up_n _ _ (by decide)]; exact h.ep.2.2.1) ⟨k, k1, by rw [va_up_s]; exact htk, hb1, hle.BgM hblk.2.2⟩
    · rw [if_neg c]
      exact ⟨g, e, D, K, A, _, rfl, NG.rf g n, h, hl, rfl⟩
/-- cells of the DISK change, and nothing goes -/
theorem NU.disk {P : Pm} {g : Gh} {n e : Nat} {D D' : Nat → Nat → Int32} {K : Int64} (h : NU P g n e D K) (hq : ∀ q, q = 0 ∨ 6 < q → D' q = D q) (hd : DUD (Bg P g) D') (hs : ∀ k, k < 5243392 → stb D (nI k) → stb D' (nI k) ∨ dead P g k ∨ (bt (msk P g e k) n = false ∧ sec P g e k)) : NU P g n e D' K := by
  refine ⟨by rw [hq 0 (by omega)]; exact h.ep, hd, fun e' k hr hl => ?_, h.rk, by rw [hq 7 (by omega)]; exact h.ni, fun z => ?_⟩
  · rcases h.rp e' k hr hl with y | y | y
    · exact Or.inl y
    · rcases hs k hl.1 y with w | w | w
      · exact Or.inr (Or.inl w)
      · exact Or.inl w
      · exact Or.inr (Or.inr ⟨e, (h.rk e' k hr).2.1, w⟩)
    · exact Or.inr (Or.inr y)
  · rw [hq 0 (by omega)] at z
    have hL := h.ld z
    exact hL.frame (by rw [hq 7 (by omega)]) (by rw [hq 7 (by omega)]) (fun q h8 _ _ => hq q (by omega)) (fun a k h1 h2 h3 h4 m hm hb => hL.hd a k h1 h2 h3 h4 m hm (by rw [hq 17 (by omega)] at hb; exact hb)) (fun f p h1 h2 h3 h4 => by rw [hq 17 (by omega)]; exact hL.hz f p h1 h2 h3 h4)

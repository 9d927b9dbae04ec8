/-! the reference's act: it keeps what its state must keep -/
theorem d_193_0 : decode (axt_b 193) 0 = .ok (.aload_n 0, 1) := by decide +kernel
theorem d_193_1 : decode (axt_b 193) 1 = .ok (.getfield 77, 3) := by decide +kernel
theorem d_193_4 : decode (axt_b 193) 4 = .ok (.iload_n 1, 1) := by decide +kernel
theorem d_193_5 : decode (axt_b 193) 5 = .ok (.iconst 0, 1) := by decide +kernel
theorem d_193_6 : decode (axt_b 193) 6 = .ok (.iastore, 1) := by decide +kernel
theorem d_193_7 : decode (axt_b 193) 7 = .ok (.aload_n 0, 1) := by decide +kernel
theorem d_193_8 : decode (axt_b 193) 8 = .ok (.iload_n 1, 1) := by decide +kernel
theorem d_193_9 : decode (axt_b 193) 9 = .ok (.iconst 0, 1) := by decide +kernel
theorem d_193_10 : decode (axt_b 193) 10 = .ok (.invokevirtual 139, 3) := by decide +kernel
theorem d_193_13 : decode (axt_b 193) 13 = .ok (.istore_n 3, 1) := by decide +kernel
theorem d_193_14 : decode (axt_b 193) 14 = .ok (.aload_n 0, 1) := by decide +kernel
theorem d_193_15 : decode (axt_b 193) 15 = .ok (.getfield 50, 3) := by decide +kernel
theorem d_193_18 : decode (axt_b 193) 18 = .ok (.iload_n 1, 1) := by decide +kernel
theorem d_193_19 : decode (axt_b 193) 19 = .ok (.iaload, 1) := by decide +kernel
theorem d_193_20 : decode (axt_b 193) 20 = .ok (.tableswitch 151 0 8 #[52, 80, 88, 96, 102, 108, 123, 129, 135], 52) := by decide +kernel
theorem d_193_72 : decode (axt_b 193) 72 = .ok (.iload_n 3, 1) := by decide +kernel
theorem d_193_73 : decode (axt_b 193) 73 = .ok (.ifCond .lt 6, 3) := by decide +kernel
theorem d_193_76 : decode (axt_b 193) 76 = .ok (.bipush (-3), 2) := by decide +kernel
theorem d_193_78 : decode (axt_b 193) 78 = .ok (.ireturn, 1) := by decide +kernel
theorem d_193_79 : decode (axt_b 193) 79 = .ok (.aload_n 0, 1) := by decide +kernel
theorem d_193_80 : decode (axt_b 193) 80 = .ok (.getfield 122, 3) := by decide +kernel
theorem d_193_83 : decode (axt_b 193) 83 = .ok (.bipush 48, 2) := by decide +kernel
theorem d_193_85 : decode (axt_b 193) 85 = .ok (.if_icmp .ne 6, 3) := by decide +kernel
theorem d_193_88 : decode (axt_b 193) 88 = .ok (.bipush (-4), 2) := by decide +kernel
theorem d_193_90 : decode (axt_b 193) 90 = .ok (.ireturn, 1) := by decide +kernel
theorem d_193_91 : decode (axt_b 193) 91 = .ok (.aload_n 0, 1) := by decide +kernel
theorem d_193_92 : decode (axt_b 193) 92 = .ok (.iload_n 1, 1) := by decide +kernel
theorem d_193_93 : decode (axt_b 193) 93 = .ok (.iload_n 2, 1) := by decide +kernel
theorem d_193_94 : decode (axt_b 193) 94 = .ok (.invokevirtual 144, 3) := by decide +kernel
theorem d_193_97 : decode (axt_b 193) 97 = .ok (.pop, 1) := by decide +kernel
theorem d_193_98 : decode (axt_b 193) 98 = .ok (.iconst 0, 1) := by decide +kernel
theorem d_193_99 : decode (axt_b 193) 99 = .ok (.ireturn, 1) := by decide +kernel
theorem d_193_100 : decode (axt_b 193) 100 = .ok (.aload_n 0, 1) := by decide +kernel
theorem d_193_101 : decode (axt_b 193) 101 = .ok (.iload_n 1, 1) := by decide +kernel
theorem d_193_102 : decode (axt_b 193) 102 = .ok (.iload_n 2, 1) := by decide +kernel
theorem d_193_103 : decode (axt_b 193) 103 = .ok (.iconst 0, 1) := by decide +kernel
theorem d_193_104 : decode (axt_b 193) 104 = .ok (.invokevirtual 155, 3) := by decide +kernel
theorem d_193_107 : decode (axt_b 193) 107 = .ok (.ireturn, 1) := by decide +kernel
theorem d_193_108 : decode (axt_b 193) 108 = .ok (.aload_n 0, 1) := by decide +kernel
theorem d_193_109 : decode (axt_b 193) 109 = .ok (.iload_n 1, 1) := by decide +kernel
theorem d_193_110 : decode (axt_b 193) 110 = .ok (.iload_n 2, 1) := by decide +kernel
theorem d_193_111 : decode (axt_b 193) 111 = .ok (.iconst 1, 1) := by decide +kernel
theorem d_193_112 : decode (axt_b 193) 112 = .ok (.invokevirtual 155, 3) := by decide +kernel
theorem d_193_115 : decode (axt_b 193) 115 = .ok (.ireturn, 1) := by decide +kernel
theorem d_193_116 : decode (axt_b 193) 116 = .ok (.aload_n 0, 1) := by decide +kernel
theorem d_193_117 : decode (axt_b 193) 117 = .ok (.iload_n 1, 1) := by decide +kernel
theorem d_193_118 : decode (axt_b 193) 118 = .ok (.invokevirtual 159, 3) := by decide +kernel
theorem d_193_121 : decode (axt_b 193) 121 = .ok (.ireturn, 1) := by decide +kernel
theorem d_193_122 : decode (axt_b 193) 122 = .ok (.aload_n 0, 1) := by decide +kernel
theorem d_193_123 : decode (axt_b 193) 123 = .ok (.iload_n 1, 1) := by decide +kernel
theorem d_193_124 : decode (axt_b 193) 124 = .ok (.invokevirtual 162, 3) := by decide +kernel
theorem d_193_127 : decode (axt_b 193) 127 = .ok (.ireturn, 1) := by decide +kernel
theorem d_193_128 : decode (axt_b 193) 128 = .ok (.iload_n 3, 1) := by decide +kernel
theorem d_193_129 : decode (axt_b 193) 129 = .ok (.ifCond .ge 8, 3) := by decide +kernel
theorem d_193_132 : decode (axt_b 193) 132 = .ok (.bipush (-2), 2) := by decide +kernel
theorem d_193_134 : decode (axt_b 193) 134 = .ok (.goto 8, 3) := by decide +kernel
theorem d_193_137 : decode (axt_b 193) 137 = .ok (.aload_n 0, 1) := by decide +kernel
theorem d_193_138 : decode (axt_b 193) 138 = .ok (.iload_n 3, 1) := by decide +kernel
theorem d_193_139 : decode (axt_b 193) 139 = .ok (.invokevirtual 151, 3) := by decide +kernel
theorem d_193_142 : decode (axt_b 193) 142 = .ok (.ireturn, 1) := by decide +kernel
theorem d_193_143 : decode (axt_b 193) 143 = .ok (.aload_n 0, 1) := by decide +kernel
theorem d_193_144 : decode (axt_b 193) 144 = .ok (.iload_n 1, 1) := by decide +kernel
theorem d_193_145 : decode (axt_b 193) 145 = .ok (.invokevirtual 165, 3) := by decide +kernel
theorem d_193_148 : decode (axt_b 193) 148 = .ok (.ireturn, 1) := by decide +kernel
theorem d_193_149 : decode (axt_b 193) 149 = .ok (.aload_n 0, 1) := by decide +kernel
theorem d_193_150 : decode (axt_b 193) 150 = .ok (.iload_n 1, 1) := by decide +kernel
theorem d_193_151 : decode (axt_b 193) 151 = .ok (.invokevirtual 168, 3) := by decide +kernel
theorem d_193_154 : decode (axt_b 193) 154 = .ok (.ireturn, 1) := by decide +kernel
theorem d_193_155 : decode (axt_b 193) 155 = .ok (.iload_n 3, 1) := by decide +kernel
theorem d_193_156 : decode (axt_b 193) 156 = .ok (.ifCond .ge 8, 3) := by decide +kernel
theorem d_193_159 : decode (axt_b 193) 159 = .ok (.bipush (-2), 2) := by decide +kernel
theorem d_193_161 : decode (axt_b 193) 161 = .ok (.goto 9, 3) := by decide +kernel
theorem d_193_164 : decode (axt_b 193) 164 = .ok (.aload_n 0, 1) := by decide +kernel
theorem d_193_165 : decode (axt_b 193) 165 = .ok (.getfield 40, 3) := by decide +kernel
theorem d_193_168 : decode (axt_b 193) 168 = .ok (.iload_n 3, 1) := by decide +kernel
theorem d_193_169 : decode (axt_b 193) 169 = .ok (.iaload, 1) := by decide +kernel
theorem d_193_170 : decode (axt_b 193) 170 = .ok (.ireturn, 1) := by decide +kernel
theorem d_193_171 : decode (axt_b 193) 171 = .ok (.aload_n 0, 1) := by decide +kernel
theorem d_193_172 : decode (axt_b 193) 172 = .ok (.iload_n 1, 1) := by decide +kernel
theorem d_193_173 : decode (axt_b 193) 173 = .ok (.invokevirtual 171, 3) := by decide +kernel
theorem d_193_176 : decode (axt_b 193) 176 = .ok (.ireturn, 1) := by decide +kernel
def enF (ff pf lf : Nat → Int32) (b n c : Nat) (og : Nat → Int32) (f : Nat) : Nat → Int32 := upd (inF ff pf lf b n c og) (inA ff pf lf b n c og) (nI f)
def l2N (f g c : Nat) (og : Nat → Int32) : Nat := lvN (nI g) (lvN (nI f) c 0 0 og) 0 0 (lvF (nI f) c 0 0 og)
def l2F (f g c : Nat) (og : Nat → Int32) : Nat → Int32 := lvF (nI g) (lvN (nI f) c 0 0 og) 0 0 (lvF (nI f) c 0 0 og)
def ogB (c : Nat) (og : Nat → Int32) : Prop := ∀ i, i < c → ¬ og i < 0 ∧ (og i).toNatClampNeg < 48
theorem ogB.lv {c : Nat} {og : Nat → Int32} {x : Int32} (h : ogB c og) : ogB (lvN x c 0 0 og) (lvF x c 0 0 og) := lv_nn (P := fun x => ¬ x < 0 ∧ x.toNatClampNeg < 48) c 0 0 og (Nat.le_refl _) (fun j hj => absurd hj (by omega)) (fun j _ hj => h j (by omega))
theorem ogB.en {c f b n : Nat} {ff pf lf og : Nat → Int32} (h : ogB c og) (hbf : f < 48) : ogB (c + 1) (enF ff pf lf b n c og f) := in_nn (P := fun x => ¬ x < 0 ∧ x.toNatClampNeg < 48) ⟨nI_pos (by omega), by rw [nI_clamp (show f < 2 ^ 31 by omega)]; exact hbf⟩ h
theorem lv_perm {c f : Nat} {og : Nat → Int32} (h : ogB c og) (hn : (oL og c).Nodup) (hbf : f < 48) (hm : f ∈ oL og c) : (f :: oL (lvF (nI f) c 0 0 og) (lvN (nI f) c 0 0 og)).Perm (oL og c) ∧ lvN (nI f) c 0 0 og + 1 = c := by
  have e := lv_oL (og := og) (c := c) hbf (fun j hj => (h j hj).1)
  have hp := flt_perm hn hm
  rw [← e] at hp
  refine ⟨hp, ?_⟩
  have := hp.length_eq
  rwa [List.length_cons, oL_len, oL_len] at this
theorem en_perm {c f b n : Nat} {ff pf lf og : Nat → Int32} (hbf : f < 48) : (oL (enF ff pf lf b n c og f) (c + 1)).Perm (f :: oL og c) := by
  unfold enF
  rw [in_oL hbf]
  exact ins_perm
theorem inR_upd {N f : Nat} {g : Nat → Int32} {x : Int32} (h : ∀ f, f < 48 → inR N (g f)) (hx : inR N x) : ∀ k, k < 48 → inR N (upd g f x k) := fun k hk => by
  by_cases z : k = f
  · rw [z, pk_us]; exact hx
  · rw [pk_un z]; exact h k hk
theorem FLI.ren {c to f b n : Nat} {ff pf og us lf jf zf : Nat → Int32} (h : FLI c to og us lf jf zf) (hbf : f < 48) (hm : f ∈ oL og c) (hn : n ≤ 200) : FLI (lvN (nI f) c 0 0 og + 1) to (enF ff pf lf b n (lvN (nI f) c 0 0 og) (lvF (nI f) c 0 0 og) f) us (upd lf f (nI n)) jf zf :=
  h.perm ((en_perm hbf).trans (lv_perm h.2.1 h.2.2.1 hbf hm).1) (ogB.en (ogB.lv h.2.1) hbf) (inR_upd h.2.2.2.2.1 ⟨n, by omega, rfl⟩)
theorem FLI.two {c to f g : Nat} {og us lf jf zf : Nat → Int32} (h : FLI c to og us lf jf zf) (hbf : f < 48) (hm : f ∈ oL og c) (hbg : g < 48) (hm2 : g ∈ oL og c) (hgf : g ≠ f) : l2N f g c og + 2 = c ∧ ogB (l2N f g c og) (l2F f g c og) ∧ (f :: g :: oL (l2F f g c og) (l2N f g c og)).Perm (oL og c) := by
  obtain ⟨p1, e1⟩ := lv_perm h.2.1 h.2.2.1 hbf hm
  have hb := ogB.lv (x := nI f) h.2.1
  have hnd : (f :: oL (lvF (nI f) c 0 0 og) (lvN (nI f) c 0 0 og)).Nodup := p1.nodup_iff.mpr h.2.2.1
  have hm3 : g ∈ oL (lvF (nI f) c 0 0 og) (lvN (nI f) c 0 0 og) := (List.mem_cons.mp (p1.mem_iff.mpr hm2)).resolve_left hgf
  obtain ⟨p2, e2⟩ := lv_perm hb (List.nodup_cons.mp hnd).2 hbg hm3
  refine ⟨?_, ogB.lv hb, (p2.cons f).trans p1⟩
  unfold l2N
  omega
theorem FLI.swp {c to f g b b' n n' : Nat} {ff ff' pf og us lf jf zf : Nat → Int32} (h : FLI c to og us lf jf zf) (hbf : f < 48) (hm : f ∈ oL og c) (hbg : g < 48) (hm2 : g ∈ oL og c) (hgf : g ≠ f) (hn : n ≤ 200) (hn' : n' ≤ 200) : FLI (l2N f g c og + 1 + 1) to (enF ff' pf (upd lf f (nI n)) b' n' (l2N f g c og + 1) (enF ff pf lf b n (l2N f g c og) (l2F f g c og) f) g) us (upd (upd lf f (nI n)) g (nI n')) jf zf := by
  obtain ⟨e1, hb, hp⟩ := h.two hbf hm hbg hm2 hgf
  refine h.perm ((en_perm hbg).trans ?_) (ogB.en (ogB.en hb hbf) hbg) (inR_upd (inR_upd h.2.2.2.2.1 ⟨n, by omega, rfl⟩) ⟨n', by omega, rfl⟩)
  exact ((en_perm hbf).cons g).trans ((List.Perm.swap f g _).trans hp)
def OPI (w : Nat) (M : Nat → Nat → Int32) : Prop := inR 10 (M 27 w) ∧ (M 27 w = 1 ∨ M 27 w = 3 ∨ M 27 w = 4 → inR 8193 (M 28 w)) ∧ (M 27 w = 4 → inR 2049 (M 29 w)) ∧ inR 201 (M 31 (2 * w)) ∧ inR 201 (M 31 (2 * w + 1)) ∧ inR 2049 (M 33 w)
def FLM (M : Nat → Nat → Int32) : Prop := ∃ c to : Nat, M 0 20 = nI c ∧ M 0 21 = nI to ∧ FLI c to (M 12) (M 13) (M 15) (M 16) (M 17)
/-- what act leaves as it was -/
def KM (M M' : Nat → Nat → Int32) : Prop := (∀ k, k ≠ 20 → k ≠ 21 → M' 0 k = M 0 k) ∧ M' 8 = M 8 ∧ M' 10 = M 10 ∧ M' 11 = M 11 ∧ M' 27 = M 27 ∧ M' 28 = M 28 ∧ M' 29 = M 29 ∧ M' 30 = M 30 ∧ M' 31 = M 31 ∧ M' 32 = M 32 ∧ M' 33 = M 33 ∧ M' 34 = M 34
theorem nI_tz {to y z : Nat} (h : y ≤ to) (hz : z ≤ 8192) (ht : to ≤ 32768) : nI to + (nI z - nI y) = nI (to - y + z) := by
  have e : nI to = nI (to - y) + nI y := by rw [nI_add]; congr 1; omega
  have e2 : nI y + (nI z - nI y) = nI z := by
    rw [Int32.add_comm, Int32.sub_add_cancel]
  rw [e, Int32.add_assoc, e2, nI_add]
theorem inR_up12 {N f : Nat} {g : Nat → Int32} {x : Int32} (h : ∀ f, f < 12 → inR N (g f)) (hx : inR N x) : ∀ k, k < 12 → inR N (upd g f x k) := fun k hk => by
  by_cases z : k = f
  · rw [z, pk_us]; exact hx
  · rw [pk_un z]; exact h k hk
theorem nxA_end {ff pf lf og : Nat → Int32} {b n c : Nat} (h : ¬ nxA ff pf lf b n og c 0 < c) : nxA ff pf lf b n og c 0 = c := by
  have key : ∀ (k i : Nat), nxA ff pf lf b n og k i ≤ i + k := by
    intro k
    induction k with
    | zero => intro i; exact Nat.le_refl _
    | succ k ih =>
      intro i
      unfold nxA
      split
      · have := ih (i + 1)
        omega
      · omega
  have := key c 0
  omega
set_option maxRecDepth 100000 in
theorem r_193 {L : Nat} {xs : Nat → Int32} {fr lo : Nat} {m p al AL : Nat} {h0 h : ax_H} {M : Nat → Nat → Int32}  (hfr : 5 ≤ fr) (hlo : 180 ≤ lo) (hC : RC m p al) (hS : RS m p al AL h0 h M) {w d : Nat} (hw : w < 12) (hd : d < 512) (hFL : FLM M) (hO : OPI w M) : ax_M L xs 193 fr lo [.ref m, .int (nI w), .int (nI d)] h (fun r h' => ∃ (y : Int32) (M' : Nat → Nat → Int32), r = some (.int y) ∧ RS m p al AL h0 h' M' ∧ FLM M' ∧ KM M M' ∧ ((∀ x, x < 12 → inR 2049 (M 36 x)) → ∀ x, x < 12 → inR 2049 (M' 36 x))) := by
  have hC0 := hC
  show ax_A (ax_step L xs) ((193, 0, fr, lo), [(0, .ref m), (1, .int (nI w)), (2, .int (nI d))], [], h) _
  obtain ⟨hmp, hal, hm0⟩ := hC
  obtain ⟨hF, hf, hn, hs, hp0⟩ := hS
  replace hF : ax_hs h [cRo m p al M, cRB p 2048 (M 8), cRB (p + 1) 400 (M 10), cRI (p + 2) 2 (M 11), cRI (p + 3) 48 (M 12), cRZ (p + 4) 48 (M 13), cRB (p + 5) 9600 (M 14), cRI (p + 6) 48 (M 15), cRI (p + 7) 48 (M 16), cRI (p + 8) 48 (M 17), cRB (p + 9) 393216 (M 18), cRZ (p + 10) 912 (M 19), cRI (p + 11) 12 (M 27), cRI (p + 12) 12 (M 28), cRI (p + 13) 12 (M 29), cRB (p + 14) 4800 (M 30), cRI (p + 15) 24 (M 31), cRB (p + 16) 24576 (M 32), cRI (p + 17) 12 (M 33), cRI al AL (M 34), cRI (p + 19) 24576 (M 35), cRI (p + 20) 12 (M 36)] := hF
  obtain ⟨c, to, e20, e21, hI⟩ := hFL
  obtain ⟨hk, h28, h29, ⟨n1, hn1, en1⟩, ⟨n3, hn3, en3⟩, ⟨t, ht, et⟩⟩ := hO
  have hlf := hI.lf
  have hog := hI.2.1
  have hc := hI.1
  have en1 : M 31 (2 * w + 0) = nI n1 := en1
  have q20 : (RV p al (M 0))[20]? = some (.int (nI c)) := by rw [← e20]; rfl
  have q21 : (RV p al (M 0))[21]? = some (.int (nI to)) := by rw [← e21]; rfl
  refine ar_aload_n 1 d_193_0 rfl rfl ?_
  refine ar_getf 4 d_193_1 rfl (ci := 11) (k := 36) rfl (hF.at 0 rfl) (show _ = some (.ref (p + 20)) from rfl) ?_
  refine ar_iload_n 5 d_193_4 rfl rfl ?_
  refine ar_iconst 6 (v := 0) d_193_5 rfl (by decide) ?_
  refine ar_iast 7 d_193_6 rfl (hF.at 21 rfl) (vin (by omega) (by omega)) ?_
  replace hF : ax_hs (ax_put h (p + 20) (.inl (0, 12, .inl (upd (M 36) (nI w).toNatClampNeg 0)))) [cRo m p al M, cRB p 2048 (M 8), cRB (p + 1) 400 (M 10), cRI (p + 2) 2 (M 11), cRI (p + 3) 48 (M 12), cRZ (p + 4) 48 (M 13), cRB (p + 5) 9600 (M 14), cRI (p + 6) 48 (M 15), cRI (p + 7) 48 (M 16), cRI (p + 8) 48 (M 17), cRB (p + 9) 393216 (M 18), cRZ (p + 10) 912 (M 19), cRI (p + 11) 12 (M 27), cRI (p + 12) 12 (M 28), cRI (p + 13) 12 (M 29), cRB (p + 14) 4800 (M 30), cRI (p + 15) 24 (M 31), cRB (p + 16) 24576 (M 32), cRI (p + 17) 12 (M 33), cRI al AL (M 34), cRI (p + 19) 24576 (M 35), (p + 20, .inl (0, 12, .inl (upd (M 36) (nI w).toNatClampNeg 0)))] := hF.put 21 _ rfl rfl
  replace hf := hf.put (a := p + 20) (c := .inl (0, 12, .inl (upd (M 36) (nI w).toNatClampNeg 0))) (show m ≤ p + 20 by omega)
  replace hn : (ax_put h (p + 20) (.inl (0, 12, .inl (upd (M 36) (nI w).toNatClampNeg 0)))).1 = h0.1 := hn
  replace hs : (ax_put h (p + 20) (.inl (0, 12, .inl (upd (M 36) (nI w).toNatClampNeg 0)))).2.1 = h0.2.1 := hs
  generalize ax_put h (p + 20) (.inl (0, 12, .inl (upd (M 36) (nI w).toNatClampNeg 0))) = hp_1 at hF hf hn hs ⊢
  replace hF : ax_hs hp_1 [cRo m p al M, cRB p 2048 (M 8), cRB (p + 1) 400 (M 10), cRI (p + 2) 2 (M 11), cRI (p + 3) 48 (M 12), cRZ (p + 4) 48 (M 13), cRB (p + 5) 9600 (M 14), cRI (p + 6) 48 (M 15), cRI (p + 7) 48 (M 16), cRI (p + 8) 48 (M 17), cRB (p + 9) 393216 (M 18), cRZ (p + 10) 912 (M 19), cRI (p + 11) 12 (M 27), cRI (p + 12) 12 (M 28), cRI (p + 13) 12 (M 29), cRB (p + 14) 4800 (M 30), cRI (p + 15) 24 (M 31), cRB (p + 16) 24576 (M 32), cRI (p + 17) 12 (M 33), cRI al AL (M 34), cRI (p + 19) 24576 (M 35), (p + 20, .inl (0, 12, .inl (upd (M 36) w 0)))] := by
    have e := hF
    rw [nI_clamp (show w < 2 ^ 31 by omega)] at e
    exact e
  refine ar_aload_n 8 d_193_7 rfl rfl ?_
  refine ar_iload_n 9 d_193_8 rfl rfl ?_
  refine ar_iconst 10 (v := 0) d_193_9 rfl (by decide) ?_
  refine ar_call (r := []) (na := 0) (kd := 0) (cm := 194) (fr2 := fr - 1) (lo2 := lo - 23) 13 d_193_10 (ar_hoV (as := [.int (nI w), .int 0]) rfl rfl rfl (hF.at 0 rfl)) rfl (by omega) (show lo - 23 + (19 + 4) = lo by omega) (Nat.le_of_ble_eq_true rfl) (Nat.le_of_ble_eq_true rfl) (n_194 (by omega) (by omega) hc hw (show 0 < 2 by decide) en1 (by omega) hog hlf (hF.at 0 rfl) rfl rfl rfl q20 rfl rfl (hF.at 4 rfl) (hF.at 6 rfl) (hF.at 7 rfl) (hF.at 15 rfl) (hF.at 16 rfl)) ?_
  intro v hh hq
  obtain ⟨rfl, ehh⟩ := hq
  rw [ehh]
  clear ehh
  refine ar_istore_n 14 [(0, .ref m), (1, .int (nI w)), (2, .int (nI d)), (3, .int (mfnd (M 14) (M 30) (M 15) (M 12) (400 * w + 200 * 0) n1 c 0))] d_193_13 rfl (by decide) rfl ?_
  refine ar_aload_n 15 d_193_14 rfl rfl ?_
  refine ar_getf 18 d_193_15 rfl (ci := 11) (k := 27) rfl (hF.at 0 rfl) (show _ = some (.ref (p + 11)) from rfl) ?_
  refine ar_iload_n 19 d_193_18 rfl rfl ?_
  refine ar_iald 20 d_193_19 rfl (hF.at 12 rfl) (vin (by omega) (by omega)) ?_
  refine ar_top (x' := M 27 w) (by rw [nI_clamp (show w < 2 ^ 31 by omega)]) ?_
  obtain ⟨kd, hkd, ekd⟩ := hk
  have hkc : kd = 0 ∨ kd = 1 ∨ kd = 2 ∨ kd = 3 ∨ kd = 4 ∨ kd = 5 ∨ kd = 6 ∨ kd = 7 ∨ kd = 8 ∨ kd = 9 := by omega
  rcases hkc with rfl | rfl | rfl | rfl | rfl | rfl | rfl | rfl | rfl | rfl
  · have hk9 : M 27 w = 0 := ekd
    refine ar_tabIn 72 d_193_20 (by rw [hk9]; decide) (by rw [hk9]; rfl) (by decide) ?_
    rcases hI.fnd (M 14) (M 30) (400 * w + 200 * 0) n1 with hvf | ⟨f, hbf, hm, hvf⟩
    · rw [hvf]
      refine ar_iload_n 73 d_193_72 rfl rfl ?_
      refine ar_if_lt 79 76 d_193_73 (by decide) rfl (fun _ => ?_) (fun c => absurd (by decide) c)
      refine ar_aload_n 80 d_193_79 rfl rfl ?_
      refine ar_getf 83 d_193_80 rfl (ci := 11) (k := 20) rfl (hF.at 0 rfl) (show _ = some (.int ((M 0) 20)) from rfl) ?_
      refine ar_top (x' := nI c) (e20) ?_
      refine ar_bipush 85 (v := 48) d_193_83 rfl (by decide) ?_
      refine ar_icmp_ne 91 88 d_193_85 (by decide) rfl (fun c1 => ?_) (fun c1 => ?_)
      · have hc7 : c ≤ 47 := by
          have h1 : ¬ c = 48 := fun z => c1 (by rw [z]; rfl)
          omega
        obtain ⟨hfr1, hfr2⟩ := hI.free hc7
        refine ar_aload_n 92 d_193_91 rfl rfl ?_
        refine ar_iload_n 93 d_193_92 rfl rfl ?_
        refine ar_iload_n 94 d_193_93 rfl rfl ?_
        refine ar_call (r := []) (na := 0) (kd := 0) (cm := 196) (fr2 := fr - 1) (lo2 := lo - 24) 97 d_193_94 (ar_hoV (as := [.int (nI w), .int (nI d)]) rfl rfl rfl (hF.at 0 rfl)) rfl (by omega) (show lo - 24 + (19 + 5) = lo by omega) (Nat.le_of_ble_eq_true rfl) (Nat.le_of_ble_eq_true rfl) (n_196 (by omega) (by omega) hw en1 (by omega) hlf hog hfr1 hc7 rfl rfl rfl rfl rfl rfl rfl rfl q20 rfl rfl (hF.sub (F' := [cRo m p al M, cRI (p + 3) 48 (M 12), cRZ (p + 4) 48 (M 13), cRB (p + 5) 9600 (M 14), cRI (p + 6) 48 (M 15), cRI (p + 7) 48 (M 16), cRI (p + 8) 48 (M 17), cRZ (p + 10) 912 (M 19), cRB (p + 14) 4800 (M 30), cRI (p + 15) 24 (M 31)]) [0, 4, 5, 6, 7, 8, 9, 11, 15, 16] rfl rfl) rfl rfl (by omega)) ?_
        intro v hp_2 hq
        obtain ⟨f1, fs1, hf1, rfl, yl, y20, yO, qF, qn, qs, qf⟩ := hq
        obtain rfl : fs1 = RV p al (upd (M 0) 20 (nI (c + 1))) := set1 (fs := RV p al (M 0)) yl (show 20 < 39 by decide) y20 yO
        clear yl yO y20
        have qF : ax_hs hp_2 [(m, .inr (11, RV p al (upd (M 0) 20 (nI (c + 1))))), (p + 3, .inl (0, 48, .inl (enF (M 14) (M 30) (M 15) (400 * w + 200 * 0) n1 c (M 12) f1))), (p + 4, .inl (2, 48, .inl (upd (M 13) f1 (vp_nar .boolean 1)))), (p + 5, .inl (1, 9600, .inl (rgF (fun i => vp_nar .byte (M 30 ((400 * w + 200 * 0) + i))) (200 * f1) n1 (M 14)))), (p + 6, .inl (0, 48, .inl (upd (M 15) f1 (nI n1)))), (p + 7, .inl (0, 48, .inl (upd (M 16) f1 (nI d)))), (p + 8, .inl (0, 48, .inl (upd (M 17) f1 0))), (p + 10, .inl (2, 912, .inl (rgF (fun _ => vp_nar .boolean 0) (19 * f1) 19 (M 19)))), cRB (p + 14) 4800 (M 30), cRI (p + 15) 24 (M 31)] := qF
        replace hF : ax_hs hp_2 [cRB p 2048 (M 8), cRB (p + 1) 400 (M 10), cRI (p + 2) 2 (M 11), cRB (p + 9) 393216 (M 18), cRI (p + 11) 12 (M 27), cRI (p + 12) 12 (M 28), cRI (p + 13) 12 (M 29), cRB (p + 16) 24576 (M 32), cRI (p + 17) 12 (M 33), cRI al AL (M 34), cRI (p + 19) 24576 (M 35), (p + 20, .inl (0, 12, .inl (upd (M 36) w 0))), (m, .inr (11, RV p al (upd (M 0) 20 (nI (c + 1))))), (p + 3, .inl (0, 48, .inl (enF (M 14) (M 30) (M 15) (400 * w + 200 * 0) n1 c (M 12) f1))), (p + 4, .inl (2, 48, .inl (upd (M 13) f1 (vp_nar .boolean 1)))), (p + 5, .inl (1, 9600, .inl (rgF (fun i => vp_nar .byte (M 30 ((400 * w + 200 * 0) + i))) (200 * f1) n1 (M 14)))), (p + 6, .inl (0, 48, .inl (upd (M 15) f1 (nI n1)))), (p + 7, .inl (0, 48, .inl (upd (M 16) f1 (nI d)))), (p + 8, .inl (0, 48, .inl (upd (M 17) f1 0))), (p + 10, .inl (2, 912, .inl (rgF (fun _ => vp_nar .boolean 0) (19 * f1) 19 (M 19)))), cRB (p + 14) 4800 (M 30), cRI (p + 15) 24 (M 31)] := ax_hs.call (rest := [cRB p 2048 (M 8), cRB (p + 1) 400 (M 10), cRI (p + 2) 2 (M 11), cRB (p + 9) 393216 (M 18), cRI (p + 11) 12 (M 27), cRI (p + 12) 12 (M 28), cRI (p + 13) 12 (M 29), cRB (p + 16) 24576 (M 32), cRI (p + 17) 12 (M 33), cRI al AL (M 34), cRI (p + 19) 24576 (M 35), (p + 20, .inl (0, 12, .inl (upd (M 36) w 0)))]) [0, 4, 5, 6, 7, 8, 9, 11, 15, 16] [1, 2, 3, 10, 12, 13, 14, 17, 18, 19, 20, 21] hF qf qF rfl rfl rfl [0, 4, 5, 6, 7, 8, 9, 11] rfl rfl [0, 4, 5, 6, 7, 8, 9, 11, 15, 16] (news := []) rfl rfl (fun _ z => absurd z List.not_mem_nil) rfl
        replace hF := hF.sub (F' := [(m, .inr (11, RV p al (upd (M 0) 20 (nI (c + 1))))), cRB p 2048 (M 8), cRB (p + 1) 400 (M 10), cRI (p + 2) 2 (M 11), (p + 3, .inl (0, 48, .inl (enF (M 14) (M 30) (M 15) (400 * w + 200 * 0) n1 c (M 12) f1))), (p + 4, .inl (2, 48, .inl (upd (M 13) f1 (vp_nar .boolean 1)))), (p + 5, .inl (1, 9600, .inl (rgF (fun i => vp_nar .byte (M 30 ((400 * w + 200 * 0) + i))) (200 * f1) n1 (M 14)))), (p + 6, .inl (0, 48, .inl (upd (M 15) f1 (nI n1)))), (p + 7, .inl (0, 48, .inl (upd (M 16) f1 (nI d)))), (p + 8, .inl (0, 48, .inl (upd (M 17) f1 0))), cRB (p + 9) 393216 (M 18), (p + 10, .inl (2, 912, .inl (rgF (fun _ => vp_nar .boolean 0) (19 * f1) 19 (M 19)))), cRI (p + 11) 12 (M 27), cRI (p + 12) 12 (M 28), cRI (p + 13) 12 (M 29), cRB (p + 14) 4800 (M 30), cRI (p + 15) 24 (M 31), cRB (p + 16) 24576 (M 32), cRI (p + 17) 12 (M 33), cRI al AL (M 34), cRI (p + 19) 24576 (M 35), (p + 20, .inl (0, 12, .inl (upd (M 36) w 0)))]) [12, 0, 1, 2, 13, 14, 15, 16, 17, 18, 3, 19, 4, 5, 6, 20, 21, 7, 8, 9, 10, 11] rfl rfl
        replace hf := hf.trC qf (fun x _ z => by simp only [List.mem_cons, List.not_mem_nil, or_false] at z; show m ≤ x; omega)
        replace hn : hp_2.1 = h0.1 := by omega
        replace hs : hp_2.2.1 = h0.2.1 := by omega
        clear qF qn qs qf
        refine ar_pop 98 d_193_97 rfl rfl ?_
        refine ar_iconst 99 (v := 0) d_193_98 rfl (by decide) ?_
        have hS9 : RS m p al AL h0 hp_2 (va_up (va_up (va_up (va_up (va_up (va_up (va_up (va_up (va_up M 0 (upd (M 0) 20 (nI (c + 1)))) 12 (enF (M 14) (M 30) (M 15) (400 * w + 200 * 0) n1 c (M 12) f1)) 13 (upd (M 13) f1 (vp_nar .boolean 1))) 14 (rgF (fun i => vp_nar .byte (M 30 ((400 * w + 200 * 0) + i))) (200 * f1) n1 (M 14))) 15 (upd (M 15) f1 (nI n1))) 16 (upd (M 16) f1 (nI d))) 17 (upd (M 17) f1 0)) 19 (rgF (fun _ => vp_nar .boolean 0) (19 * f1) 19 (M 19))) 36 (upd (M 36) w 0)) := ⟨hF, hf, hn, hs, hp0⟩
        exact ar_iret d_193_99 rfl rfl (⟨_, _, rfl, hS9, ⟨c + 1, to, rfl, e21, by rw [hf1]; exact hI.made hc7 hfr1 hfr2 (by omega) (by omega)⟩, ⟨fun k h20 h21 => by
          show upd (M 0) 20 (nI (c + 1)) k = M 0 k
          rw [pk_un h20], rfl, rfl, rfl, rfl, rfl, rfl, rfl, rfl, rfl, rfl, rfl⟩, fun hT x hx => inR_up12 hT ⟨0, by decide, rfl⟩ x hx⟩)
      · refine ar_bipush 90 (v := -4) d_193_88 rfl (by decide) ?_
        have hS9 : RS m p al AL h0 hp_1 (va_up M 36 (upd (M 36) w 0)) := ⟨hF, hf, hn, hs, hp0⟩
        exact ar_iret d_193_90 rfl rfl (⟨_, _, rfl, hS9, ⟨c, to, e20, e21, hI⟩, ⟨fun k h20 h21 => rfl, rfl, rfl, rfl, rfl, rfl, rfl, rfl, rfl, rfl, rfl, rfl⟩, fun hT x hx => inR_up12 hT ⟨0, by decide, rfl⟩ x hx⟩)
    · rw [hvf]
      refine ar_iload_n 73 d_193_72 rfl rfl ?_
      refine ar_if_lt 79 76 d_193_73 (by decide) rfl (fun c => absurd c (nI_pos (by omega))) (fun _ => ?_)
      refine ar_bipush 78 (v := -3) d_193_76 rfl (by decide) ?_
      have hS9 : RS m p al AL h0 hp_1 (va_up M 36 (upd (M 36) w 0)) := ⟨hF, hf, hn, hs, hp0⟩
      exact ar_iret d_193_78 rfl rfl (⟨_, _, rfl, hS9, ⟨c, to, e20, e21, hI⟩, ⟨fun k h20 h21 => rfl, rfl, rfl, rfl, rfl, rfl, rfl, rfl, rfl, rfl, rfl, rfl⟩, fun hT x hx => inR_up12 hT ⟨0, by decide, rfl⟩ x hx⟩)
  · have hk9 : M 27 w = 1 := ekd
    refine ar_tabIn 100 d_193_20 (by rw [hk9]; decide) (by rw [hk9]; rfl) (by decide) ?_
    refine ar_aload_n 101 d_193_100 rfl rfl ?_
    refine ar_iload_n 102 d_193_101 rfl rfl ?_
    refine ar_iload_n 103 d_193_102 rfl rfl ?_
    refine ar_iconst 104 (v := 0) d_193_103 rfl (by decide) ?_
    rcases hI.fnd (M 14) (M 30) (400 * w + 200 * 0) n1 with hvf | ⟨f, hbf, hm, hvf⟩
    · obtain ⟨a, ha, ea⟩ := h28 (Or.inl hk9)
      obtain ⟨z, hz⟩ : ∃ z : Nat, (t = 0 ∧ z = 0) ∨ (0 < t ∧ z = a + t) := by
        by_cases q1 : t = 0
        · exact ⟨0, Or.inl ⟨q1, rfl⟩⟩
        · exact ⟨a + t, Or.inr ⟨by omega, rfl⟩⟩
      by_cases hfu : c = 48 ∨ 8192 < z ∨ 32768 < to + z
      · refine ar_call (r := []) (na := 0) (kd := 0) (cm := 198) (fr2 := fr - 1) (lo2 := lo - 29) 107 d_193_104 (ar_hoV (as := [.int (nI w), .int (nI d), .int 0]) rfl rfl rfl (hF.at 0 rfl)) rfl (by omega) (show lo - 29 + (19 + 10) = lo by omega) (Nat.le_of_ble_eq_true rfl) (Nat.le_of_ble_eq_true rfl) (n_198G0 (by omega) (by omega) hc hw en1 (by omega) hog hlf hvf et (by omega) ea (by omega) hz hI.2.2.2.2.2.2.2.2 hfu rfl rfl rfl rfl rfl rfl rfl rfl q20 q21 rfl rfl rfl rfl rfl (hF.sub (F' := [cRo m p al M, cRI (p + 3) 48 (M 12), cRB (p + 5) 9600 (M 14), cRI (p + 6) 48 (M 15), cRB (p + 14) 4800 (M 30), cRI (p + 15) 24 (M 31), cRZ (p + 4) 48 (M 13), cRI (p + 7) 48 (M 16), cRI (p + 8) 48 (M 17), cRB (p + 9) 393216 (M 18), cRZ (p + 10) 912 (M 19), cRI (p + 12) 12 (M 28), cRB (p + 16) 24576 (M 32), cRI (p + 17) 12 (M 33)]) [0, 4, 6, 7, 15, 16, 5, 8, 9, 10, 11, 13, 17, 18] rfl rfl)) ?_
        intro v hh hq
        obtain ⟨rfl, ehh⟩ := hq
        rw [ehh]
        clear ehh
        have hS9 : RS m p al AL h0 hp_1 (va_up M 36 (upd (M 36) w 0)) := ⟨hF, hf, hn, hs, hp0⟩
        exact ar_iret d_193_107 rfl rfl (⟨_, _, rfl, hS9, ⟨c, to, e20, e21, hI⟩, ⟨fun k h20 h21 => rfl, rfl, rfl, rfl, rfl, rfl, rfl, rfl, rfl, rfl, rfl, rfl⟩, fun hT x hx => inR_up12 hT ⟨0, by decide, rfl⟩ x hx⟩)
      · have hc7 : c ≤ 47 := by omega
        obtain ⟨hfr1, hfr2⟩ := hI.free hc7
        refine ar_call (r := []) (na := 0) (kd := 0) (cm := 198) (fr2 := fr - 1) (lo2 := lo - 29) 107 d_193_104 (ar_hoV (as := [.int (nI w), .int (nI d), .int 0]) rfl rfl rfl (hF.at 0 rfl)) rfl (by omega) (show lo - 29 + (19 + 10) = lo by omega) (Nat.le_of_ble_eq_true rfl) (Nat.le_of_ble_eq_true rfl) (n_198M0 (by omega) (by omega) hc hw en1 (by omega) hog hlf hvf et (by omega) ea (by omega) hz hI.2.2.2.2.2.2.2.2 hfr1 hc7 (by omega) (by omega) rfl rfl rfl rfl rfl rfl rfl rfl rfl q20 q21 rfl rfl rfl rfl rfl (hF.sub (F' := [cRo m p al M, cRI (p + 3) 48 (M 12), cRB (p + 5) 9600 (M 14), cRI (p + 6) 48 (M 15), cRB (p + 14) 4800 (M 30), cRI (p + 15) 24 (M 31), cRZ (p + 4) 48 (M 13), cRI (p + 7) 48 (M 16), cRI (p + 8) 48 (M 17), cRB (p + 9) 393216 (M 18), cRZ (p + 10) 912 (M 19), cRI (p + 12) 12 (M 28), cRB (p + 16) 24576 (M 32), cRI (p + 17) 12 (M 33)]) [0, 4, 6, 7, 15, 16, 5, 8, 9, 10, 11, 13, 17, 18] rfl rfl) rfl rfl (by omega)) ?_
        intro v hp_4 hq
        obtain ⟨f1, fs1, hf1, rfl, yl, y20, y21, yO, qF, qn, qs, qf⟩ := hq
        obtain rfl : fs1 = RV p al (upd (upd (M 0) 20 (nI (c + 1))) 21 (nI to + (nI z - nI 0))) := set2 (fs := RV p al (M 0)) yl (show 20 < 39 by decide) (show 21 < 39 by decide) y20 y21 (by decide) yO
        clear yl yO y20 y21
        have qF : ax_hs hp_4 [(m, .inr (11, RV p al (upd (upd (M 0) 20 (nI (c + 1))) 21 (nI to + (nI z - nI 0))))), (p + 3, .inl (0, 48, .inl (enF (M 14) (M 30) (M 15) (400 * w + 200 * 0) n1 c (M 12) f1))), (p + 5, .inl (1, 9600, .inl (rgF (fun i => vp_nar .byte (M 30 ((400 * w + 200 * 0) + i))) (200 * f1) n1 (M 14)))), (p + 6, .inl (0, 48, .inl (upd (M 15) f1 (nI n1)))), cRB (p + 14) 4800 (M 30), cRI (p + 15) 24 (M 31), (p + 4, .inl (2, 48, .inl (upd (M 13) f1 (vp_nar .boolean 1)))), (p + 7, .inl (0, 48, .inl (upd (M 16) f1 (nI d)))), (p + 8, .inl (0, 48, .inl (upd (upd (M 17) f1 0) f1 (nI z)))), (p + 9, .inl (1, 393216, .inl (rgF (fun i => vp_nar .byte (M 32 (2048 * w + i))) (8192 * f1 + a) t (rgF (fun _ => vp_nar .byte 0) (8192 * f1 + 0) (z - 0) (M 18))))), (p + 10, .inl (2, 912, .inl (wlF f1 a (laF (19 * f1) z (rgF (fun _ => vp_nar .boolean 0) (19 * f1) 19 (M 19)) 19) t))), cRI (p + 12) 12 (M 28), cRB (p + 16) 24576 (M 32), cRI (p + 17) 12 (M 33)] := qF
        replace hF : ax_hs hp_4 [cRB p 2048 (M 8), cRB (p + 1) 400 (M 10), cRI (p + 2) 2 (M 11), cRI (p + 11) 12 (M 27), cRI (p + 13) 12 (M 29), cRI al AL (M 34), cRI (p + 19) 24576 (M 35), (p + 20, .inl (0, 12, .inl (upd (M 36) w 0))), (m, .inr (11, RV p al (upd (upd (M 0) 20 (nI (c + 1))) 21 (nI to + (nI z - nI 0))))), (p + 3, .inl (0, 48, .inl (enF (M 14) (M 30) (M 15) (400 * w + 200 * 0) n1 c (M 12) f1))), (p + 5, .inl (1, 9600, .inl (rgF (fun i => vp_nar .byte (M 30 ((400 * w + 200 * 0) + i))) (200 * f1) n1 (M 14)))), (p + 6, .inl (0, 48, .inl (upd (M 15) f1 (nI n1)))), cRB (p + 14) 4800 (M 30), cRI (p + 15) 24 (M 31), (p + 4, .inl (2, 48, .inl (upd (M 13) f1 (vp_nar .boolean 1)))), (p + 7, .inl (0, 48, .inl (upd (M 16) f1 (nI d)))), (p + 8, .inl (0, 48, .inl (upd (upd (M 17) f1 0) f1 (nI z)))), (p + 9, .inl (1, 393216, .inl (rgF (fun i => vp_nar .byte (M 32 (2048 * w + i))) (8192 * f1 + a) t (rgF (fun _ => vp_nar .byte 0) (8192 * f1 + 0) (z - 0) (M 18))))), (p + 10, .inl (2, 912, .inl (wlF f1 a (laF (19 * f1) z (rgF (fun _ => vp_nar .boolean 0) (19 * f1) 19 (M 19)) 19) t))), cRI (p + 12) 12 (M 28), cRB (p + 16) 24576 (M 32), cRI (p + 17) 12 (M 33)] := ax_hs.call (rest := [cRB p 2048 (M 8), cRB (p + 1) 400 (M 10), cRI (p + 2) 2 (M 11), cRI (p + 11) 12 (M 27), cRI (p + 13) 12 (M 29), cRI al AL (M 34), cRI (p + 19) 24576 (M 35), (p + 20, .inl (0, 12, .inl (upd (M 36) w 0)))]) [0, 4, 6, 7, 15, 16, 5, 8, 9, 10, 11, 13, 17, 18] [1, 2, 3, 12, 14, 19, 20, 21] hF qf qF rfl rfl rfl [0, 4, 5, 6, 7, 8, 9, 10, 11] rfl rfl [0, 4, 6, 7, 15, 16, 5, 8, 9, 10, 11, 13, 17, 18] (news := []) rfl rfl (fun _ z => absurd z List.not_mem_nil) rfl
        replace hF := hF.sub (F' := [(m, .inr (11, RV p al (upd (upd (M 0) 20 (nI (c + 1))) 21 (nI to + (nI z - nI 0))))), cRB p 2048 (M 8), cRB (p + 1) 400 (M 10), cRI (p + 2) 2 (M 11), (p + 3, .inl (0, 48, .inl (enF (M 14) (M 30) (M 15) (400 * w + 200 * 0) n1 c (M 12) f1))), (p + 4, .inl (2, 48, .inl (upd (M 13) f1 (vp_nar .boolean 1)))), (p + 5, .inl (1, 9600, .inl (rgF (fun i => vp_nar .byte (M 30 ((400 * w + 200 * 0) + i))) (200 * f1) n1 (M 14)))), (p + 6, .inl (0, 48, .inl (upd (M 15) f1 (nI n1)))), (p + 7, .inl (0, 48, .inl (upd (M 16) f1 (nI d)))), (p + 8, .inl (0, 48, .inl (upd (upd (M 17) f1 0) f1 (nI z)))), (p + 9, .inl (1, 393216, .inl (rgF (fun i => vp_nar .byte (M 32 (2048 * w + i))) (8192 * f1 + a) t (rgF (fun _ => vp_nar .byte 0) (8192 * f1 + 0) (z - 0) (M 18))))), (p + 10, .inl (2, 912, .inl (wlF f1 a (laF (19 * f1) z (rgF (fun _ => vp_nar .boolean 0) (19 * f1) 19 (M 19)) 19) t))), cRI (p + 11) 12 (M 27), cRI (p + 12) 12 (M 28), cRI (p + 13) 12 (M 29), cRB (p + 14) 4800 (M 30), cRI (p + 15) 24 (M 31), cRB (p + 16) 24576 (M 32), cRI (p + 17) 12 (M 33), cRI al AL (M 34), cRI (p + 19) 24576 (M 35), (p + 20, .inl (0, 12, .inl (upd (M 36) w 0)))]) [8, 0, 1, 2, 9, 14, 10, 11, 15, 16, 17, 18, 3, 19, 4, 12, 13, 20, 21, 5, 6, 7] rfl rfl
        replace hf := hf.trC qf (fun x _ z => by simp only [List.mem_cons, List.not_mem_nil, or_false] at z; show m ≤ x; omega)
        replace hn : hp_4.1 = h0.1 := by omega
        replace hs : hp_4.2.1 = h0.2.1 := by omega
        clear qF qn qs qf
        have hf8 : f1 < 48 := by rw [hf1]; exact hfr1
        have hI3 := hI.made (ff := M 14) (pf := M 30) (b := 400 * w + 200 * 0) hc7 hfr1 hfr2 hd (show n1 ≤ 200 by omega)
        rw [← hf1] at hI3
        have hm1 : f1 ∈ oL (enF (M 14) (M 30) (M 15) (400 * w + 200 * 0) n1 c (M 12) f1) (c + 1) := (en_perm hf8).mem_iff.mpr List.mem_cons_self
        have hI4 := hI3.size (y := 0) (z := z) hf8 hm1 pk_us (by omega) (by omega) (by omega)
        have hS9 : RS m p al AL h0 hp_4 (va_up (va_up (va_up (va_up (va_up (va_up (va_up (va_up (va_up (va_up M 0 (upd (upd (M 0) 20 (nI (c + 1))) 21 (nI to + (nI z - nI 0)))) 12 (enF (M 14) (M 30) (M 15) (400 * w + 200 * 0) n1 c (M 12) f1)) 13 (upd (M 13) f1 (vp_nar .boolean 1))) 14 (rgF (fun i => vp_nar .byte (M 30 ((400 * w + 200 * 0) + i))) (200 * f1) n1 (M 14))) 15 (upd (M 15) f1 (nI n1))) 16 (upd (M 16) f1 (nI d))) 17 (upd (upd (M 17) f1 0) f1 (nI z))) 18 (rgF (fun i => vp_nar .byte (M 32 (2048 * w + i))) (8192 * f1 + a) t (rgF (fun _ => vp_nar .byte 0) (8192 * f1 + 0) (z - 0) (M 18)))) 19 (wlF f1 a (laF (19 * f1) z (rgF (fun _ => vp_nar .boolean 0) (19 * f1) 19 (M 19)) 19) t)) 36 (upd (M 36) w 0)) := ⟨hF, hf, hn, hs, hp0⟩
        exact ar_iret d_193_107 rfl rfl (⟨_, _, rfl, hS9, ⟨c + 1, to - 0 + z, rfl, nI_tz (Nat.zero_le _) (by omega) hI.2.2.2.2.2.2.2.2, hI4⟩, ⟨fun k h20 h21 => by
          show upd (upd (M 0) 20 (nI (c + 1))) 21 (nI to + (nI z - nI 0)) k = M 0 k
          rw [pk_un h21, pk_un h20], rfl, rfl, rfl, rfl, rfl, rfl, rfl, rfl, rfl, rfl, rfl⟩, fun hT x hx => inR_up12 hT ⟨0, by decide, rfl⟩ x hx⟩)
    · obtain ⟨y, ey, hy1, hy2⟩ := hI.sz hbf hm
      obtain ⟨a, ha, ea⟩ := h28 (Or.inl hk9)
      obtain ⟨z, hz⟩ : ∃ z : Nat, ((t = 0 ∨ a + t < y) ∧ z = y) ∨ (0 < t ∧ y ≤ a + t ∧ z = a + t) := by
        by_cases q1 : t = 0 ∨ a + t < y
        · exact ⟨y, Or.inl ⟨q1, rfl⟩⟩
        · exact ⟨a + t, Or.inr ⟨by omega, by omega, rfl⟩⟩
      by_cases hfu : 8192 < z ∨ 32768 < to - y + z
      · refine ar_call (r := []) (na := 0) (kd := 0) (cm := 198) (fr2 := fr - 1) (lo2 := lo - 29) 107 d_193_104 (ar_hoV (as := [.int (nI w), .int (nI d), .int 0]) rfl rfl rfl (hF.at 0 rfl)) rfl (by omega) (show lo - 29 + (19 + 10) = lo by omega) (Nat.le_of_ble_eq_true rfl) (Nat.le_of_ble_eq_true rfl) (n_198F0 (by omega) (by omega) hc hw en1 (by omega) hog hlf hvf hbf ey hy1 et (by omega) ea (by omega) hz hy2 hI.2.2.2.2.2.2.2.2 hfu rfl rfl rfl rfl rfl rfl q20 q21 rfl rfl rfl rfl rfl (hF.sub (F' := [cRo m p al M, cRI (p + 3) 48 (M 12), cRB (p + 5) 9600 (M 14), cRI (p + 6) 48 (M 15), cRB (p + 14) 4800 (M 30), cRI (p + 15) 24 (M 31), cRI (p + 8) 48 (M 17), cRB (p + 9) 393216 (M 18), cRZ (p + 10) 912 (M 19), cRI (p + 12) 12 (M 28), cRB (p + 16) 24576 (M 32), cRI (p + 17) 12 (M 33)]) [0, 4, 6, 7, 15, 16, 9, 10, 11, 13, 17, 18] rfl rfl)) ?_
        intro v hh hq
        obtain ⟨rfl, ehh⟩ := hq
        rw [ehh]
        clear ehh
        have hS9 : RS m p al AL h0 hp_1 (va_up M 36 (upd (M 36) w 0)) := ⟨hF, hf, hn, hs, hp0⟩
        exact ar_iret d_193_107 rfl rfl (⟨_, _, rfl, hS9, ⟨c, to, e20, e21, hI⟩, ⟨fun k h20 h21 => rfl, rfl, rfl, rfl, rfl, rfl, rfl, rfl, rfl, rfl, rfl, rfl⟩, fun hT x hx => inR_up12 hT ⟨0, by decide, rfl⟩ x hx⟩)
      · refine ar_call (r := []) (na := 0) (kd := 0) (cm := 198) (fr2 := fr - 1) (lo2 := lo - 29) 107 d_193_104 (ar_hoV (as := [.int (nI w), .int (nI d), .int 0]) rfl rfl rfl (hF.at 0 rfl)) rfl (by omega) (show lo - 29 + (19 + 10) = lo by omega) (Nat.le_of_ble_eq_true rfl) (Nat.le_of_ble_eq_true rfl) (n_198Y0 (by omega) (by omega) hc hw en1 (by omega) hog hlf hvf hbf ey hy1 et (by omega) ea (by omega) hz hy2 hI.2.2.2.2.2.2.2.2 (by omega) (by omega) rfl rfl rfl rfl rfl rfl rfl q20 q21 rfl rfl rfl rfl rfl (hF.sub (F' := [cRo m p al M, cRI (p + 3) 48 (M 12), cRB (p + 5) 9600 (M 14), cRI (p + 6) 48 (M 15), cRB (p + 14) 4800 (M 30), cRI (p + 15) 24 (M 31), cRI (p + 8) 48 (M 17), cRB (p + 9) 393216 (M 18), cRZ (p + 10) 912 (M 19), cRI (p + 12) 12 (M 28), cRB (p + 16) 24576 (M 32), cRI (p + 17) 12 (M 33)]) [0, 4, 6, 7, 15, 16, 9, 10, 11, 13, 17, 18] rfl rfl) rfl rfl (by omega)) ?_
        intro v hp_3 hq
        obtain ⟨fs1, rfl, yl, y21, yO, qF, qn, qs, qf⟩ := hq
        obtain rfl : fs1 = RV p al (upd (M 0) 21 (nI to + (nI z - nI y))) := set1 (fs := RV p al (M 0)) yl (show 21 < 39 by decide) y21 yO
        clear yl yO y21
        have qF : ax_hs hp_3 [(m, .inr (11, RV p al (upd (M 0) 21 (nI to + (nI z - nI y))))), cRI (p + 3) 48 (M 12), cRB (p + 5) 9600 (M 14), cRI (p + 6) 48 (M 15), cRB (p + 14) 4800 (M 30), cRI (p + 15) 24 (M 31), (p + 8, .inl (0, 48, .inl (upd (M 17) f (nI z)))), (p + 9, .inl (1, 393216, .inl (rgF (fun i => vp_nar .byte (M 32 (2048 * w + i))) (8192 * f + a) t (rgF (fun _ => vp_nar .byte 0) (8192 * f + y) (z - y) (M 18))))), (p + 10, .inl (2, 912, .inl (wlF f a (laF (19 * f) z (M 19) 19) t))), cRI (p + 12) 12 (M 28), cRB (p + 16) 24576 (M 32), cRI (p + 17) 12 (M 33)] := qF
        replace hF : ax_hs hp_3 [cRB p 2048 (M 8), cRB (p + 1) 400 (M 10), cRI (p + 2) 2 (M 11), cRZ (p + 4) 48 (M 13), cRI (p + 7) 48 (M 16), cRI (p + 11) 12 (M 27), cRI (p + 13) 12 (M 29), cRI al AL (M 34), cRI (p + 19) 24576 (M 35), (p + 20, .inl (0, 12, .inl (upd (M 36) w 0))), (m, .inr (11, RV p al (upd (M 0) 21 (nI to + (nI z - nI y))))), cRI (p + 3) 48 (M 12), cRB (p + 5) 9600 (M 14), cRI (p + 6) 48 (M 15), cRB (p + 14) 4800 (M 30), cRI (p + 15) 24 (M 31), (p + 8, .inl (0, 48, .inl (upd (M 17) f (nI z)))), (p + 9, .inl (1, 393216, .inl (rgF (fun i => vp_nar .byte (M 32 (2048 * w + i))) (8192 * f + a) t (rgF (fun _ => vp_nar .byte 0) (8192 * f + y) (z - y) (M 18))))), (p + 10, .inl (2, 912, .inl (wlF f a (laF (19 * f) z (M 19) 19) t))), cRI (p + 12) 12 (M 28), cRB (p + 16) 24576 (M 32), cRI (p + 17) 12 (M 33)] := ax_hs.call (rest := [cRB p 2048 (M 8), cRB (p + 1) 400 (M 10), cRI (p + 2) 2 (M 11), cRZ (p + 4) 48 (M 13), cRI (p + 7) 48 (M 16), cRI (p + 11) 12 (M 27), cRI (p + 13) 12 (M 29), cRI al AL (M 34), cRI (p + 19) 24576 (M 35), (p + 20, .inl (0, 12, .inl (upd (M 36) w 0)))]) [0, 4, 6, 7, 15, 16, 9, 10, 11, 13, 17, 18] [1, 2, 3, 5, 8, 12, 14, 19, 20, 21] hF qf qF rfl rfl rfl [0, 9, 10, 11] rfl rfl [0, 4, 6, 7, 15, 16, 9, 10, 11, 13, 17, 18] (news := []) rfl rfl (fun _ z => absurd z List.not_mem_nil) rfl
        replace hF := hF.sub (F' := [(m, .inr (11, RV p al (upd (M 0) 21 (nI to + (nI z - nI y))))), cRB p 2048 (M 8), cRB (p + 1) 400 (M 10), cRI (p + 2) 2 (M 11), cRI (p + 3) 48 (M 12), cRZ (p + 4) 48 (M 13), cRB (p + 5) 9600 (M 14), cRI (p + 6) 48 (M 15), cRI (p + 7) 48 (M 16), (p + 8, .inl (0, 48, .inl (upd (M 17) f (nI z)))), (p + 9, .inl (1, 393216, .inl (rgF (fun i => vp_nar .byte (M 32 (2048 * w + i))) (8192 * f + a) t (rgF (fun _ => vp_nar .byte 0) (8192 * f + y) (z - y) (M 18))))), (p + 10, .inl (2, 912, .inl (wlF f a (laF (19 * f) z (M 19) 19) t))), cRI (p + 11) 12 (M 27), cRI (p + 12) 12 (M 28), cRI (p + 13) 12 (M 29), cRB (p + 14) 4800 (M 30), cRI (p + 15) 24 (M 31), cRB (p + 16) 24576 (M 32), cRI (p + 17) 12 (M 33), cRI al AL (M 34), cRI (p + 19) 24576 (M 35), (p + 20, .inl (0, 12, .inl (upd (M 36) w 0)))]) [10, 0, 1, 2, 11, 3, 12, 13, 4, 16, 17, 18, 5, 19, 6, 14, 15, 20, 21, 7, 8, 9] rfl rfl
        replace hf := hf.trC qf (fun x _ z => by simp only [List.mem_cons, List.not_mem_nil, or_false] at z; show m ≤ x; omega)
        replace hn : hp_3.1 = h0.1 := by omega
        replace hs : hp_3.2.1 = h0.2.1 := by omega
        clear qF qn qs qf
        have hS9 : RS m p al AL h0 hp_3 (va_up (va_up (va_up (va_up (va_up M 0 (upd (M 0) 21 (nI to + (nI z - nI y)))) 17 (upd (M 17) f (nI z))) 18 (rgF (fun i => vp_nar .byte (M 32 (2048 * w + i))) (8192 * f + a) t (rgF (fun _ => vp_nar .byte 0) (8192 * f + y) (z - y) (M 18)))) 19 (wlF f a (laF (19 * f) z (M 19) 19) t)) 36 (upd (M 36) w 0)) := ⟨hF, hf, hn, hs, hp0⟩
        exact ar_iret d_193_107 rfl rfl (⟨_, _, rfl, hS9, ⟨c, to - y + z, e20, nI_tz hy2 (by omega) hI.2.2.2.2.2.2.2.2, hI.size hbf hm ey hy1 (by omega) (by omega)⟩, ⟨fun k h20 h21 => by
          show upd (M 0) 21 (nI to + (nI z - nI y)) k = M 0 k
          rw [pk_un h21], rfl, rfl, rfl, rfl, rfl, rfl, rfl, rfl, rfl, rfl, rfl⟩, fun hT x hx => inR_up12 hT ⟨0, by decide, rfl⟩ x hx⟩)
  · have hk9 : M 27 w = 2 := ekd
    refine ar_tabIn 108 d_193_20 (by rw [hk9]; decide) (by rw [hk9]; rfl) (by decide) ?_
    refine ar_aload_n 109 d_193_108 rfl rfl ?_
    refine ar_iload_n 110 d_193_109 rfl rfl ?_
    refine ar_iload_n 111 d_193_110 rfl rfl ?_
    refine ar_iconst 112 (v := 1) d_193_111 rfl (by decide) ?_
    rcases hI.fnd (M 14) (M 30) (400 * w + 200 * 0) n1 with hvf | ⟨f, hbf, hm, hvf⟩
    · obtain ⟨a, hay⟩ : ∃ a : Nat, a = 0 := ⟨0, rfl⟩
      obtain ⟨z, hz⟩ : ∃ z : Nat, (t = 0 ∧ z = 0) ∨ (0 < t ∧ z = a + t) := by
        by_cases q1 : t = 0
        · exact ⟨0, Or.inl ⟨q1, rfl⟩⟩
        · exact ⟨a + t, Or.inr ⟨by omega, rfl⟩⟩
      by_cases hfu : c = 48 ∨ 8192 < z ∨ 32768 < to + z
      · refine ar_call (r := []) (na := 0) (kd := 0) (cm := 198) (fr2 := fr - 1) (lo2 := lo - 29) 115 d_193_112 (ar_hoV (as := [.int (nI w), .int (nI d), .int 1]) rfl rfl rfl (hF.at 0 rfl)) rfl (by omega) (show lo - 29 + (19 + 10) = lo by omega) (Nat.le_of_ble_eq_true rfl) (Nat.le_of_ble_eq_true rfl) (n_198G1 (by omega) (by omega) hc hw en1 (by omega) hog hlf hvf et (by omega) hay hz hI.2.2.2.2.2.2.2.2 hfu rfl rfl rfl rfl rfl rfl rfl rfl q20 q21 rfl rfl rfl rfl rfl (hF.sub (F' := [cRo m p al M, cRI (p + 3) 48 (M 12), cRB (p + 5) 9600 (M 14), cRI (p + 6) 48 (M 15), cRB (p + 14) 4800 (M 30), cRI (p + 15) 24 (M 31), cRZ (p + 4) 48 (M 13), cRI (p + 7) 48 (M 16), cRI (p + 8) 48 (M 17), cRB (p + 9) 393216 (M 18), cRZ (p + 10) 912 (M 19), cRI (p + 12) 12 (M 28), cRB (p + 16) 24576 (M 32), cRI (p + 17) 12 (M 33)]) [0, 4, 6, 7, 15, 16, 5, 8, 9, 10, 11, 13, 17, 18] rfl rfl)) ?_
        intro v hh hq
        obtain ⟨rfl, ehh⟩ := hq
        rw [ehh]
        clear ehh
        have hS9 : RS m p al AL h0 hp_1 (va_up M 36 (upd (M 36) w 0)) := ⟨hF, hf, hn, hs, hp0⟩
        exact ar_iret d_193_115 rfl rfl (⟨_, _, rfl, hS9, ⟨c, to, e20, e21, hI⟩, ⟨fun k h20 h21 => rfl, rfl, rfl, rfl, rfl, rfl, rfl, rfl, rfl, rfl, rfl, rfl⟩, fun hT x hx => inR_up12 hT ⟨0, by decide, rfl⟩ x hx⟩)
      · have hc7 : c ≤ 47 := by omega
        obtain ⟨hfr1, hfr2⟩ := hI.free hc7
        refine ar_call (r := []) (na := 0) (kd := 0) (cm := 198) (fr2 := fr - 1) (lo2 := lo - 29) 115 d_193_112 (ar_hoV (as := [.int (nI w), .int (nI d), .int 1]) rfl rfl rfl (hF.at 0 rfl)) rfl (by omega) (show lo - 29 + (19 + 10) = lo by omega) (Nat.le_of_ble_eq_true rfl) (Nat.le_of_ble_eq_true rfl) (n_198M1 (by omega) (by omega) hc hw en1 (by omega) hog hlf hvf et (by omega) hay hz hI.2.2.2.2.2.2.2.2 hfr1 hc7 (by omega) (by omega) rfl rfl rfl rfl rfl rfl rfl rfl rfl q20 q21 rfl rfl rfl rfl rfl (hF.sub (F' := [cRo m p al M, cRI (p + 3) 48 (M 12), cRB (p + 5) 9600 (M 14), cRI (p + 6) 48 (M 15), cRB (p + 14) 4800 (M 30), cRI (p + 15) 24 (M 31), cRZ (p + 4) 48 (M 13), cRI (p + 7) 48 (M 16), cRI (p + 8) 48 (M 17), cRB (p + 9) 393216 (M 18), cRZ (p + 10) 912 (M 19), cRI (p + 12) 12 (M 28), cRB (p + 16) 24576 (M 32), cRI (p + 17) 12 (M 33)]) [0, 4, 6, 7, 15, 16, 5, 8, 9, 10, 11, 13, 17, 18] rfl rfl) rfl rfl (by omega)) ?_
        intro v hp_6 hq
        obtain ⟨f1, fs1, hf1, rfl, yl, y20, y21, yO, qF, qn, qs, qf⟩ := hq
        obtain rfl : fs1 = RV p al (upd (upd (M 0) 20 (nI (c + 1))) 21 (nI to + (nI z - nI 0))) := set2 (fs := RV p al (M 0)) yl (show 20 < 39 by decide) (show 21 < 39 by decide) y20 y21 (by decide) yO
        clear yl yO y20 y21
        have qF : ax_hs hp_6 [(m, .inr (11, RV p al (upd (upd (M 0) 20 (nI (c + 1))) 21 (nI to + (nI z - nI 0))))), (p + 3, .inl (0, 48, .inl (enF (M 14) (M 30) (M 15) (400 * w + 200 * 0) n1 c (M 12) f1))), (p + 5, .inl (1, 9600, .inl (rgF (fun i => vp_nar .byte (M 30 ((400 * w + 200 * 0) + i))) (200 * f1) n1 (M 14)))), (p + 6, .inl (0, 48, .inl (upd (M 15) f1 (nI n1)))), cRB (p + 14) 4800 (M 30), cRI (p + 15) 24 (M 31), (p + 4, .inl (2, 48, .inl (upd (M 13) f1 (vp_nar .boolean 1)))), (p + 7, .inl (0, 48, .inl (upd (M 16) f1 (nI d)))), (p + 8, .inl (0, 48, .inl (upd (upd (M 17) f1 0) f1 (nI z)))), (p + 9, .inl (1, 393216, .inl (rgF (fun i => vp_nar .byte (M 32 (2048 * w + i))) (8192 * f1 + a) t (rgF (fun _ => vp_nar .byte 0) (8192 * f1 + 0) (z - 0) (M 18))))), (p + 10, .inl (2, 912, .inl (wlF f1 a (laF (19 * f1) z (rgF (fun _ => vp_nar .boolean 0) (19 * f1) 19 (M 19)) 19) t))), cRI (p + 12) 12 (M 28), cRB (p + 16) 24576 (M 32), cRI (p + 17) 12 (M 33)] := qF
        replace hF : ax_hs hp_6 [cRB p 2048 (M 8), cRB (p + 1) 400 (M 10), cRI (p + 2) 2 (M 11), cRI (p + 11) 12 (M 27), cRI (p + 13) 12 (M 29), cRI al AL (M 34), cRI (p + 19) 24576 (M 35), (p + 20, .inl (0, 12, .inl (upd (M 36) w 0))), (m, .inr (11, RV p al (upd (upd (M 0) 20 (nI (c + 1))) 21 (nI to + (nI z - nI 0))))), (p + 3, .inl (0, 48, .inl (enF (M 14) (M 30) (M 15) (400 * w + 200 * 0) n1 c (M 12) f1))), (p + 5, .inl (1, 9600, .inl (rgF (fun i => vp_nar .byte (M 30 ((400 * w + 200 * 0) + i))) (200 * f1) n1 (M 14)))), (p + 6, .inl (0, 48, .inl (upd (M 15) f1 (nI n1)))), cRB (p + 14) 4800 (M 30), cRI (p + 15) 24 (M 31), (p + 4, .inl (2, 48, .inl (upd (M 13) f1 (vp_nar .boolean 1)))), (p + 7, .inl (0, 48, .inl (upd (M 16) f1 (nI d)))), (p + 8, .inl (0, 48, .inl (upd (upd (M 17) f1 0) f1 (nI z)))), (p + 9, .inl (1, 393216, .inl (rgF (fun i => vp_nar .byte (M 32 (2048 * w + i))) (8192 * f1 + a) t (rgF (fun _ => vp_nar .byte 0) (8192 * f1 + 0) (z - 0) (M 18))))), (p + 10, .inl (2, 912, .inl (wlF f1 a (laF (19 * f1) z (rgF (fun _ => vp_nar .boolean 0) (19 * f1) 19 (M 19)) 19) t))), cRI (p + 12) 12 (M 28), cRB (p + 16) 24576 (M 32), cRI (p + 17) 12 (M 33)] := ax_hs.call (rest := [cRB p 2048 (M 8), cRB (p + 1) 400 (M 10), cRI (p + 2) 2 (M 11), cRI (p + 11) 12 (M 27), cRI (p + 13) 12 (M 29), cRI al AL (M 34), cRI (p + 19) 24576 (M 35), (p + 20, .inl (0, 12, .inl (upd (M 36) w 0)))]) [0, 4, 6, 7, 15, 16, 5, 8, 9, 10, 11, 13, 17, 18] [1, 2, 3, 12, 14, 19, 20, 21] hF qf qF rfl rfl rfl [0, 4, 5, 6, 7, 8, 9, 10, 11] rfl rfl [0, 4, 6, 7, 15, 16, 5, 8, 9, 10, 11, 13, 17, 18] (news := []) rfl rfl (fun _ z => absurd z List.not_mem_nil) rfl
        replace hF := hF.sub (F' := [(m, .inr (11, RV p al (upd (upd (M 0) 20 (nI (c + 1))) 21 (nI to + (nI z - nI 0))))), cRB p 2048 (M 8), cRB (p + 1) 400 (M 10), cRI (p + 2) 2 (M 11), (p + 3, .inl (0, 48, .inl (enF (M 14) (M 30) (M 15) (400 * w + 200 * 0) n1 c (M 12) f1))), (p + 4, .inl (2, 48, .inl (upd (M 13) f1 (vp_nar .boolean 1)))), (p + 5, .inl (1, 9600, .inl (rgF (fun i => vp_nar .byte (M 30 ((400 * w + 200 * 0) + i))) (200 * f1) n1 (M 14)))), (p + 6, .inl (0, 48, .inl (upd (M 15) f1 (nI n1)))), (p + 7, .inl (0, 48, .inl (upd (M 16) f1 (nI d)))), (p + 8, .inl (0, 48, .inl (upd (upd (M 17) f1 0) f1 (nI z)))), (p + 9, .inl (1, 393216, .inl (rgF (fun i => vp_nar .byte (M 32 (2048 * w + i))) (8192 * f1 + a) t (rgF (fun _ => vp_nar .byte 0) (8192 * f1 + 0) (z - 0) (M 18))))), (p + 10, .inl (2, 912, .inl (wlF f1 a (laF (19 * f1) z (rgF (fun _ => vp_nar .boolean 0) (19 * f1) 19 (M 19)) 19) t))), cRI (p + 11) 12 (M 27), cRI (p + 12) 12 (M 28), cRI (p + 13) 12 (M 29), cRB (p + 14) 4800 (M 30), cRI (p + 15) 24 (M 31), cRB (p + 16) 24576 (M 32), cRI (p + 17) 12 (M 33), cRI al AL (M 34), cRI (p + 19) 24576 (M 35), (p + 20, .inl (0, 12, .inl (upd (M 36) w 0)))]) [8, 0, 1, 2, 9, 14, 10, 11, 15, 16, 17, 18, 3, 19, 4, 12, 13, 20, 21, 5, 6, 7] rfl rfl
        replace hf := hf.trC qf (fun x _ z => by simp only [List.mem_cons, List.not_mem_nil, or_false] at z; show m ≤ x; omega)
        replace hn : hp_6.1 = h0.1 := by omega
        replace hs : hp_6.2.1 = h0.2.1 := by omega
        clear qF qn qs qf
        have hf8 : f1 < 48 := by rw [hf1]; exact hfr1
        have hI3 := hI.made (ff := M 14) (pf := M 30) (b := 400 * w + 200 * 0) hc7 hfr1 hfr2 hd (show n1 ≤ 200 by omega)
        rw [← hf1] at hI3
        have hm1 : f1 ∈ oL (enF (M 14) (M 30) (M 15) (400 * w + 200 * 0) n1 c (M 12) f1) (c + 1) := (en_perm hf8).mem_iff.mpr List.mem_cons_self
        have hI4 := hI3.size (y := 0) (z := z) hf8 hm1 pk_us (by omega) (by omega) (by omega)
        have hS9 : RS m p al AL h0 hp_6 (va_up (va_up (va_up (va_up (va_up (va_up (va_up (va_up (va_up (va_up M 0 (upd (upd (M 0) 20 (nI (c + 1))) 21 (nI to + (nI z - nI 0)))) 12 (enF (M 14) (M 30) (M 15) (400 * w + 200 * 0) n1 c (M 12) f1)) 13 (upd (M 13) f1 (vp_nar .boolean 1))) 14 (rgF (fun i => vp_nar .byte (M 30 ((400 * w + 200 * 0) + i))) (200 * f1) n1 (M 14))) 15 (upd (M 15) f1 (nI n1))) 16 (upd (M 16) f1 (nI d))) 17 (upd (upd (M 17) f1 0) f1 (nI z))) 18 (rgF (fun i => vp_nar .byte (M 32 (2048 * w + i))) (8192 * f1 + a) t (rgF (fun _ => vp_nar .byte 0) (8192 * f1 + 0) (z - 0) (M 18)))) 19 (wlF f1 a (laF (19 * f1) z (rgF (fun _ => vp_nar .boolean 0) (19 * f1) 19 (M 19)) 19) t)) 36 (upd (M 36) w 0)) := ⟨hF, hf, hn, hs, hp0⟩
        exact ar_iret d_193_115 rfl rfl (⟨_, _, rfl, hS9, ⟨c + 1, to - 0 + z, rfl, nI_tz (Nat.zero_le _) (by omega) hI.2.2.2.2.2.2.2.2, hI4⟩, ⟨fun k h20 h21 => by
          show upd (upd (M 0) 20 (nI (c + 1))) 21 (nI to + (nI z - nI 0)) k = M 0 k
          rw [pk_un h21, pk_un h20], rfl, rfl, rfl, rfl, rfl, rfl, rfl, rfl, rfl, rfl, rfl⟩, fun hT x hx => inR_up12 hT ⟨0, by decide, rfl⟩ x hx⟩)
    · obtain ⟨y, ey, hy1, hy2⟩ := hI.sz hbf hm
      obtain ⟨a, hay⟩ : ∃ a : Nat, a = y := ⟨y, rfl⟩
      obtain ⟨z, hz⟩ : ∃ z : Nat, ((t = 0 ∨ a + t < y) ∧ z = y) ∨ (0 < t ∧ y ≤ a + t ∧ z = a + t) := by
        by_cases q1 : t = 0 ∨ a + t < y
        · exact ⟨y, Or.inl ⟨q1, rfl⟩⟩
        · exact ⟨a + t, Or.inr ⟨by omega, by omega, rfl⟩⟩
      by_cases hfu : 8192 < z ∨ 32768 < to - y + z
      · refine ar_call (r := []) (na := 0) (kd := 0) (cm := 198) (fr2 := fr - 1) (lo2 := lo - 29) 115 d_193_112 (ar_hoV (as := [.int (nI w), .int (nI d), .int 1]) rfl rfl rfl (hF.at 0 rfl)) rfl (by omega) (show lo - 29 + (19 + 10) = lo by omega) (Nat.le_of_ble_eq_true rfl) (Nat.le_of_ble_eq_true rfl) (n_198F1 (by omega) (by omega) hc hw en1 (by omega) hog hlf hvf hbf ey hy1 et (by omega) hay hz hy2 hI.2.2.2.2.2.2.2.2 hfu rfl rfl rfl rfl rfl rfl q20 q21 rfl rfl rfl rfl rfl (hF.sub (F' := [cRo m p al M, cRI (p + 3) 48 (M 12), cRB (p + 5) 9600 (M 14), cRI (p + 6) 48 (M 15), cRB (p + 14) 4800 (M 30), cRI (p + 15) 24 (M 31), cRI (p + 8) 48 (M 17), cRB (p + 9) 393216 (M 18), cRZ (p + 10) 912 (M 19), cRI (p + 12) 12 (M 28), cRB (p + 16) 24576 (M 32), cRI (p + 17) 12 (M 33)]) [0, 4, 6, 7, 15, 16, 9, 10, 11, 13, 17, 18] rfl rfl)) ?_
        intro v hh hq
        obtain ⟨rfl, ehh⟩ := hq
        rw [ehh]
        clear ehh
        have hS9 : RS m p al AL h0 hp_1 (va_up M 36 (upd (M 36) w 0)) := ⟨hF, hf, hn, hs, hp0⟩
        exact ar_iret d_193_115 rfl rfl (⟨_, _, rfl, hS9, ⟨c, to, e20, e21, hI⟩, ⟨fun k h20 h21 => rfl, rfl, rfl, rfl, rfl, rfl, rfl, rfl, rfl, rfl, rfl, rfl⟩, fun hT x hx => inR_up12 hT ⟨0, by decide, rfl⟩ x hx⟩)
      · refine ar_call (r := []) (na := 0) (kd := 0) (cm := 198) (fr2 := fr - 1) (lo2 := lo - 29) 115 d_193_112 (ar_hoV (as := [.int (nI w), .int (nI d), .int 1]) rfl rfl rfl (hF.at 0 rfl)) rfl (by omega) (show lo - 29 + (19 + 10) = lo by omega) (Nat.le_of_ble_eq_true rfl) (Nat.le_of_ble_eq_true rfl) (n_198Y1 (by omega) (by omega) hc hw en1 (by omega) hog hlf hvf hbf ey hy1 et (by omega) hay hz hy2 hI.2.2.2.2.2.2.2.2 (by omega) (by omega) rfl rfl rfl rfl rfl rfl rfl q20 q21 rfl rfl rfl rfl rfl (hF.sub (F' := [cRo m p al M, cRI (p + 3) 48 (M 12), cRB (p + 5) 9600 (M 14), cRI (p + 6) 48 (M 15), cRB (p + 14) 4800 (M 30), cRI (p + 15) 24 (M 31), cRI (p + 8) 48 (M 17), cRB (p + 9) 393216 (M 18), cRZ (p + 10) 912 (M 19), cRI (p + 12) 12 (M 28), cRB (p + 16) 24576 (M 32), cRI (p + 17) 12 (M 33)]) [0, 4, 6, 7, 15, 16, 9, 10, 11, 13, 17, 18] rfl rfl) rfl rfl (by omega)) ?_
        intro v hp_5 hq
        obtain ⟨fs1, rfl, yl, y21, yO, qF, qn, qs, qf⟩ := hq
        obtain rfl : fs1 = RV p al (upd (M 0) 21 (nI to + (nI z - nI y))) := set1 (fs := RV p al (M 0)) yl (show 21 < 39 by decide) y21 yO
        clear yl yO y21
        have qF : ax_hs hp_5 [(m, .inr (11, RV p al (upd (M 0) 21 (nI to + (nI z - nI y))))), cRI (p + 3) 48 (M 12), cRB (p + 5) 9600 (M 14), cRI (p + 6) 48 (M 15), cRB (p + 14) 4800 (M 30), cRI (p + 15) 24 (M 31), (p + 8, .inl (0, 48, .inl (upd (M 17) f (nI z)))), (p + 9, .inl (1, 393216, .inl (rgF (fun i => vp_nar .byte (M 32 (2048 * w + i))) (8192 * f + a) t (rgF (fun _ => vp_nar .byte 0) (8192 * f + y) (z - y) (M 18))))), (p + 10, .inl (2, 912, .inl (wlF f a (laF (19 * f) z (M 19) 19) t))), cRI (p + 12) 12 (M 28), cRB (p + 16) 24576 (M 32), cRI (p + 17) 12 (M 33)] := qF
        replace hF : ax_hs hp_5 [cRB p 2048 (M 8), cRB (p + 1) 400 (M 10), cRI (p + 2) 2 (M 11), cRZ (p + 4) 48 (M 13), cRI (p + 7) 48 (M 16), cRI (p + 11) 12 (M 27), cRI (p + 13) 12 (M 29), cRI al AL (M 34), cRI (p + 19) 24576 (M 35), (p + 20, .inl (0, 12, .inl (upd (M 36) w 0))), (m, .inr (11, RV p al (upd (M 0) 21 (nI to + (nI z - nI y))))), cRI (p + 3) 48 (M 12), cRB (p + 5) 9600 (M 14), cRI (p + 6) 48 (M 15), cRB (p + 14) 4800 (M 30), cRI (p + 15) 24 (M 31), (p + 8, .inl (0, 48, .inl (upd (M 17) f (nI z)))), (p + 9, .inl (1, 393216, .inl (rgF (fun i => vp_nar .byte (M 32 (2048 * w + i))) (8192 * f + a) t (rgF (fun _ => vp_nar .byte 0) (8192 * f + y) (z - y) (M 18))))), (p + 10, .inl (2, 912, .inl (wlF f a (laF (19 * f) z (M 19) 19) t))), cRI (p + 12) 12 (M 28), cRB (p + 16) 24576 (M 32), cRI (p + 17) 12 (M 33)] := ax_hs.call (rest := [cRB p 2048 (M 8), cRB (p + 1) 400 (M 10), cRI (p + 2) 2 (M 11), cRZ (p + 4) 48 (M 13), cRI (p + 7) 48 (M 16), cRI (p + 11) 12 (M 27), cRI (p + 13) 12 (M 29), cRI al AL (M 34), cRI (p + 19) 24576 (M 35), (p + 20, .inl (0, 12, .inl (upd (M 36) w 0)))]) [0, 4, 6, 7, 15, 16, 9, 10, 11, 13, 17, 18] [1, 2, 3, 5, 8, 12, 14, 19, 20, 21] hF qf qF rfl rfl rfl [0, 9, 10, 11] rfl rfl [0, 4, 6, 7, 15, 16, 9, 10, 11, 13, 17, 18] (news := []) rfl rfl (fun _ z => absurd z List.not_mem_nil) rfl
        replace hF := hF.sub (F' := [(m, .inr (11, RV p al (upd (M 0) 21 (nI to + (nI z - nI y))))), cRB p 2048 (M 8), cRB (p + 1) 400 (M 10), cRI (p + 2) 2 (M 11), cRI (p + 3) 48 (M 12), cRZ (p + 4) 48 (M 13), cRB (p + 5) 9600 (M 14), cRI (p + 6) 48 (M 15), cRI (p + 7) 48 (M 16), (p + 8, .inl (0, 48, .inl (upd (M 17) f (nI z)))), (p + 9, .inl (1, 393216, .inl (rgF (fun i => vp_nar .byte (M 32 (2048 * w + i))) (8192 * f + a) t (rgF (fun _ => vp_nar .byte 0) (8192 * f + y) (z - y) (M 18))))), (p + 10, .inl (2, 912, .inl (wlF f a (laF (19 * f) z (M 19) 19) t))), cRI (p + 11) 12 (M 27), cRI (p + 12) 12 (M 28), cRI (p + 13) 12 (M 29), cRB (p + 14) 4800 (M 30), cRI (p + 15) 24 (M 31), cRB (p + 16) 24576 (M 32), cRI (p + 17) 12 (M 33), cRI al AL (M 34), cRI (p + 19) 24576 (M 35), (p + 20, .inl (0, 12, .inl (upd (M 36) w 0)))]) [10, 0, 1, 2, 11, 3, 12, 13, 4, 16, 17, 18, 5, 19, 6, 14, 15, 20, 21, 7, 8, 9] rfl rfl
        replace hf := hf.trC qf (fun x _ z => by simp only [List.mem_cons, List.not_mem_nil, or_false] at z; show m ≤ x; omega)
        replace hn : hp_5.1 = h0.1 := by omega
        replace hs : hp_5.2.1 = h0.2.1 := by omega
        clear qF qn qs qf
        have hS9 : RS m p al AL h0 hp_5 (va_up (va_up (va_up (va_up (va_up M 0 (upd (M 0) 21 (nI to + (nI z - nI y)))) 17 (upd (M 17) f (nI z))) 18 (rgF (fun i => vp_nar .byte (M 32 (2048 * w + i))) (8192 * f + a) t (rgF (fun _ => vp_nar .byte 0) (8192 * f + y) (z - y) (M 18)))) 19 (wlF f a (laF (19 * f) z (M 19) 19) t)) 36 (upd (M 36) w 0)) := ⟨hF, hf, hn, hs, hp0⟩
        exact ar_iret d_193_115 rfl rfl (⟨_, _, rfl, hS9, ⟨c, to - y + z, e20, nI_tz hy2 (by omega) hI.2.2.2.2.2.2.2.2, hI.size hbf hm ey hy1 (by omega) (by omega)⟩, ⟨fun k h20 h21 => by
          show upd (M 0) 21 (nI to + (nI z - nI y)) k = M 0 k
          rw [pk_un h21], rfl, rfl, rfl, rfl, rfl, rfl, rfl, rfl, rfl, rfl, rfl⟩, fun hT x hx => inR_up12 hT ⟨0, by decide, rfl⟩ x hx⟩)
  · have hk9 : M 27 w = 3 := ekd
    refine ar_tabIn 116 d_193_20 (by rw [hk9]; decide) (by rw [hk9]; rfl) (by decide) ?_
    obtain ⟨z, hz, ez⟩ := h28 (Or.inr (Or.inl hk9))
    refine ar_aload_n 117 d_193_116 rfl rfl ?_
    refine ar_iload_n 118 d_193_117 rfl rfl ?_
    rcases hI.fnd (M 14) (M 30) (400 * w + 200 * 0) n1 with hvf | ⟨f, hbf, hm, hvf⟩
    · refine ar_call (r := []) (na := 0) (kd := 0) (cm := 200) (fr2 := fr - 1) (lo2 := lo - 23) 121 d_193_118 (ar_hoV (as := [.int (nI w)]) rfl rfl rfl (hF.at 0 rfl)) rfl (by omega) (show lo - 23 + (19 + 4) = lo by omega) (Nat.le_of_ble_eq_true rfl) (Nat.le_of_ble_eq_true rfl) (n_200N (by omega) (by omega) hc hw en1 (by omega) hog hlf hvf rfl rfl rfl q20 rfl rfl (hF.sub (F' := [cRo m p al M, cRI (p + 3) 48 (M 12), cRB (p + 5) 9600 (M 14), cRI (p + 6) 48 (M 15), cRB (p + 14) 4800 (M 30), cRI (p + 15) 24 (M 31)]) [0, 4, 6, 7, 15, 16] rfl rfl)) ?_
      intro v hh hq
      obtain ⟨rfl, ehh⟩ := hq
      rw [ehh]
      clear ehh
      have hS9 : RS m p al AL h0 hp_1 (va_up M 36 (upd (M 36) w 0)) := ⟨hF, hf, hn, hs, hp0⟩
      exact ar_iret d_193_121 rfl rfl (⟨_, _, rfl, hS9, ⟨c, to, e20, e21, hI⟩, ⟨fun k h20 h21 => rfl, rfl, rfl, rfl, rfl, rfl, rfl, rfl, rfl, rfl, rfl, rfl⟩, fun hT x hx => inR_up12 hT ⟨0, by decide, rfl⟩ x hx⟩)
    · obtain ⟨y, ey, hy1, hy2⟩ := hI.sz hbf hm
      by_cases hfu : 32768 < to - y + z
      · refine ar_call (r := []) (na := 0) (kd := 0) (cm := 200) (fr2 := fr - 1) (lo2 := lo - 23) 121 d_193_118 (ar_hoV (as := [.int (nI w)]) rfl rfl rfl (hF.at 0 rfl)) rfl (by omega) (show lo - 23 + (19 + 4) = lo by omega) (Nat.le_of_ble_eq_true rfl) (Nat.le_of_ble_eq_true rfl) (n_200F (by omega) (by omega) hc hw en1 (by omega) hog hlf hvf hbf ey hy1 ez (by omega) hy2 hI.2.2.2.2.2.2.2.2 hfu rfl rfl rfl rfl rfl rfl q20 q21 rfl rfl rfl (hF.sub (F' := [cRo m p al M, cRI (p + 3) 48 (M 12), cRB (p + 5) 9600 (M 14), cRI (p + 6) 48 (M 15), cRB (p + 14) 4800 (M 30), cRI (p + 15) 24 (M 31), cRI (p + 8) 48 (M 17), cRB (p + 9) 393216 (M 18), cRZ (p + 10) 912 (M 19), cRI (p + 12) 12 (M 28)]) [0, 4, 6, 7, 15, 16, 9, 10, 11, 13] rfl rfl)) ?_
        intro v hh hq
        obtain ⟨rfl, ehh⟩ := hq
        rw [ehh]
        clear ehh
        have hS9 : RS m p al AL h0 hp_1 (va_up M 36 (upd (M 36) w 0)) := ⟨hF, hf, hn, hs, hp0⟩
        exact ar_iret d_193_121 rfl rfl (⟨_, _, rfl, hS9, ⟨c, to, e20, e21, hI⟩, ⟨fun k h20 h21 => rfl, rfl, rfl, rfl, rfl, rfl, rfl, rfl, rfl, rfl, rfl, rfl⟩, fun hT x hx => inR_up12 hT ⟨0, by decide, rfl⟩ x hx⟩)
      · refine ar_call (r := []) (na := 0) (kd := 0) (cm := 200) (fr2 := fr - 1) (lo2 := lo - 23) 121 d_193_118 (ar_hoV (as := [.int (nI w)]) rfl rfl rfl (hF.at 0 rfl)) rfl (by omega) (show lo - 23 + (19 + 4) = lo by omega) (Nat.le_of_ble_eq_true rfl) (Nat.le_of_ble_eq_true rfl) (n_200Y (by omega) (by omega) hc hw en1 (by omega) hog hlf hvf hbf ey hy1 ez (by omega) hy2 hI.2.2.2.2.2.2.2.2 (Nat.le_of_not_lt hfu) rfl rfl rfl rfl rfl rfl rfl q20 q21 rfl rfl rfl (hF.sub (F' := [cRo m p al M, cRI (p + 3) 48 (M 12), cRB (p + 5) 9600 (M 14), cRI (p + 6) 48 (M 15), cRB (p + 14) 4800 (M 30), cRI (p + 15) 24 (M 31), cRI (p + 8) 48 (M 17), cRB (p + 9) 393216 (M 18), cRZ (p + 10) 912 (M 19), cRI (p + 12) 12 (M 28)]) [0, 4, 6, 7, 15, 16, 9, 10, 11, 13] rfl rfl) rfl rfl (by omega)) ?_
        intro v hp_7 hq
        obtain ⟨fs1, rfl, yl, y21, yO, qF, qn, qs, qf⟩ := hq
        obtain rfl : fs1 = RV p al (upd (M 0) 21 (nI to + (nI z - nI y))) := set1 (fs := RV p al (M 0)) yl (show 21 < 39 by decide) y21 yO
        clear yl yO y21
        have qF : ax_hs hp_7 [(m, .inr (11, RV p al (upd (M 0) 21 (nI to + (nI z - nI y))))), cRI (p + 3) 48 (M 12), cRB (p + 5) 9600 (M 14), cRI (p + 6) 48 (M 15), cRB (p + 14) 4800 (M 30), cRI (p + 15) 24 (M 31), (p + 8, .inl (0, 48, .inl (upd (M 17) f (nI z)))), (p + 9, .inl (1, 393216, .inl (rgF (fun _ => vp_nar .byte 0) (8192 * f + y) (z - y) (M 18)))), (p + 10, .inl (2, 912, .inl (laF (19 * f) z (M 19) 19))), cRI (p + 12) 12 (M 28)] := qF
        replace hF : ax_hs hp_7 [cRB p 2048 (M 8), cRB (p + 1) 400 (M 10), cRI (p + 2) 2 (M 11), cRZ (p + 4) 48 (M 13), cRI (p + 7) 48 (M 16), cRI (p + 11) 12 (M 27), cRI (p + 13) 12 (M 29), cRB (p + 16) 24576 (M 32), cRI (p + 17) 12 (M 33), cRI al AL (M 34), cRI (p + 19) 24576 (M 35), (p + 20, .inl (0, 12, .inl (upd (M 36) w 0))), (m, .inr (11, RV p al (upd (M 0) 21 (nI to + (nI z - nI y))))), cRI (p + 3) 48 (M 12), cRB (p + 5) 9600 (M 14), cRI (p + 6) 48 (M 15), cRB (p + 14) 4800 (M 30), cRI (p + 15) 24 (M 31), (p + 8, .inl (0, 48, .inl (upd (M 17) f (nI z)))), (p + 9, .inl (1, 393216, .inl (rgF (fun _ => vp_nar .byte 0) (8192 * f + y) (z - y) (M 18)))), (p + 10, .inl (2, 912, .inl (laF (19 * f) z (M 19) 19))), cRI (p + 12) 12 (M 28)] := ax_hs.call (rest := [cRB p 2048 (M 8), cRB (p + 1) 400 (M 10), cRI (p + 2) 2 (M 11), cRZ (p + 4) 48 (M 13), cRI (p + 7) 48 (M 16), cRI (p + 11) 12 (M 27), cRI (p + 13) 12 (M 29), cRB (p + 16) 24576 (M 32), cRI (p + 17) 12 (M 33), cRI al AL (M 34), cRI (p + 19) 24576 (M 35), (p + 20, .inl (0, 12, .inl (upd (M 36) w 0)))]) [0, 4, 6, 7, 15, 16, 9, 10, 11, 13] [1, 2, 3, 5, 8, 12, 14, 17, 18, 19, 20, 21] hF qf qF rfl rfl rfl [0, 9, 10, 11] rfl rfl [0, 4, 6, 7, 15, 16, 9, 10, 11, 13] (news := []) rfl rfl (fun _ z => absurd z List.not_mem_nil) rfl
        replace hF := hF.sub (F' := [(m, .inr (11, RV p al (upd (M 0) 21 (nI to + (nI z - nI y))))), cRB p 2048 (M 8), cRB (p + 1) 400 (M 10), cRI (p + 2) 2 (M 11), cRI (p + 3) 48 (M 12), cRZ (p + 4) 48 (M 13), cRB (p + 5) 9600 (M 14), cRI (p + 6) 48 (M 15), cRI (p + 7) 48 (M 16), (p + 8, .inl (0, 48, .inl (upd (M 17) f (nI z)))), (p + 9, .inl (1, 393216, .inl (rgF (fun _ => vp_nar .byte 0) (8192 * f + y) (z - y) (M 18)))), (p + 10, .inl (2, 912, .inl (laF (19 * f) z (M 19) 19))), cRI (p + 11) 12 (M 27), cRI (p + 12) 12 (M 28), cRI (p + 13) 12 (M 29), cRB (p + 14) 4800 (M 30), cRI (p + 15) 24 (M 31), cRB (p + 16) 24576 (M 32), cRI (p + 17) 12 (M 33), cRI al AL (M 34), cRI (p + 19) 24576 (M 35), (p + 20, .inl (0, 12, .inl (upd (M 36) w 0)))]) [12, 0, 1, 2, 13, 3, 14, 15, 4, 18, 19, 20, 5, 21, 6, 16, 17, 7, 8, 9, 10, 11] rfl rfl
        replace hf := hf.trC qf (fun x _ z => by simp only [List.mem_cons, List.not_mem_nil, or_false] at z; show m ≤ x; omega)
        replace hn : hp_7.1 = h0.1 := by omega
        replace hs : hp_7.2.1 = h0.2.1 := by omega
        clear qF qn qs qf
        have hS9 : RS m p al AL h0 hp_7 (va_up (va_up (va_up (va_up (va_up M 0 (upd (M 0) 21 (nI to + (nI z - nI y)))) 17 (upd (M 17) f (nI z))) 18 (rgF (fun _ => vp_nar .byte 0) (8192 * f + y) (z - y) (M 18))) 19 (laF (19 * f) z (M 19) 19)) 36 (upd (M 36) w 0)) := ⟨hF, hf, hn, hs, hp0⟩
        exact ar_iret d_193_121 rfl rfl (⟨_, _, rfl, hS9, ⟨c, to - y + z, e20, nI_tz hy2 (by omega) hI.2.2.2.2.2.2.2.2, hI.size hbf hm ey hy1 (by omega) (Nat.le_of_not_lt hfu)⟩, ⟨fun k h20 h21 => by
          show upd (M 0) 21 (nI to + (nI z - nI y)) k = M 0 k
          rw [pk_un h21], rfl, rfl, rfl, rfl, rfl, rfl, rfl, rfl, rfl, rfl, rfl⟩, fun hT x hx => inR_up12 hT ⟨0, by decide, rfl⟩ x hx⟩)
  · have hk9 : M 27 w = 4 := ekd
    refine ar_tabIn 122 d_193_20 (by rw [hk9]; decide) (by rw [hk9]; rfl) (by decide) ?_
    obtain ⟨z, hz, ez⟩ := h28 (Or.inr (Or.inr hk9))
    obtain ⟨b2, hb2, eb2⟩ := h29 hk9
    refine ar_aload_n 123 d_193_122 rfl rfl ?_
    refine ar_iload_n 124 d_193_123 rfl rfl ?_
    rcases hI.fnd (M 14) (M 30) (400 * w + 200 * 0) n1 with hvf | ⟨f, hbf, hm, hvf⟩
    · refine ar_call (r := []) (na := 0) (kd := 0) (cm := 201) (fr2 := fr - 1) (lo2 := lo - 24) 127 d_193_124 (ar_hoV (as := [.int (nI w)]) rfl rfl rfl (hF.at 0 rfl)) rfl (by omega) (show lo - 24 + (19 + 5) = lo by omega) (Nat.le_of_ble_eq_true rfl) (Nat.le_of_ble_eq_true rfl) (n_201N (by omega) (by omega) hc hw en1 (by omega) hog hlf hvf rfl rfl rfl q20 rfl rfl (hF.sub (F' := [cRo m p al M, cRI (p + 3) 48 (M 12), cRB (p + 5) 9600 (M 14), cRI (p + 6) 48 (M 15), cRB (p + 14) 4800 (M 30), cRI (p + 15) 24 (M 31)]) [0, 4, 6, 7, 15, 16] rfl rfl)) ?_
      intro v hh hq
      obtain ⟨rfl, ehh⟩ := hq
      rw [ehh]
      clear ehh
      have hS9 : RS m p al AL h0 hp_1 (va_up M 36 (upd (M 36) w 0)) := ⟨hF, hf, hn, hs, hp0⟩
      exact ar_iret d_193_127 rfl rfl (⟨_, _, rfl, hS9, ⟨c, to, e20, e21, hI⟩, ⟨fun k h20 h21 => rfl, rfl, rfl, rfl, rfl, rfl, rfl, rfl, rfl, rfl, rfl, rfl⟩, fun hT x hx => inR_up12 hT ⟨0, by decide, rfl⟩ x hx⟩)
    · obtain ⟨y, ey, hy1, hy2⟩ := hI.sz hbf hm
      refine ar_call (r := []) (na := 0) (kd := 0) (cm := 201) (fr2 := fr - 1) (lo2 := lo - 24) 127 d_193_124 (ar_hoV (as := [.int (nI w)]) rfl rfl rfl (hF.at 0 rfl)) rfl (by omega) (show lo - 24 + (19 + 5) = lo by omega) (Nat.le_of_ble_eq_true rfl) (Nat.le_of_ble_eq_true rfl) (n_201Y (by omega) (by omega) hc hw en1 (by omega) hog hlf hvf hbf ey hy1 ez (by omega) eb2 (by omega) rfl rfl rfl rfl rfl rfl rfl q20 rfl rfl rfl rfl rfl rfl (hF.sub (F' := [cRo m p al M, cRI (p + 3) 48 (M 12), cRB (p + 5) 9600 (M 14), cRI (p + 6) 48 (M 15), cRB (p + 14) 4800 (M 30), cRI (p + 15) 24 (M 31), cRI (p + 8) 48 (M 17), cRB (p + 9) 393216 (M 18), cRI (p + 12) 12 (M 28), cRI (p + 13) 12 (M 29), cRI (p + 19) 24576 (M 35), (p + 20, .inl (0, 12, .inl (upd (M 36) w 0)))]) [0, 4, 6, 7, 15, 16, 9, 10, 13, 14, 20, 21] rfl rfl) rfl rfl (by omega)) ?_
      intro v hp_8 hq
      obtain ⟨rfl, qF, qn, qs, qf⟩ := hq
      have qF : ax_hs hp_8 [cRo m p al M, cRI (p + 3) 48 (M 12), cRB (p + 5) 9600 (M 14), cRI (p + 6) 48 (M 15), cRB (p + 14) 4800 (M 30), cRI (p + 15) 24 (M 31), cRI (p + 8) 48 (M 17), cRB (p + 9) 393216 (M 18), cRI (p + 12) 12 (M 28), cRI (p + 13) 12 (M 29), (p + 19, .inl (0, 24576, .inl (rgF (fun i => (M 18 (8192 * f + z + i)) &&& 255) (2048 * w) (min (y - z) b2) (M 35)))), (p + 20, .inl (0, 12, .inl (upd (upd (M 36) w 0) w (nI (min (y - z) b2)))))] := qF
      replace hF : ax_hs hp_8 [cRB p 2048 (M 8), cRB (p + 1) 400 (M 10), cRI (p + 2) 2 (M 11), cRZ (p + 4) 48 (M 13), cRI (p + 7) 48 (M 16), cRZ (p + 10) 912 (M 19), cRI (p + 11) 12 (M 27), cRB (p + 16) 24576 (M 32), cRI (p + 17) 12 (M 33), cRI al AL (M 34), cRo m p al M, cRI (p + 3) 48 (M 12), cRB (p + 5) 9600 (M 14), cRI (p + 6) 48 (M 15), cRB (p + 14) 4800 (M 30), cRI (p + 15) 24 (M 31), cRI (p + 8) 48 (M 17), cRB (p + 9) 393216 (M 18), cRI (p + 12) 12 (M 28), cRI (p + 13) 12 (M 29), (p + 19, .inl (0, 24576, .inl (rgF (fun i => (M 18 (8192 * f + z + i)) &&& 255) (2048 * w) (min (y - z) b2) (M 35)))), (p + 20, .inl (0, 12, .inl (upd (upd (M 36) w 0) w (nI (min (y - z) b2)))))] := ax_hs.call (rest := [cRB p 2048 (M 8), cRB (p + 1) 400 (M 10), cRI (p + 2) 2 (M 11), cRZ (p + 4) 48 (M 13), cRI (p + 7) 48 (M 16), cRZ (p + 10) 912 (M 19), cRI (p + 11) 12 (M 27), cRB (p + 16) 24576 (M 32), cRI (p + 17) 12 (M 33), cRI al AL (M 34)]) [0, 4, 6, 7, 15, 16, 9, 10, 13, 14, 20, 21] [1, 2, 3, 5, 8, 11, 12, 17, 18, 19] hF qf qF rfl rfl rfl [20, 21] rfl rfl [0, 4, 6, 7, 15, 16, 9, 10, 13, 14, 20, 21] (news := []) rfl rfl (fun _ z => absurd z List.not_mem_nil) rfl
      replace hF := hF.sub (F' := [cRo m p al M, cRB p 2048 (M 8), cRB (p + 1) 400 (M 10), cRI (p + 2) 2 (M 11), cRI (p + 3) 48 (M 12), cRZ (p + 4) 48 (M 13), cRB (p + 5) 9600 (M 14), cRI (p + 6) 48 (M 15), cRI (p + 7) 48 (M 16), cRI (p + 8) 48 (M 17), cRB (p + 9) 393216 (M 18), cRZ (p + 10) 912 (M 19), cRI (p + 11) 12 (M 27), cRI (p + 12) 12 (M 28), cRI (p + 13) 12 (M 29), cRB (p + 14) 4800 (M 30), cRI (p + 15) 24 (M 31), cRB (p + 16) 24576 (M 32), cRI (p + 17) 12 (M 33), cRI al AL (M 34), (p + 19, .inl (0, 24576, .inl (rgF (fun i => (M 18 (8192 * f + z + i)) &&& 255) (2048 * w) (min (y - z) b2) (M 35)))), (p + 20, .inl (0, 12, .inl (upd (upd (M 36) w 0) w (nI (min (y - z) b2)))))]) [10, 0, 1, 2, 11, 3, 12, 13, 4, 16, 17, 5, 6, 18, 19, 14, 15, 7, 8, 9, 20, 21] rfl rfl
      replace hf := hf.trC qf (fun x _ z => by simp only [List.mem_cons, List.not_mem_nil, or_false] at z; show m ≤ x; omega)
      replace hn : hp_8.1 = h0.1 := by omega
      replace hs : hp_8.2.1 = h0.2.1 := by omega
      clear qF qn qs qf
      have hS9 : RS m p al AL h0 hp_8 (va_up (va_up M 35 (rgF (fun i => (M 18 (8192 * f + z + i)) &&& 255) (2048 * w) (min (y - z) b2) (M 35))) 36 (upd (upd (M 36) w 0) w (nI (min (y - z) b2)))) := ⟨hF, hf, hn, hs, hp0⟩
      exact ar_iret d_193_127 rfl rfl (⟨_, _, rfl, hS9, ⟨c, to, e20, e21, hI⟩, ⟨fun k h20 h21 => rfl, rfl, rfl, rfl, rfl, rfl, rfl, rfl, rfl, rfl, rfl, rfl⟩, fun hT x hx => inR_up12 (inR_up12 hT ⟨0, by decide, rfl⟩) ⟨min (y - z) b2, by omega, rfl⟩ x hx⟩)
  · have hk9 : M 27 w = 5 := ekd
    refine ar_tabIn 128 d_193_20 (by rw [hk9]; decide) (by rw [hk9]; rfl) (by decide) ?_
    rcases hI.fnd (M 14) (M 30) (400 * w + 200 * 0) n1 with hvf | ⟨f, hbf, hm, hvf⟩
    · rw [hvf]
      refine ar_iload_n 129 d_193_128 rfl rfl ?_
      refine ar_if_ge 137 132 d_193_129 (by decide) rfl (fun c => absurd c (by decide)) (fun _ => ?_)
      refine ar_bipush 134 (v := -2) d_193_132 rfl (by decide) ?_
      refine ar_goto 142 d_193_134 (by decide) ?_
      have hS9 : RS m p al AL h0 hp_1 (va_up M 36 (upd (M 36) w 0)) := ⟨hF, hf, hn, hs, hp0⟩
      exact ar_iret d_193_142 rfl rfl (⟨_, _, rfl, hS9, ⟨c, to, e20, e21, hI⟩, ⟨fun k h20 h21 => rfl, rfl, rfl, rfl, rfl, rfl, rfl, rfl, rfl, rfl, rfl, rfl⟩, fun hT x hx => inR_up12 hT ⟨0, by decide, rfl⟩ x hx⟩)
    · rw [hvf]
      obtain ⟨y, ey, hy1, hy2⟩ := hI.sz hbf hm
      refine ar_iload_n 129 d_193_128 rfl rfl ?_
      refine ar_if_ge 137 132 d_193_129 (by decide) rfl (fun _ => ?_) (fun c => absurd (nI_pos' (by omega)) c)
      refine ar_aload_n 138 d_193_137 rfl rfl ?_
      refine ar_iload_n 139 d_193_138 rfl rfl ?_
      refine ar_call (r := []) (na := 0) (kd := 0) (cm := 202) (fr2 := fr - 1) (lo2 := lo - 21) 142 d_193_139 (ar_hoV (as := [.int (nI f)]) rfl rfl rfl (hF.at 0 rfl)) rfl (by omega) (show lo - 21 + (19 + 2) = lo by omega) (Nat.le_of_ble_eq_true rfl) (Nat.le_of_ble_eq_true rfl) (n_202 (to := nI to) (by omega) (by omega) hc hbf rfl rfl rfl rfl q20 q21 (hF.sub (F' := [cRo m p al M, cRI (p + 3) 48 (M 12), cRZ (p + 4) 48 (M 13), cRI (p + 8) 48 (M 17)]) [0, 4, 5, 9] rfl rfl) rfl rfl (by omega)) ?_
      intro v hp_9 hq
      obtain ⟨fs1, rfl, yl, y20, y21, yO, qF, qn, qs, qf⟩ := hq
      obtain rfl : fs1 = RV p al (upd (upd (M 0) 20 (nI (lvN (nI f) c 0 0 (M 12)))) 21 (nI to - M 17 f)) := set2 (fs := RV p al (M 0)) yl (show 20 < 39 by decide) (show 21 < 39 by decide) y20 y21 (by decide) yO
      clear yl yO y20 y21
      have qF : ax_hs hp_9 [(m, .inr (11, RV p al (upd (upd (M 0) 20 (nI (lvN (nI f) c 0 0 (M 12)))) 21 (nI to - M 17 f)))), (p + 3, .inl (0, 48, .inl (lvF (nI f) c 0 0 (M 12)))), (p + 4, .inl (2, 48, .inl (upd (M 13) f (vp_nar .boolean 0)))), cRI (p + 8) 48 (M 17)] := qF
      replace hF : ax_hs hp_9 [cRB p 2048 (M 8), cRB (p + 1) 400 (M 10), cRI (p + 2) 2 (M 11), cRB (p + 5) 9600 (M 14), cRI (p + 6) 48 (M 15), cRI (p + 7) 48 (M 16), cRB (p + 9) 393216 (M 18), cRZ (p + 10) 912 (M 19), cRI (p + 11) 12 (M 27), cRI (p + 12) 12 (M 28), cRI (p + 13) 12 (M 29), cRB (p + 14) 4800 (M 30), cRI (p + 15) 24 (M 31), cRB (p + 16) 24576 (M 32), cRI (p + 17) 12 (M 33), cRI al AL (M 34), cRI (p + 19) 24576 (M 35), (p + 20, .inl (0, 12, .inl (upd (M 36) w 0))), (m, .inr (11, RV p al (upd (upd (M 0) 20 (nI (lvN (nI f) c 0 0 (M 12)))) 21 (nI to - M 17 f)))), (p + 3, .inl (0, 48, .inl (lvF (nI f) c 0 0 (M 12)))), (p + 4, .inl (2, 48, .inl (upd (M 13) f (vp_nar .boolean 0)))), cRI (p + 8) 48 (M 17)] := ax_hs.call (rest := [cRB p 2048 (M 8), cRB (p + 1) 400 (M 10), cRI (p + 2) 2 (M 11), cRB (p + 5) 9600 (M 14), cRI (p + 6) 48 (M 15), cRI (p + 7) 48 (M 16), cRB (p + 9) 393216 (M 18), cRZ (p + 10) 912 (M 19), cRI (p + 11) 12 (M 27), cRI (p + 12) 12 (M 28), cRI (p + 13) 12 (M 29), cRB (p + 14) 4800 (M 30), cRI (p + 15) 24 (M 31), cRB (p + 16) 24576 (M 32), cRI (p + 17) 12 (M 33), cRI al AL (M 34), cRI (p + 19) 24576 (M 35), (p + 20, .inl (0, 12, .inl (upd (M 36) w 0)))]) [0, 4, 5, 9] [1, 2, 3, 6, 7, 8, 10, 11, 12, 13, 14, 15, 16, 17, 18, 19, 20, 21] hF qf qF rfl rfl rfl [0, 4, 5] rfl rfl [0, 4, 5, 9] (news := []) rfl rfl (fun _ z => absurd z List.not_mem_nil) rfl
      replace hF := hF.sub (F' := [(m, .inr (11, RV p al (upd (upd (M 0) 20 (nI (lvN (nI f) c 0 0 (M 12)))) 21 (nI to - M 17 f)))), cRB p 2048 (M 8), cRB (p + 1) 400 (M 10), cRI (p + 2) 2 (M 11), (p + 3, .inl (0, 48, .inl (lvF (nI f) c 0 0 (M 12)))), (p + 4, .inl (2, 48, .inl (upd (M 13) f (vp_nar .boolean 0)))), cRB (p + 5) 9600 (M 14), cRI (p + 6) 48 (M 15), cRI (p + 7) 48 (M 16), cRI (p + 8) 48 (M 17), cRB (p + 9) 393216 (M 18), cRZ (p + 10) 912 (M 19), cRI (p + 11) 12 (M 27), cRI (p + 12) 12 (M 28), cRI (p + 13) 12 (M 29), cRB (p + 14) 4800 (M 30), cRI (p + 15) 24 (M 31), cRB (p + 16) 24576 (M 32), cRI (p + 17) 12 (M 33), cRI al AL (M 34), cRI (p + 19) 24576 (M 35), (p + 20, .inl (0, 12, .inl (upd (M 36) w 0)))]) [18, 0, 1, 2, 19, 20, 3, 4, 5, 21, 6, 7, 8, 9, 10, 11, 12, 13, 14, 15, 16, 17] rfl rfl
      replace hf := hf.trC qf (fun x _ z => by simp only [List.mem_cons, List.not_mem_nil, or_false] at z; show m ≤ x; omega)
      replace hn : hp_9.1 = h0.1 := by omega
      replace hs : hp_9.2.1 = h0.2.1 := by omega
      clear qF qn qs qf
      have hS9 : RS m p al AL h0 hp_9 (va_up (va_up (va_up (va_up M 0 (upd (upd (M 0) 20 (nI (lvN (nI f) c 0 0 (M 12)))) 21 (nI to - M 17 f))) 12 (lvF (nI f) c 0 0 (M 12))) 13 (upd (M 13) f (vp_nar .boolean 0))) 36 (upd (M 36) w 0)) := ⟨hF, hf, hn, hs, hp0⟩
      exact ar_iret d_193_142 rfl rfl (⟨_, _, rfl, hS9, ⟨_, to - y, rfl, show nI to - M 17 f = nI (to - y) by rw [ey]; exact nI_sub hy2, hI.gone hbf hm ey hy1⟩, ⟨fun k h20 h21 => by
        show upd (upd (M 0) 20 (nI (lvN (nI f) c 0 0 (M 12)))) 21 (nI to - M 17 f) k = M 0 k
        rw [pk_un h21, pk_un h20], rfl, rfl, rfl, rfl, rfl, rfl, rfl, rfl, rfl, rfl, rfl⟩, fun hT x hx => inR_up12 hT ⟨0, by decide, rfl⟩ x hx⟩)
  · have hk9 : M 27 w = 6 := ekd
    refine ar_tabIn 143 d_193_20 (by rw [hk9]; decide) (by rw [hk9]; rfl) (by decide) ?_
    refine ar_aload_n 144 d_193_143 rfl rfl ?_
    refine ar_iload_n 145 d_193_144 rfl rfl ?_
    rcases hI.fnd (M 14) (M 30) (400 * w + 200 * 0) n1 with hvf | ⟨f, hbf, hm, hvf⟩
    · refine ar_call (r := []) (na := 0) (kd := 0) (cm := 204) (fr2 := fr - 1) (lo2 := lo - 23) 148 d_193_145 (ar_hoV (as := [.int (nI w)]) rfl rfl rfl (hF.at 0 rfl)) rfl (by omega) (show lo - 23 + (19 + 4) = lo by omega) (Nat.le_of_ble_eq_true rfl) (Nat.le_of_ble_eq_true rfl) (n_204N (by omega) (by omega) hc hw en1 (by omega) en3 (by omega) hog hlf hvf rfl rfl rfl q20 rfl rfl (hF.sub (F' := [cRo m p al M, cRI (p + 3) 48 (M 12), cRB (p + 5) 9600 (M 14), cRI (p + 6) 48 (M 15), cRB (p + 14) 4800 (M 30), cRI (p + 15) 24 (M 31)]) [0, 4, 6, 7, 15, 16] rfl rfl)) ?_
      intro v hh hq
      obtain ⟨rfl, ehh⟩ := hq
      rw [ehh]
      clear ehh
      have hS9 : RS m p al AL h0 hp_1 (va_up M 36 (upd (M 36) w 0)) := ⟨hF, hf, hn, hs, hp0⟩
      exact ar_iret d_193_148 rfl rfl (⟨_, _, rfl, hS9, ⟨c, to, e20, e21, hI⟩, ⟨fun k h20 h21 => rfl, rfl, rfl, rfl, rfl, rfl, rfl, rfl, rfl, rfl, rfl, rfl⟩, fun hT x hx => inR_up12 hT ⟨0, by decide, rfl⟩ x hx⟩)
    · rcases hI.fnd (M 14) (M 30) (400 * w + 200 * 1) n3 with hvg | ⟨g, hbg, hm2, hvg⟩
      · obtain ⟨p1, e1⟩ := lv_perm hog hI.2.2.1 hbf hm
        refine ar_call (r := []) (na := 0) (kd := 0) (cm := 204) (fr2 := fr - 1) (lo2 := lo - 23) 148 d_193_145 (ar_hoV (as := [.int (nI w)]) rfl rfl rfl (hF.at 0 rfl)) rfl (by omega) (show lo - 23 + (19 + 4) = lo by omega) (Nat.le_of_ble_eq_true rfl) (Nat.le_of_ble_eq_true rfl) (n_204A (to := nI to) (by omega) (by omega) hc hw en1 (by omega) en3 (by omega) hog hlf hbf hvf hvg (by omega) (ogB.lv hog) rfl rfl rfl rfl rfl rfl q20 q21 rfl rfl (hF.sub (F' := [cRo m p al M, cRI (p + 3) 48 (M 12), cRB (p + 5) 9600 (M 14), cRI (p + 6) 48 (M 15), cRB (p + 14) 4800 (M 30), cRI (p + 15) 24 (M 31), cRZ (p + 4) 48 (M 13), cRI (p + 8) 48 (M 17)]) [0, 4, 6, 7, 15, 16, 5, 9] rfl rfl) rfl rfl (by omega)) ?_
        intro v hp_10 hq
        obtain ⟨fs1, rfl, yl, y20, yO, qF, qn, qs, qf⟩ := hq
        obtain rfl : fs1 = RV p al (upd (M 0) 20 (nI (lvN (nI f) c 0 0 (M 12) + 1))) := set1 (fs := RV p al (M 0)) yl (show 20 < 39 by decide) y20 yO
        clear yl yO y20
        have qF : ax_hs hp_10 [(m, .inr (11, RV p al (upd (M 0) 20 (nI (lvN (nI f) c 0 0 (M 12) + 1))))), (p + 3, .inl (0, 48, .inl (enF (M 14) (M 30) (M 15) (400 * w + 200 * 1) n3 (lvN (nI f) c 0 0 (M 12)) (lvF (nI f) c 0 0 (M 12)) f))), (p + 5, .inl (1, 9600, .inl (rgF (fun i => vp_nar .byte (M 30 ((400 * w + 200 * 1) + i))) (200 * f) n3 (M 14)))), (p + 6, .inl (0, 48, .inl (upd (M 15) f (nI n3)))), cRB (p + 14) 4800 (M 30), cRI (p + 15) 24 (M 31), cRZ (p + 4) 48 (M 13), cRI (p + 8) 48 (M 17)] := qF
        replace hF : ax_hs hp_10 [cRB p 2048 (M 8), cRB (p + 1) 400 (M 10), cRI (p + 2) 2 (M 11), cRI (p + 7) 48 (M 16), cRB (p + 9) 393216 (M 18), cRZ (p + 10) 912 (M 19), cRI (p + 11) 12 (M 27), cRI (p + 12) 12 (M 28), cRI (p + 13) 12 (M 29), cRB (p + 16) 24576 (M 32), cRI (p + 17) 12 (M 33), cRI al AL (M 34), cRI (p + 19) 24576 (M 35), (p + 20, .inl (0, 12, .inl (upd (M 36) w 0))), (m, .inr (11, RV p al (upd (M 0) 20 (nI (lvN (nI f) c 0 0 (M 12) + 1))))), (p + 3, .inl (0, 48, .inl (enF (M 14) (M 30) (M 15) (400 * w + 200 * 1) n3 (lvN (nI f) c 0 0 (M 12)) (lvF (nI f) c 0 0 (M 12)) f))), (p + 5, .inl (1, 9600, .inl (rgF (fun i => vp_nar .byte (M 30 ((400 * w + 200 * 1) + i))) (200 * f) n3 (M 14)))), (p + 6, .inl (0, 48, .inl (upd (M 15) f (nI n3)))), cRB (p + 14) 4800 (M 30), cRI (p + 15) 24 (M 31), cRZ (p + 4) 48 (M 13), cRI (p + 8) 48 (M 17)] := ax_hs.call (rest := [cRB p 2048 (M 8), cRB (p + 1) 400 (M 10), cRI (p + 2) 2 (M 11), cRI (p + 7) 48 (M 16), cRB (p + 9) 393216 (M 18), cRZ (p + 10) 912 (M 19), cRI (p + 11) 12 (M 27), cRI (p + 12) 12 (M 28), cRI (p + 13) 12 (M 29), cRB (p + 16) 24576 (M 32), cRI (p + 17) 12 (M 33), cRI al AL (M 34), cRI (p + 19) 24576 (M 35), (p + 20, .inl (0, 12, .inl (upd (M 36) w 0)))]) [0, 4, 6, 7, 15, 16, 5, 9] [1, 2, 3, 8, 10, 11, 12, 13, 14, 17, 18, 19, 20, 21] hF qf qF rfl rfl rfl [0, 4, 5, 6, 7] rfl rfl [0, 4, 6, 7, 15, 16, 5, 9] (news := []) rfl rfl (fun _ z => absurd z List.not_mem_nil) rfl
        replace hF := hF.sub (F' := [(m, .inr (11, RV p al (upd (M 0) 20 (nI (lvN (nI f) c 0 0 (M 12) + 1))))), cRB p 2048 (M 8), cRB (p + 1) 400 (M 10), cRI (p + 2) 2 (M 11), (p + 3, .inl (0, 48, .inl (enF (M 14) (M 30) (M 15) (400 * w + 200 * 1) n3 (lvN (nI f) c 0 0 (M 12)) (lvF (nI f) c 0 0 (M 12)) f))), cRZ (p + 4) 48 (M 13), (p + 5, .inl (1, 9600, .inl (rgF (fun i => vp_nar .byte (M 30 ((400 * w + 200 * 1) + i))) (200 * f) n3 (M 14)))), (p + 6, .inl (0, 48, .inl (upd (M 15) f (nI n3)))), cRI (p + 7) 48 (M 16), cRI (p + 8) 48 (M 17), cRB (p + 9) 393216 (M 18), cRZ (p + 10) 912 (M 19), cRI (p + 11) 12 (M 27), cRI (p + 12) 12 (M 28), cRI (p + 13) 12 (M 29), cRB (p + 14) 4800 (M 30), cRI (p + 15) 24 (M 31), cRB (p + 16) 24576 (M 32), cRI (p + 17) 12 (M 33), cRI al AL (M 34), cRI (p + 19) 24576 (M 35), (p + 20, .inl (0, 12, .inl (upd (M 36) w 0)))]) [14, 0, 1, 2, 15, 20, 16, 17, 3, 21, 4, 5, 6, 7, 8, 18, 19, 9, 10, 11, 12, 13] rfl rfl
        replace hf := hf.trC qf (fun x _ z => by simp only [List.mem_cons, List.not_mem_nil, or_false] at z; show m ≤ x; omega)
        replace hn : hp_10.1 = h0.1 := by omega
        replace hs : hp_10.2.1 = h0.2.1 := by omega
        clear qF qn qs qf
        have hS9 : RS m p al AL h0 hp_10 (va_up (va_up (va_up (va_up (va_up M 0 (upd (M 0) 20 (nI (lvN (nI f) c 0 0 (M 12) + 1)))) 12 (enF (M 14) (M 30) (M 15) (400 * w + 200 * 1) n3 (lvN (nI f) c 0 0 (M 12)) (lvF (nI f) c 0 0 (M 12)) f)) 14 (rgF (fun i => vp_nar .byte (M 30 ((400 * w + 200 * 1) + i))) (200 * f) n3 (M 14))) 15 (upd (M 15) f (nI n3))) 36 (upd (M 36) w 0)) := ⟨hF, hf, hn, hs, hp0⟩
        exact ar_iret d_193_148 rfl rfl (⟨_, _, rfl, hS9, ⟨_, to, rfl, e21, hI.ren hbf hm (by omega)⟩, ⟨fun k h20 h21 => by
          show upd (M 0) 20 (nI (lvN (nI f) c 0 0 (M 12) + 1)) k = M 0 k
          rw [pk_un h20], rfl, rfl, rfl, rfl, rfl, rfl, rfl, rfl, rfl, rfl, rfl⟩, fun hT x hx => inR_up12 hT ⟨0, by decide, rfl⟩ x hx⟩)
      · by_cases hgf : g = f
        · refine ar_call (r := []) (na := 0) (kd := 0) (cm := 204) (fr2 := fr - 1) (lo2 := lo - 23) 148 d_193_145 (ar_hoV (as := [.int (nI w)]) rfl rfl rfl (hF.at 0 rfl)) rfl (by omega) (show lo - 23 + (19 + 4) = lo by omega) (Nat.le_of_ble_eq_true rfl) (Nat.le_of_ble_eq_true rfl) (n_204S (by omega) (by omega) hc hw en1 (by omega) en3 (by omega) hog hlf hbf hvf (by rw [hvg, hgf]) rfl rfl rfl q20 rfl rfl (hF.sub (F' := [cRo m p al M, cRI (p + 3) 48 (M 12), cRB (p + 5) 9600 (M 14), cRI (p + 6) 48 (M 15), cRB (p + 14) 4800 (M 30), cRI (p + 15) 24 (M 31)]) [0, 4, 6, 7, 15, 16] rfl rfl)) ?_
          intro v hh hq
          obtain ⟨rfl, ehh⟩ := hq
          rw [ehh]
          clear ehh
          have hS9 : RS m p al AL h0 hp_1 (va_up M 36 (upd (M 36) w 0)) := ⟨hF, hf, hn, hs, hp0⟩
          exact ar_iret d_193_148 rfl rfl (⟨_, _, rfl, hS9, ⟨c, to, e20, e21, hI⟩, ⟨fun k h20 h21 => rfl, rfl, rfl, rfl, rfl, rfl, rfl, rfl, rfl, rfl, rfl, rfl⟩, fun hT x hx => inR_up12 hT ⟨0, by decide, rfl⟩ x hx⟩)
        · obtain ⟨yg, eyg, hyg1, hyg2⟩ := hI.sz hbg hm2
          have hI2 := hI.gone hbg hm2 eyg hyg1
          obtain ⟨p1, e1⟩ := lv_perm hog hI.2.2.1 hbg hm2
          have hmf : f ∈ oL (lvF (nI g) c 0 0 (M 12)) (lvN (nI g) c 0 0 (M 12)) := (List.mem_cons.mp (p1.mem_iff.mpr hm)).resolve_left (fun z => hgf z.symm)
          obtain ⟨p2, e2⟩ := lv_perm hI2.2.1 hI2.2.2.1 hbf hmf
          refine ar_call (r := []) (na := 0) (kd := 0) (cm := 204) (fr2 := fr - 1) (lo2 := lo - 23) 148 d_193_145 (ar_hoV (as := [.int (nI w)]) rfl rfl rfl (hF.at 0 rfl)) rfl (by omega) (show lo - 23 + (19 + 4) = lo by omega) (Nat.le_of_ble_eq_true rfl) (Nat.le_of_ble_eq_true rfl) (n_204G (to := nI to) (by omega) (by omega) hc hw en1 (by omega) en3 (by omega) hog hlf hbf hvf hbg hgf hvg (by omega) (by omega) (ogB.lv hI2.2.1) rfl rfl rfl rfl rfl rfl q20 q21 rfl rfl (hF.sub (F' := [cRo m p al M, cRI (p + 3) 48 (M 12), cRB (p + 5) 9600 (M 14), cRI (p + 6) 48 (M 15), cRB (p + 14) 4800 (M 30), cRI (p + 15) 24 (M 31), cRZ (p + 4) 48 (M 13), cRI (p + 8) 48 (M 17)]) [0, 4, 6, 7, 15, 16, 5, 9] rfl rfl) rfl rfl (by omega)) ?_
          intro v hp_11 hq
          obtain ⟨fs1, rfl, yl, y20, y21, yO, qF, qn, qs, qf⟩ := hq
          obtain rfl : fs1 = RV p al (upd (upd (M 0) 20 (nI (l2N g f c (M 12) + 1))) 21 (nI to - M 17 g)) := set2 (fs := RV p al (M 0)) yl (show 20 < 39 by decide) (show 21 < 39 by decide) y20 y21 (by decide) yO
          clear yl yO y20 y21
          have qF : ax_hs hp_11 [(m, .inr (11, RV p al (upd (upd (M 0) 20 (nI (l2N g f c (M 12) + 1))) 21 (nI to - M 17 g)))), (p + 3, .inl (0, 48, .inl (enF (M 14) (M 30) (M 15) (400 * w + 200 * 1) n3 (l2N g f c (M 12)) (l2F g f c (M 12)) f))), (p + 5, .inl (1, 9600, .inl (rgF (fun i => vp_nar .byte (M 30 ((400 * w + 200 * 1) + i))) (200 * f) n3 (M 14)))), (p + 6, .inl (0, 48, .inl (upd (M 15) f (nI n3)))), cRB (p + 14) 4800 (M 30), cRI (p + 15) 24 (M 31), (p + 4, .inl (2, 48, .inl (upd (M 13) g (vp_nar .boolean 0)))), cRI (p + 8) 48 (M 17)] := qF
          replace hF : ax_hs hp_11 [cRB p 2048 (M 8), cRB (p + 1) 400 (M 10), cRI (p + 2) 2 (M 11), cRI (p + 7) 48 (M 16), cRB (p + 9) 393216 (M 18), cRZ (p + 10) 912 (M 19), cRI (p + 11) 12 (M 27), cRI (p + 12) 12 (M 28), cRI (p + 13) 12 (M 29), cRB (p + 16) 24576 (M 32), cRI (p + 17) 12 (M 33), cRI al AL (M 34), cRI (p + 19) 24576 (M 35), (p + 20, .inl (0, 12, .inl (upd (M 36) w 0))), (m, .inr (11, RV p al (upd (upd (M 0) 20 (nI (l2N g f c (M 12) + 1))) 21 (nI to - M 17 g)))), (p + 3, .inl (0, 48, .inl (enF (M 14) (M 30) (M 15) (400 * w + 200 * 1) n3 (l2N g f c (M 12)) (l2F g f c (M 12)) f))), (p + 5, .inl (1, 9600, .inl (rgF (fun i => vp_nar .byte (M 30 ((400 * w + 200 * 1) + i))) (200 * f) n3 (M 14)))), (p + 6, .inl (0, 48, .inl (upd (M 15) f (nI n3)))), cRB (p + 14) 4800 (M 30), cRI (p + 15) 24 (M 31), (p + 4, .inl (2, 48, .inl (upd (M 13) g (vp_nar .boolean 0)))), cRI (p + 8) 48 (M 17)] := ax_hs.call (rest := [cRB p 2048 (M 8), cRB (p + 1) 400 (M 10), cRI (p + 2) 2 (M 11), cRI (p + 7) 48 (M 16), cRB (p + 9) 393216 (M 18), cRZ (p + 10) 912 (M 19), cRI (p + 11) 12 (M 27), cRI (p + 12) 12 (M 28), cRI (p + 13) 12 (M 29), cRB (p + 16) 24576 (M 32), cRI (p + 17) 12 (M 33), cRI al AL (M 34), cRI (p + 19) 24576 (M 35), (p + 20, .inl (0, 12, .inl (upd (M 36) w 0)))]) [0, 4, 6, 7, 15, 16, 5, 9] [1, 2, 3, 8, 10, 11, 12, 13, 14, 17, 18, 19, 20, 21] hF qf qF rfl rfl rfl [0, 4, 5, 6, 7] rfl rfl [0, 4, 6, 7, 15, 16, 5, 9] (news := []) rfl rfl (fun _ z => absurd z List.not_mem_nil) rfl
          replace hF := hF.sub (F' := [(m, .inr (11, RV p al (upd (upd (M 0) 20 (nI (l2N g f c (M 12) + 1))) 21 (nI to - M 17 g)))), cRB p 2048 (M 8), cRB (p + 1) 400 (M 10), cRI (p + 2) 2 (M 11), (p + 3, .inl (0, 48, .inl (enF (M 14) (M 30) (M 15) (400 * w + 200 * 1) n3 (l2N g f c (M 12)) (l2F g f c (M 12)) f))), (p + 4, .inl (2, 48, .inl (upd (M 13) g (vp_nar .boolean 0)))), (p + 5, .inl (1, 9600, .inl (rgF (fun i => vp_nar .byte (M 30 ((400 * w + 200 * 1) + i))) (200 * f) n3 (M 14)))), (p + 6, .inl (0, 48, .inl (upd (M 15) f (nI n3)))), cRI (p + 7) 48 (M 16), cRI (p + 8) 48 (M 17), cRB (p + 9) 393216 (M 18), cRZ (p + 10) 912 (M 19), cRI (p + 11) 12 (M 27), cRI (p + 12) 12 (M 28), cRI (p + 13) 12 (M 29), cRB (p + 14) 4800 (M 30), cRI (p + 15) 24 (M 31), cRB (p + 16) 24576 (M 32), cRI (p + 17) 12 (M 33), cRI al AL (M 34), cRI (p + 19) 24576 (M 35), (p + 20, .inl (0, 12, .inl (upd (M 36) w 0)))]) [14, 0, 1, 2, 15, 20, 16, 17, 3, 21, 4, 5, 6, 7, 8, 18, 19, 9, 10, 11, 12, 13] rfl rfl
          replace hf := hf.trC qf (fun x _ z => by simp only [List.mem_cons, List.not_mem_nil, or_false] at z; show m ≤ x; omega)
          replace hn : hp_11.1 = h0.1 := by omega
          replace hs : hp_11.2.1 = h0.2.1 := by omega
          clear qF qn qs qf
          have hS9 : RS m p al AL h0 hp_11 (va_up (va_up (va_up (va_up (va_up (va_up M 0 (upd (upd (M 0) 20 (nI (l2N g f c (M 12) + 1))) 21 (nI to - M 17 g))) 12 (enF (M 14) (M 30) (M 15) (400 * w + 200 * 1) n3 (l2N g f c (M 12)) (l2F g f c (M 12)) f)) 13 (upd (M 13) g (vp_nar .boolean 0))) 14 (rgF (fun i => vp_nar .byte (M 30 ((400 * w + 200 * 1) + i))) (200 * f) n3 (M 14))) 15 (upd (M 15) f (nI n3))) 36 (upd (M 36) w 0)) := ⟨hF, hf, hn, hs, hp0⟩
          exact ar_iret d_193_148 rfl rfl (⟨_, _, rfl, hS9, ⟨_, to - yg, rfl, show nI to - M 17 g = nI (to - yg) by rw [eyg]; exact nI_sub hyg2, hI2.ren hbf hmf (by omega)⟩, ⟨fun k h20 h21 => by
            show upd (upd (M 0) 20 (nI (l2N g f c (M 12) + 1))) 21 (nI to - M 17 g) k = M 0 k
            rw [pk_un h21, pk_un h20], rfl, rfl, rfl, rfl, rfl, rfl, rfl, rfl, rfl, rfl, rfl⟩, fun hT x hx => inR_up12 hT ⟨0, by decide, rfl⟩ x hx⟩)
  · have hk9 : M 27 w = 7 := ekd
    refine ar_tabIn 149 d_193_20 (by rw [hk9]; decide) (by rw [hk9]; rfl) (by decide) ?_
    refine ar_aload_n 150 d_193_149 rfl rfl ?_
    refine ar_iload_n 151 d_193_150 rfl rfl ?_
    rcases hI.fnd (M 14) (M 30) (400 * w + 200 * 0) n1 with hvf | ⟨f, hbf, hm, hvf⟩
    · refine ar_call (r := []) (na := 0) (kd := 0) (cm := 205) (fr2 := fr - 1) (lo2 := lo - 23) 154 d_193_151 (ar_hoV (as := [.int (nI w)]) rfl rfl rfl (hF.at 0 rfl)) rfl (by omega) (show lo - 23 + (19 + 4) = lo by omega) (Nat.le_of_ble_eq_true rfl) (Nat.le_of_ble_eq_true rfl) (n_205N (by omega) (by omega) hc hw en1 (by omega) en3 (by omega) hog hlf hvf rfl (Or.inl (by decide)) rfl rfl rfl q20 rfl rfl (hF.sub (F' := [cRo m p al M, cRI (p + 3) 48 (M 12), cRB (p + 5) 9600 (M 14), cRI (p + 6) 48 (M 15), cRB (p + 14) 4800 (M 30), cRI (p + 15) 24 (M 31)]) [0, 4, 6, 7, 15, 16] rfl rfl)) ?_
      intro v hh hq
      obtain ⟨rfl, ehh⟩ := hq
      rw [ehh]
      clear ehh
      have hS9 : RS m p al AL h0 hp_1 (va_up M 36 (upd (M 36) w 0)) := ⟨hF, hf, hn, hs, hp0⟩
      exact ar_iret d_193_154 rfl rfl (⟨_, _, rfl, hS9, ⟨c, to, e20, e21, hI⟩, ⟨fun k h20 h21 => rfl, rfl, rfl, rfl, rfl, rfl, rfl, rfl, rfl, rfl, rfl, rfl⟩, fun hT x hx => inR_up12 hT ⟨0, by decide, rfl⟩ x hx⟩)
    · rcases hI.fnd (M 14) (M 30) (400 * w + 200 * 1) n3 with hvg | ⟨g, hbg, hm2, hvg⟩
      · refine ar_call (r := []) (na := 0) (kd := 0) (cm := 205) (fr2 := fr - 1) (lo2 := lo - 23) 154 d_193_151 (ar_hoV (as := [.int (nI w)]) rfl rfl rfl (hF.at 0 rfl)) rfl (by omega) (show lo - 23 + (19 + 4) = lo by omega) (Nat.le_of_ble_eq_true rfl) (Nat.le_of_ble_eq_true rfl) (n_205N (by omega) (by omega) hc hw en1 (by omega) en3 (by omega) hog hlf hvf hvg (Or.inr (by decide)) rfl rfl rfl q20 rfl rfl (hF.sub (F' := [cRo m p al M, cRI (p + 3) 48 (M 12), cRB (p + 5) 9600 (M 14), cRI (p + 6) 48 (M 15), cRB (p + 14) 4800 (M 30), cRI (p + 15) 24 (M 31)]) [0, 4, 6, 7, 15, 16] rfl rfl)) ?_
        intro v hh hq
        obtain ⟨rfl, ehh⟩ := hq
        rw [ehh]
        clear ehh
        have hS9 : RS m p al AL h0 hp_1 (va_up M 36 (upd (M 36) w 0)) := ⟨hF, hf, hn, hs, hp0⟩
        exact ar_iret d_193_154 rfl rfl (⟨_, _, rfl, hS9, ⟨c, to, e20, e21, hI⟩, ⟨fun k h20 h21 => rfl, rfl, rfl, rfl, rfl, rfl, rfl, rfl, rfl, rfl, rfl, rfl⟩, fun hT x hx => inR_up12 hT ⟨0, by decide, rfl⟩ x hx⟩)
      · by_cases hgf : g = f
        · refine ar_call (r := []) (na := 0) (kd := 0) (cm := 205) (fr2 := fr - 1) (lo2 := lo - 23) 154 d_193_151 (ar_hoV (as := [.int (nI w)]) rfl rfl rfl (hF.at 0 rfl)) rfl (by omega) (show lo - 23 + (19 + 4) = lo by omega) (Nat.le_of_ble_eq_true rfl) (Nat.le_of_ble_eq_true rfl) (n_205S (by omega) (by omega) hc hw en1 (by omega) en3 (by omega) hog hlf hbf hvf (by rw [hvg, hgf]) rfl rfl rfl q20 rfl rfl (hF.sub (F' := [cRo m p al M, cRI (p + 3) 48 (M 12), cRB (p + 5) 9600 (M 14), cRI (p + 6) 48 (M 15), cRB (p + 14) 4800 (M 30), cRI (p + 15) 24 (M 31)]) [0, 4, 6, 7, 15, 16] rfl rfl)) ?_
          intro v hh hq
          obtain ⟨rfl, ehh⟩ := hq
          rw [ehh]
          clear ehh
          have hS9 : RS m p al AL h0 hp_1 (va_up M 36 (upd (M 36) w 0)) := ⟨hF, hf, hn, hs, hp0⟩
          exact ar_iret d_193_154 rfl rfl (⟨_, _, rfl, hS9, ⟨c, to, e20, e21, hI⟩, ⟨fun k h20 h21 => rfl, rfl, rfl, rfl, rfl, rfl, rfl, rfl, rfl, rfl, rfl, rfl⟩, fun hT x hx => inR_up12 hT ⟨0, by decide, rfl⟩ x hx⟩)
        · obtain ⟨e2, hb2, hp2⟩ := hI.two hbf hm hbg hm2 hgf
          have e2a : lvN (nI g) (lvN (nI f) c 0 0 (M 12)) 0 0 (lvF (nI f) c 0 0 (M 12)) + 2 = c := e2
          obtain ⟨p1, e1⟩ := lv_perm hog hI.2.2.1 hbf hm
          have hl3 := (hI.perm (lf' := upd (M 15) f (nI n3)) (List.Perm.refl _) hog (inR_upd hI.2.2.2.2.1 ⟨n3, by omega, rfl⟩)).lf
          refine ar_call (r := []) (na := 0) (kd := 0) (cm := 205) (fr2 := fr - 1) (lo2 := lo - 23) 154 d_193_151 (ar_hoV (as := [.int (nI w)]) rfl rfl rfl (hF.at 0 rfl)) rfl (by omega) (show lo - 23 + (19 + 4) = lo by omega) (Nat.le_of_ble_eq_true rfl) (Nat.le_of_ble_eq_true rfl) (n_205Y (by omega) (by omega) hc hw en1 (by omega) en3 (by omega) hog hlf hbf hbg hgf hvf hvg (by omega) (by omega) (by omega) hb2 (ogB.en hb2 hbf) hl3 rfl rfl rfl rfl q20 rfl rfl (hF.sub (F' := [cRo m p al M, cRI (p + 3) 48 (M 12), cRB (p + 5) 9600 (M 14), cRI (p + 6) 48 (M 15), cRB (p + 14) 4800 (M 30), cRI (p + 15) 24 (M 31)]) [0, 4, 6, 7, 15, 16] rfl rfl) rfl rfl (by omega)) ?_
          intro v hp_12 hq
          obtain ⟨fs1, rfl, yl, y20, yO, qF, qn, qs, qf⟩ := hq
          obtain rfl : fs1 = RV p al (upd (M 0) 20 (nI (l2N f g c (M 12) + 1 + 1))) := set1 (fs := RV p al (M 0)) yl (show 20 < 39 by decide) y20 yO
          clear yl yO y20
          have qF : ax_hs hp_12 [(m, .inr (11, RV p al (upd (M 0) 20 (nI (l2N f g c (M 12) + 1 + 1))))), (p + 3, .inl (0, 48, .inl (enF (rgF (fun i => vp_nar .byte (M 30 ((400 * w + 200 * 1) + i))) (200 * f) n3 (M 14)) (M 30) (upd (M 15) f (nI n3)) (400 * w + 200 * 0) n1 (l2N f g c (M 12) + 1) (enF (M 14) (M 30) (M 15) (400 * w + 200 * 1) n3 (l2N f g c (M 12)) (l2F f g c (M 12)) f) g))), (p + 5, .inl (1, 9600, .inl (rgF (fun i => vp_nar .byte (M 30 ((400 * w + 200 * 0) + i))) (200 * g) n1 (rgF (fun i => vp_nar .byte (M 30 ((400 * w + 200 * 1) + i))) (200 * f) n3 (M 14))))), (p + 6, .inl (0, 48, .inl (upd (upd (M 15) f (nI n3)) g (nI n1)))), cRB (p + 14) 4800 (M 30), cRI (p + 15) 24 (M 31)] := qF
          replace hF : ax_hs hp_12 [cRB p 2048 (M 8), cRB (p + 1) 400 (M 10), cRI (p + 2) 2 (M 11), cRZ (p + 4) 48 (M 13), cRI (p + 7) 48 (M 16), cRI (p + 8) 48 (M 17), cRB (p + 9) 393216 (M 18), cRZ (p + 10) 912 (M 19), cRI (p + 11) 12 (M 27), cRI (p + 12) 12 (M 28), cRI (p + 13) 12 (M 29), cRB (p + 16) 24576 (M 32), cRI (p + 17) 12 (M 33), cRI al AL (M 34), cRI (p + 19) 24576 (M 35), (p + 20, .inl (0, 12, .inl (upd (M 36) w 0))), (m, .inr (11, RV p al (upd (M 0) 20 (nI (l2N f g c (M 12) + 1 + 1))))), (p + 3, .inl (0, 48, .inl (enF (rgF (fun i => vp_nar .byte (M 30 ((400 * w + 200 * 1) + i))) (200 * f) n3 (M 14)) (M 30) (upd (M 15) f (nI n3)) (400 * w + 200 * 0) n1 (l2N f g c (M 12) + 1) (enF (M 14) (M 30) (M 15) (400 * w + 200 * 1) n3 (l2N f g c (M 12)) (l2F f g c (M 12)) f) g))), (p + 5, .inl (1, 9600, .inl (rgF (fun i => vp_nar .byte (M 30 ((400 * w + 200 * 0) + i))) (200 * g) n1 (rgF (fun i => vp_nar .byte (M 30 ((400 * w + 200 * 1) + i))) (200 * f) n3 (M 14))))), (p + 6, .inl (0, 48, .inl (upd (upd (M 15) f (nI n3)) g (nI n1)))), cRB (p + 14) 4800 (M 30), cRI (p + 15) 24 (M 31)] := ax_hs.call (rest := [cRB p 2048 (M 8), cRB (p + 1) 400 (M 10), cRI (p + 2) 2 (M 11), cRZ (p + 4) 48 (M 13), cRI (p + 7) 48 (M 16), cRI (p + 8) 48 (M 17), cRB (p + 9) 393216 (M 18), cRZ (p + 10) 912 (M 19), cRI (p + 11) 12 (M 27), cRI (p + 12) 12 (M 28), cRI (p + 13) 12 (M 29), cRB (p + 16) 24576 (M 32), cRI (p + 17) 12 (M 33), cRI al AL (M 34), cRI (p + 19) 24576 (M 35), (p + 20, .inl (0, 12, .inl (upd (M 36) w 0)))]) [0, 4, 6, 7, 15, 16] [1, 2, 3, 5, 8, 9, 10, 11, 12, 13, 14, 17, 18, 19, 20, 21] hF qf qF rfl rfl rfl [0, 4, 6, 7] rfl rfl [0, 4, 6, 7, 15, 16] (news := []) rfl rfl (fun _ z => absurd z List.not_mem_nil) rfl
          replace hF := hF.sub (F' := [(m, .inr (11, RV p al (upd (M 0) 20 (nI (l2N f g c (M 12) + 1 + 1))))), cRB p 2048 (M 8), cRB (p + 1) 400 (M 10), cRI (p + 2) 2 (M 11), (p + 3, .inl (0, 48, .inl (enF (rgF (fun i => vp_nar .byte (M 30 ((400 * w + 200 * 1) + i))) (200 * f) n3 (M 14)) (M 30) (upd (M 15) f (nI n3)) (400 * w + 200 * 0) n1 (l2N f g c (M 12) + 1) (enF (M 14) (M 30) (M 15) (400 * w + 200 * 1) n3 (l2N f g c (M 12)) (l2F f g c (M 12)) f) g))), cRZ (p + 4) 48 (M 13), (p + 5, .inl (1, 9600, .inl (rgF (fun i => vp_nar .byte (M 30 ((400 * w + 200 * 0) + i))) (200 * g) n1 (rgF (fun i => vp_nar .byte (M 30 ((400 * w + 200 * 1) + i))) (200 * f) n3 (M 14))))), (p + 6, .inl (0, 48, .inl (upd (upd (M 15) f (nI n3)) g (nI n1)))), cRI (p + 7) 48 (M 16), cRI (p + 8) 48 (M 17), cRB (p + 9) 393216 (M 18), cRZ (p + 10) 912 (M 19), cRI (p + 11) 12 (M 27), cRI (p + 12) 12 (M 28), cRI (p + 13) 12 (M 29), cRB (p + 14) 4800 (M 30), cRI (p + 15) 24 (M 31), cRB (p + 16) 24576 (M 32), cRI (p + 17) 12 (M 33), cRI al AL (M 34), cRI (p + 19) 24576 (M 35), (p + 20, .inl (0, 12, .inl (upd (M 36) w 0)))]) [16, 0, 1, 2, 17, 3, 18, 19, 4, 5, 6, 7, 8, 9, 10, 20, 21, 11, 12, 13, 14, 15] rfl rfl
          replace hf := hf.trC qf (fun x _ z => by simp only [List.mem_cons, List.not_mem_nil, or_false] at z; show m ≤ x; omega)
          replace hn : hp_12.1 = h0.1 := by omega
          replace hs : hp_12.2.1 = h0.2.1 := by omega
          clear qF qn qs qf
          have hS9 : RS m p al AL h0 hp_12 (va_up (va_up (va_up (va_up (va_up M 0 (upd (M 0) 20 (nI (l2N f g c (M 12) + 1 + 1)))) 12 (enF (rgF (fun i => vp_nar .byte (M 30 ((400 * w + 200 * 1) + i))) (200 * f) n3 (M 14)) (M 30) (upd (M 15) f (nI n3)) (400 * w + 200 * 0) n1 (l2N f g c (M 12) + 1) (enF (M 14) (M 30) (M 15) (400 * w + 200 * 1) n3 (l2N f g c (M 12)) (l2F f g c (M 12)) f) g)) 14 (rgF (fun i => vp_nar .byte (M 30 ((400 * w + 200 * 0) + i))) (200 * g) n1 (rgF (fun i => vp_nar .byte (M 30 ((400 * w + 200 * 1) + i))) (200 * f) n3 (M 14)))) 15 (upd (upd (M 15) f (nI n3)) g (nI n1))) 36 (upd (M 36) w 0)) := ⟨hF, hf, hn, hs, hp0⟩
          exact ar_iret d_193_154 rfl rfl (⟨_, _, rfl, hS9, ⟨_, to, rfl, e21, hI.swp hbf hm hbg hm2 hgf (by omega) (by omega)⟩, ⟨fun k h20 h21 => by
            show upd (M 0) 20 (nI (l2N f g c (M 12) + 1 + 1)) k = M 0 k
            rw [pk_un h20], rfl, rfl, rfl, rfl, rfl, rfl, rfl, rfl, rfl, rfl, rfl⟩, fun hT x hx => inR_up12 hT ⟨0, by decide, rfl⟩ x hx⟩)
  · have hk9 : M 27 w = 8 := ekd
    refine ar_tabIn 155 d_193_20 (by rw [hk9]; decide) (by rw [hk9]; rfl) (by decide) ?_
    rcases hI.fnd (M 14) (M 30) (400 * w + 200 * 0) n1 with hvf | ⟨f, hbf, hm, hvf⟩
    · rw [hvf]
      refine ar_iload_n 156 d_193_155 rfl rfl ?_
      refine ar_if_ge 164 159 d_193_156 (by decide) rfl (fun c => absurd c (by decide)) (fun _ => ?_)
      refine ar_bipush 161 (v := -2) d_193_159 rfl (by decide) ?_
      refine ar_goto 170 d_193_161 (by decide) ?_
      have hS9 : RS m p al AL h0 hp_1 (va_up M 36 (upd (M 36) w 0)) := ⟨hF, hf, hn, hs, hp0⟩
      exact ar_iret d_193_170 rfl rfl (⟨_, _, rfl, hS9, ⟨c, to, e20, e21, hI⟩, ⟨fun k h20 h21 => rfl, rfl, rfl, rfl, rfl, rfl, rfl, rfl, rfl, rfl, rfl, rfl⟩, fun hT x hx => inR_up12 hT ⟨0, by decide, rfl⟩ x hx⟩)
    · rw [hvf]
      refine ar_iload_n 156 d_193_155 rfl rfl ?_
      refine ar_if_ge 164 159 d_193_156 (by decide) rfl (fun _ => ?_) (fun c => absurd (nI_pos' (by omega)) c)
      refine ar_aload_n 165 d_193_164 rfl rfl ?_
      refine ar_getf 168 d_193_165 rfl (ci := 11) (k := 17) rfl (hF.at 0 rfl) (show _ = some (.ref (p + 8)) from rfl) ?_
      refine ar_iload_n 169 d_193_168 rfl rfl ?_
      refine ar_iald 170 d_193_169 rfl (hF.at 9 rfl) (vin (by omega) (by omega)) ?_
      have hS9 : RS m p al AL h0 hp_1 (va_up M 36 (upd (M 36) w 0)) := ⟨hF, hf, hn, hs, hp0⟩
      exact ar_iret d_193_170 rfl rfl (⟨_, _, rfl, hS9, ⟨c, to, e20, e21, hI⟩, ⟨fun k h20 h21 => rfl, rfl, rfl, rfl, rfl, rfl, rfl, rfl, rfl, rfl, rfl, rfl⟩, fun hT x hx => inR_up12 hT ⟨0, by decide, rfl⟩ x hx⟩)
  · have hk9 : M 27 w = 9 := ekd
    refine ar_tabOut 171 d_193_20 (by rw [hk9]; decide) (by decide) ?_
    refine ar_aload_n 172 d_193_171 rfl rfl ?_
    refine ar_iload_n 173 d_193_172 rfl rfl ?_
    by_cases hnx : nxA (M 14) (M 30) (M 15) (400 * w + 200 * 0) n1 (M 12) c 0 < c
    · obtain ⟨l, hl2, el⟩ := hI.2.2.2.2.1 _ (hog _ hnx).2
      generalize ef : (M 12 (nxA (M 14) (M 30) (M 15) (400 * w + 200 * 0) n1 (M 12) c 0)).toNatClampNeg = f at el
      refine ar_call (r := []) (na := 0) (kd := 0) (cm := 206) (fr2 := fr - 1) (lo2 := lo - 24) 176 d_193_173 (ar_hoV (as := [.int (nI w)]) rfl rfl rfl (hF.at 0 rfl)) rfl (by omega) (show lo - 24 + (19 + 5) = lo by omega) (Nat.le_of_ble_eq_true rfl) (Nat.le_of_ble_eq_true rfl) (n_206Y (by omega) (by omega) hc hw en1 (by omega) hog hlf hnx ef el (by omega) rfl rfl rfl rfl q20 rfl rfl rfl rfl (hF.sub (F' := [cRo m p al M, cRI (p + 3) 48 (M 12), cRB (p + 5) 9600 (M 14), cRI (p + 6) 48 (M 15), cRB (p + 14) 4800 (M 30), cRI (p + 15) 24 (M 31), cRI (p + 19) 24576 (M 35), (p + 20, .inl (0, 12, .inl (upd (M 36) w 0)))]) [0, 4, 6, 7, 15, 16, 20, 21] rfl rfl) rfl rfl (by omega)) ?_
      intro v hp_13 hq
      obtain ⟨rfl, qF, qn, qs, qf⟩ := hq
      have qF : ax_hs hp_13 [cRo m p al M, cRI (p + 3) 48 (M 12), cRB (p + 5) 9600 (M 14), cRI (p + 6) 48 (M 15), cRB (p + 14) 4800 (M 30), cRI (p + 15) 24 (M 31), (p + 19, .inl (0, 24576, .inl (rgF (fun i => (M 14 (200 * f + i)) &&& 255) (2048 * w) l (M 35)))), (p + 20, .inl (0, 12, .inl (upd (upd (M 36) w 0) w (nI l))))] := qF
      replace hF : ax_hs hp_13 [cRB p 2048 (M 8), cRB (p + 1) 400 (M 10), cRI (p + 2) 2 (M 11), cRZ (p + 4) 48 (M 13), cRI (p + 7) 48 (M 16), cRI (p + 8) 48 (M 17), cRB (p + 9) 393216 (M 18), cRZ (p + 10) 912 (M 19), cRI (p + 11) 12 (M 27), cRI (p + 12) 12 (M 28), cRI (p + 13) 12 (M 29), cRB (p + 16) 24576 (M 32), cRI (p + 17) 12 (M 33), cRI al AL (M 34), cRo m p al M, cRI (p + 3) 48 (M 12), cRB (p + 5) 9600 (M 14), cRI (p + 6) 48 (M 15), cRB (p + 14) 4800 (M 30), cRI (p + 15) 24 (M 31), (p + 19, .inl (0, 24576, .inl (rgF (fun i => (M 14 (200 * f + i)) &&& 255) (2048 * w) l (M 35)))), (p + 20, .inl (0, 12, .inl (upd (upd (M 36) w 0) w (nI l))))] := ax_hs.call (rest := [cRB p 2048 (M 8), cRB (p + 1) 400 (M 10), cRI (p + 2) 2 (M 11), cRZ (p + 4) 48 (M 13), cRI (p + 7) 48 (M 16), cRI (p + 8) 48 (M 17), cRB (p + 9) 393216 (M 18), cRZ (p + 10) 912 (M 19), cRI (p + 11) 12 (M 27), cRI (p + 12) 12 (M 28), cRI (p + 13) 12 (M 29), cRB (p + 16) 24576 (M 32), cRI (p + 17) 12 (M 33), cRI al AL (M 34)]) [0, 4, 6, 7, 15, 16, 20, 21] [1, 2, 3, 5, 8, 9, 10, 11, 12, 13, 14, 17, 18, 19] hF qf qF rfl rfl rfl [20, 21] rfl rfl [0, 4, 6, 7, 15, 16, 20, 21] (news := []) rfl rfl (fun _ z => absurd z List.not_mem_nil) rfl
      replace hF := hF.sub (F' := [cRo m p al M, cRB p 2048 (M 8), cRB (p + 1) 400 (M 10), cRI (p + 2) 2 (M 11), cRI (p + 3) 48 (M 12), cRZ (p + 4) 48 (M 13), cRB (p + 5) 9600 (M 14), cRI (p + 6) 48 (M 15), cRI (p + 7) 48 (M 16), cRI (p + 8) 48 (M 17), cRB (p + 9) 393216 (M 18), cRZ (p + 10) 912 (M 19), cRI (p + 11) 12 (M 27), cRI (p + 12) 12 (M 28), cRI (p + 13) 12 (M 29), cRB (p + 14) 4800 (M 30), cRI (p + 15) 24 (M 31), cRB (p + 16) 24576 (M 32), cRI (p + 17) 12 (M 33), cRI al AL (M 34), (p + 19, .inl (0, 24576, .inl (rgF (fun i => (M 14 (200 * f + i)) &&& 255) (2048 * w) l (M 35)))), (p + 20, .inl (0, 12, .inl (upd (upd (M 36) w 0) w (nI l))))]) [14, 0, 1, 2, 15, 3, 16, 17, 4, 5, 6, 7, 8, 9, 10, 18, 19, 11, 12, 13, 20, 21] rfl rfl
      replace hf := hf.trC qf (fun x _ z => by simp only [List.mem_cons, List.not_mem_nil, or_false] at z; show m ≤ x; omega)
      replace hn : hp_13.1 = h0.1 := by omega
      replace hs : hp_13.2.1 = h0.2.1 := by omega
      clear qF qn qs qf
      have hS9 : RS m p al AL h0 hp_13 (va_up (va_up M 35 (rgF (fun i => (M 14 (200 * f + i)) &&& 255) (2048 * w) l (M 35))) 36 (upd (upd (M 36) w 0) w (nI l))) := ⟨hF, hf, hn, hs, hp0⟩
      exact ar_iret d_193_176 rfl rfl (⟨_, _, rfl, hS9, ⟨c, to, e20, e21, hI⟩, ⟨fun k h20 h21 => rfl, rfl, rfl, rfl, rfl, rfl, rfl, rfl, rfl, rfl, rfl, rfl⟩, fun hT x hx => inR_up12 (inR_up12 hT ⟨0, by decide, rfl⟩) ⟨l, by omega, rfl⟩ x hx⟩)
    · refine ar_call (r := []) (na := 0) (kd := 0) (cm := 206) (fr2 := fr - 1) (lo2 := lo - 24) 176 d_193_173 (ar_hoV (as := [.int (nI w)]) rfl rfl rfl (hF.at 0 rfl)) rfl (by omega) (show lo - 24 + (19 + 5) = lo by omega) (Nat.le_of_ble_eq_true rfl) (Nat.le_of_ble_eq_true rfl) (n_206N (by omega) (by omega) hc hw en1 (by omega) hog hlf (nxA_end hnx) rfl rfl rfl q20 rfl rfl rfl rfl (hF.sub (F' := [cRo m p al M, cRI (p + 3) 48 (M 12), cRB (p + 5) 9600 (M 14), cRI (p + 6) 48 (M 15), cRB (p + 14) 4800 (M 30), cRI (p + 15) 24 (M 31), cRI (p + 19) 24576 (M 35), (p + 20, .inl (0, 12, .inl (upd (M 36) w 0)))]) [0, 4, 6, 7, 15, 16, 20, 21] rfl rfl)) ?_
      intro v hh hq
      obtain ⟨rfl, ehh⟩ := hq
      rw [ehh]
      clear ehh
      have hS9 : RS m p al AL h0 hp_1 (va_up M 36 (upd (M 36) w 0)) := ⟨hF, hf, hn, hs, hp0⟩
      exact ar_iret d_193_176 rfl rfl (⟨_, _, rfl, hS9, ⟨c, to, e20, e21, hI⟩, ⟨fun k h20 h21 => rfl, rfl, rfl, rfl, rfl, rfl, rfl, rfl, rfl, rfl, rfl, rfl⟩, fun hT x hx => inR_up12 hT ⟨0, by decide, rfl⟩ x hx⟩)


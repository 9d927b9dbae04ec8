/-! Table.readRoot, readRecord keep the Table's bounds; Leader: push, rest, start, gotItem, Work.take, hear -/
theorem d_83_0 : decode (axt_b 83) 0 = .ok (.aload_n 1, 1) := by decide +kernel
theorem d_83_1 : decode (axt_b 83) 1 = .ok (.getfield 195, 3) := by decide +kernel
theorem d_83_4 : decode (axt_b 83) 4 = .ok (.invokestatic 265, 3) := by decide +kernel
theorem d_83_7 : decode (axt_b 83) 7 = .ok (.ifCond .eq 101, 3) := by decide +kernel
theorem d_83_10 : decode (axt_b 83) 10 = .ok (.aload_n 1, 1) := by decide +kernel
theorem d_83_11 : decode (axt_b 83) 11 = .ok (.getfield 195, 3) := by decide +kernel
theorem d_83_14 : decode (axt_b 83) 14 = .ok (.invokestatic 262, 3) := by decide +kernel
theorem d_83_17 : decode (axt_b 83) 17 = .ok (.aload_n 0, 1) := by decide +kernel
theorem d_83_18 : decode (axt_b 83) 18 = .ok (.getfield 40, 3) := by decide +kernel
theorem d_83_21 : decode (axt_b 83) 21 = .ok (.getfield 174, 3) := by decide +kernel
theorem d_83_24 : decode (axt_b 83) 24 = .ok (.sipush 960, 3) := by decide +kernel
theorem d_83_27 : decode (axt_b 83) 27 = .ok (.iaload, 1) := by decide +kernel
theorem d_83_28 : decode (axt_b 83) 28 = .ok (.if_icmp .le 79, 3) := by decide +kernel
theorem d_83_31 : decode (axt_b 83) 31 = .ok (.aload_n 0, 1) := by decide +kernel
theorem d_83_32 : decode (axt_b 83) 32 = .ok (.getfield 40, 3) := by decide +kernel
theorem d_83_35 : decode (axt_b 83) 35 = .ok (.aload_n 1, 1) := by decide +kernel
theorem d_83_36 : decode (axt_b 83) 36 = .ok (.getfield 219, 3) := by decide +kernel
theorem d_83_39 : decode (axt_b 83) 39 = .ok (.iconst 0, 1) := by decide +kernel
theorem d_83_40 : decode (axt_b 83) 40 = .ok (.invokevirtual 271, 3) := by decide +kernel
theorem d_83_43 : decode (axt_b 83) 43 = .ok (.aload_n 0, 1) := by decide +kernel
theorem d_83_44 : decode (axt_b 83) 44 = .ok (.getfield 40, 3) := by decide +kernel
theorem d_83_47 : decode (axt_b 83) 47 = .ok (.getfield 177, 3) := by decide +kernel
theorem d_83_50 : decode (axt_b 83) 50 = .ok (.sipush 960, 3) := by decide +kernel
theorem d_83_53 : decode (axt_b 83) 53 = .ok (.iconst 1, 1) := by decide +kernel
theorem d_83_54 : decode (axt_b 83) 54 = .ok (.aload_n 1, 1) := by decide +kernel
theorem d_83_55 : decode (axt_b 83) 55 = .ok (.getfield 129, 3) := by decide +kernel
theorem d_83_58 : decode (axt_b 83) 58 = .ok (.ishl, 1) := by decide +kernel
theorem d_83_59 : decode (axt_b 83) 59 = .ok (.iastore, 1) := by decide +kernel
theorem d_83_60 : decode (axt_b 83) 60 = .ok (.aload_n 0, 1) := by decide +kernel
theorem d_83_61 : decode (axt_b 83) 61 = .ok (.getfield 49, 3) := by decide +kernel
theorem d_83_64 : decode (axt_b 83) 64 = .ok (.aload_n 0, 1) := by decide +kernel
theorem d_83_65 : decode (axt_b 83) 65 = .ok (.getfield 49, 3) := by decide +kernel
theorem d_83_68 : decode (axt_b 83) 68 = .ok (.invokevirtual 110, 3) := by decide +kernel
theorem d_83_71 : decode (axt_b 83) 71 = .ok (.ifCond .eq 7, 3) := by decide +kernel
theorem d_83_74 : decode (axt_b 83) 74 = .ok (.iconst 1, 1) := by decide +kernel
theorem d_83_75 : decode (axt_b 83) 75 = .ok (.goto 10, 3) := by decide +kernel
theorem d_83_78 : decode (axt_b 83) 78 = .ok (.aload_n 0, 1) := by decide +kernel
theorem d_83_79 : decode (axt_b 83) 79 = .ok (.getfield 49, 3) := by decide +kernel
theorem d_83_82 : decode (axt_b 83) 82 = .ok (.getfield 72, 3) := by decide +kernel
theorem d_83_85 : decode (axt_b 83) 85 = .ok (.putfield 72, 3) := by decide +kernel
theorem d_83_88 : decode (axt_b 83) 88 = .ok (.aload_n 0, 1) := by decide +kernel
theorem d_83_89 : decode (axt_b 83) 89 = .ok (.iconst 0, 1) := by decide +kernel
theorem d_83_90 : decode (axt_b 83) 90 = .ok (.putfield 81, 3) := by decide +kernel
theorem d_83_93 : decode (axt_b 83) 93 = .ok (.aload_n 0, 1) := by decide +kernel
theorem d_83_94 : decode (axt_b 83) 94 = .ok (.lconst 0, 1) := by decide +kernel
theorem d_83_95 : decode (axt_b 83) 95 = .ok (.putfield 84, 3) := by decide +kernel
theorem d_83_98 : decode (axt_b 83) 98 = .ok (.aload_n 0, 1) := by decide +kernel
theorem d_83_99 : decode (axt_b 83) 99 = .ok (.iconst 0, 1) := by decide +kernel
theorem d_83_100 : decode (axt_b 83) 100 = .ok (.putfield 94, 3) := by decide +kernel
theorem d_83_103 : decode (axt_b 83) 103 = .ok (.aload_n 0, 1) := by decide +kernel
theorem d_83_104 : decode (axt_b 83) 104 = .ok (.invokevirtual 66, 3) := by decide +kernel
theorem d_83_107 : decode (axt_b 83) 107 = .ok (.return_, 1) := by decide +kernel
theorem d_83_108 : decode (axt_b 83) 108 = .ok (.aload_n 0, 1) := by decide +kernel
theorem d_83_109 : decode (axt_b 83) 109 = .ok (.getfield 40, 3) := by decide +kernel
theorem d_83_112 : decode (axt_b 83) 112 = .ok (.aload_n 1, 1) := by decide +kernel
theorem d_83_113 : decode (axt_b 83) 113 = .ok (.getfield 195, 3) := by decide +kernel
theorem d_83_116 : decode (axt_b 83) 116 = .ok (.invokevirtual 189, 3) := by decide +kernel
theorem d_83_119 : decode (axt_b 83) 119 = .ok (.istore_n 2, 1) := by decide +kernel
theorem d_83_120 : decode (axt_b 83) 120 = .ok (.iload_n 2, 1) := by decide +kernel
theorem d_83_121 : decode (axt_b 83) 121 = .ok (.ifCond .lt 53, 3) := by decide +kernel
theorem d_83_124 : decode (axt_b 83) 124 = .ok (.iload_n 2, 1) := by decide +kernel
theorem d_83_125 : decode (axt_b 83) 125 = .ok (.bipush 20, 2) := by decide +kernel
theorem d_83_127 : decode (axt_b 83) 127 = .ok (.irem, 1) := by decide +kernel
theorem d_83_128 : decode (axt_b 83) 128 = .ok (.bipush 19, 2) := by decide +kernel
theorem d_83_130 : decode (axt_b 83) 130 = .ok (.if_icmp .ne 44, 3) := by decide +kernel
theorem d_83_133 : decode (axt_b 83) 133 = .ok (.aload_n 0, 1) := by decide +kernel
theorem d_83_134 : decode (axt_b 83) 134 = .ok (.getfield 40, 3) := by decide +kernel
theorem d_83_137 : decode (axt_b 83) 137 = .ok (.invokevirtual 114, 3) := by decide +kernel
theorem d_83_140 : decode (axt_b 83) 140 = .ok (.istore_n 3, 1) := by decide +kernel
theorem d_83_141 : decode (axt_b 83) 141 = .ok (.aload_n 0, 1) := by decide +kernel
theorem d_83_142 : decode (axt_b 83) 142 = .ok (.getfield 40, 3) := by decide +kernel
theorem d_83_145 : decode (axt_b 83) 145 = .ok (.aload_n 1, 1) := by decide +kernel
theorem d_83_146 : decode (axt_b 83) 146 = .ok (.getfield 219, 3) := by decide +kernel
theorem d_83_149 : decode (axt_b 83) 149 = .ok (.iconst 0, 1) := by decide +kernel
theorem d_83_150 : decode (axt_b 83) 150 = .ok (.invokevirtual 275, 3) := by decide +kernel
theorem d_83_153 : decode (axt_b 83) 153 = .ok (.iload_n 3, 1) := by decide +kernel
theorem d_83_154 : decode (axt_b 83) 154 = .ok (.ifCond .ne 17, 3) := by decide +kernel
theorem d_83_157 : decode (axt_b 83) 157 = .ok (.aload_n 0, 1) := by decide +kernel
theorem d_83_158 : decode (axt_b 83) 158 = .ok (.getfield 40, 3) := by decide +kernel
theorem d_83_161 : decode (axt_b 83) 161 = .ok (.invokevirtual 114, 3) := by decide +kernel
theorem d_83_164 : decode (axt_b 83) 164 = .ok (.ifCond .eq 7, 3) := by decide +kernel
theorem d_83_167 : decode (axt_b 83) 167 = .ok (.aload_n 0, 1) := by decide +kernel
theorem d_83_168 : decode (axt_b 83) 168 = .ok (.invokevirtual 66, 3) := by decide +kernel
theorem d_83_171 : decode (axt_b 83) 171 = .ok (.goto 19, 3) := by decide +kernel
theorem d_83_174 : decode (axt_b 83) 174 = .ok (.iload_n 2, 1) := by decide +kernel
theorem d_83_175 : decode (axt_b 83) 175 = .ok (.ifCond .lt 15, 3) := by decide +kernel
theorem d_83_178 : decode (axt_b 83) 178 = .ok (.aload_n 0, 1) := by decide +kernel
theorem d_83_179 : decode (axt_b 83) 179 = .ok (.getfield 49, 3) := by decide +kernel
theorem d_83_182 : decode (axt_b 83) 182 = .ok (.iload_n 2, 1) := by decide +kernel
theorem d_83_183 : decode (axt_b 83) 183 = .ok (.aload_n 1, 1) := by decide +kernel
theorem d_83_184 : decode (axt_b 83) 184 = .ok (.getfield 219, 3) := by decide +kernel
theorem d_83_187 : decode (axt_b 83) 187 = .ok (.invokevirtual 278, 3) := by decide +kernel
theorem d_83_190 : decode (axt_b 83) 190 = .ok (.return_, 1) := by decide +kernel
def rcR (zf nf mf vf : Nat → Int32) (kn : Int64) (wf : Nat → Int32) (p f : Nat) : (Nat → Int32) × (Nat → Int32) × (Nat → Int32) × (Nat → Int32) × Int64 := (upd zf f (wf (p + 15)), upd nf f (wf (p + 16)), va_cpy wf mf (p + 17) (f * 50) 50, va_cpy wf vf (p + 67) (f * 20) 19, kn ||| (1 <<< ((nI f).toInt64 &&& 63)))
/-- Table.readRecord -/
def rcF (zf nf mf vf : Nat → Int32) (kn : Int64) (fo wf : Nat → Int32) (p : Nat) : (Nat → Int32) × (Nat → Int32) × (Nat → Int32) × (Nat → Int32) × Int64 :=
  if ¬ fndI fo vf (wf (p + 1)) = -1 ∧ (fndI fo vf (wf (p + 1))).toNatClampNeg % 20 = 19 ∧ knB kn ((fndI fo vf (wf (p + 1))).toNatClampNeg / 20) = 0 then rcR zf nf mf vf kn wf p ((fndI fo vf (wf (p + 1))).toNatClampNeg / 20) else (zf, nf, mf, vf, kn)
def bn5 {α : Type} (s : (Nat → Int32) × (Nat → Int32) × (Nat → Int32) × (Nat → Int32) × Int64) (k : (Nat → Int32) → (Nat → Int32) → (Nat → Int32) → (Nat → Int32) → Int64 → α) : α := k s.1 s.2.1 s.2.2.1 s.2.2.2.1 s.2.2.2.2
theorem bn5_eq {α : Type} {s : (Nat → Int32) × (Nat → Int32) × (Nat → Int32) × (Nat → Int32) × Int64} {k : (Nat → Int32) → (Nat → Int32) → (Nat → Int32) → (Nat → Int32) → Int64 → α} {x : α} {a b c d : Nat → Int32} {e : Int64} (h : (a, b, c, d, e) = s) (hk : x = k a b c d e) : x = bn5 s k := by
  subst h
  exact hk
theorem c_85E {L : Nat} {xs : Nat → Int32} {fr lo : Nat} {h : ax_H} {n sl : Nat} {tb a1 a2 a3 a4 a5 a6 a7 : Nat} {g fl an : Int32} {kn : Int64} {b N p : Nat} {Z : ZT} {jf zf nf mf fo vf wf : Nat → Int32} (hfr : 2 ≤ fr) (hlo : 70 ≤ lo) (hN : N < 2 ^ 31) (hp : p + 128 ≤ N) (hT : TI Z fl jf zf nf fo vf) (hg : gd Z wf p) (hF : ax_hs h [(tb, .inr (6, [.int g, .ref a1, .ref a2, .ref a3, .ref a4, .ref a5, .ref a6, .ref a7, .long kn, .int fl, .int an])), (a2, .inl (0, 48, .inl zf)), (a3, .inl (0, 48, .inl nf)), (a4, .inl (0, 2400, .inl mf)), (a6, .inl (0, 961, .inl vf)), (a5, .inl (0, 512, .inl fo)), (b, .inl (0, N, .inl wf))]) (hn : h.1 = n) (hs : h.2.1 = sl) (hn0 : 0 < n) : ax_M L xs 85 fr lo [.ref tb, .ref b, .int (nI p)] h (fun r h' => r = none ∧ ∃ (zf' nf' mf' vf' : Nat → Int32) (kn' : Int64), (zf', nf', mf', vf', kn') = rcF zf nf mf vf kn fo wf p ∧ TI Z fl jf zf' nf' fo vf' ∧ ax_hs h' [(tb, .inr (6, [.int g, .ref a1, .ref a2, .ref a3, .ref a4, .ref a5, .ref a6, .ref a7, .long kn', .int fl, .int an])), (a2, .inl (0, 48, .inl zf')), (a3, .inl (0, 48, .inl nf')), (a4, .inl (0, 2400, .inl mf')), (a6, .inl (0, 961, .inl vf')), (a5, .inl (0, 512, .inl fo)), (b, .inl (0, N, .inl wf))] ∧ h'.1 = n ∧ h'.2.1 = sl ∧ ax_fr (fun x => x ∈ [tb, a2, a3, a4, a6]) h h') := by
  have no : ∀ it : Int32, fndI fo vf (wf (p + 1)) = it → (∀ fr lo, ax_M L xs 77 fr lo [.ref tb, .int (wf (p + 1))] h (fun r h' => r = some (.int it) ∧ h' = h)) → (it < 0 ∨ ∃ a, a < 961 ∧ it = nI a ∧ (a % 20 ≠ 19 ∨ ¬ knB kn (a / 20) = 0)) → ax_M L xs 85 fr lo [.ref tb, .ref b, .int (nI p)] h (fun r h' => r = none ∧ ∃ (zf' nf' mf' vf' : Nat → Int32) (kn' : Int64), (zf', nf', mf', vf', kn') = rcF zf nf mf vf kn fo wf p ∧ TI Z fl jf zf' nf' fo vf' ∧ ax_hs h' [(tb, .inr (6, [.int g, .ref a1, .ref a2, .ref a3, .ref a4, .ref a5, .ref a6, .ref a7, .long kn', .int fl, .int an])), (a2, .inl (0, 48, .inl zf')), (a3, .inl (0, 48, .inl nf')), (a4, .inl (0, 2400, .inl mf')), (a6, .inl (0, 961, .inl vf')), (a5, .inl (0, 512, .inl fo)), (b, .inl (0, N, .inl wf))] ∧ h'.1 = n ∧ h'.2.1 = sl ∧ ax_fr (fun x => x ∈ [tb, a2, a3, a4, a6]) h h') := fun it h0 h1 h2 => by
    refine ax_A.post (c_85N (by omega) (by omega) hN hp h1 h2 (hF.sub (F' := [(tb, .inr (6, [.int g, .ref a1, .ref a2, .ref a3, .ref a4, .ref a5, .ref a6, .ref a7, .long kn, .int fl, .int an])), (b, .inl (0, N, .inl wf))]) [0, 6] rfl rfl)) (fun r h' hq => ?_)
    obtain ⟨rfl, rfl⟩ := hq
    refine ⟨rfl, zf, nf, mf, vf, kn, (if_neg (fun z => ?_)).symm, hT, hF, hn, hs, ax_fr.rf⟩
    rw [h0] at z
    rcases h2 with h2 | ⟨a, ha, rfl, h2⟩
    · have e1 : fndI fo vf (wf (p + 1)) = -1 ∨ ∃ t a : Nat, t < 2 ^ 31 ∧ wf (p + 1) = nI t ∧ a < 961 ∧ fndI fo vf (wf (p + 1)) = nI a ∧ FD jf vf t a := hT.fnd2 _
      rw [h0] at e1
      rcases e1 with e1 | ⟨_, a, _, _, ha, e1, _⟩
      · exact z.1 e1
      · rw [e1] at h2
        exact nI_pos (by omega) h2
    · rw [nI_clamp (by omega)] at z
      rcases h2 with h2 | h2
      · exact h2 z.2.1
      · exact h2 z.2.2
  by_cases hx : wf (p + 1) < 0
  · exact no (-1) (if_pos hx) (fun fr lo => c_77M hx) (Or.inl (by decide))
  · obtain ⟨t, ht, et⟩ := nI_of hx
    have h77 : ∀ fr lo, ax_M L xs 77 fr lo [.ref tb, .int (wf (p + 1))] h (fun r h' => r = some (.int (tfind fo vf t)) ∧ h' = h) := fun fr lo => by
      rw [et]
      exact c_77 ht hT.fo (hF.at 0 rfl) (hF.at 5 rfl) (hF.at 4 rfl)
    have ef : fndI fo vf (wf (p + 1)) = tfind fo vf t := by
      rw [show fndI fo vf (wf (p + 1)) = tfind fo vf (wf (p + 1)).toNatClampNeg from if_neg hx, et, nI_clamp ht]
    rcases hT.find t with e | ⟨a, ha, e, hfd⟩
    · exact no _ ef h77 (Or.inl (by rw [e]; decide))
    · rw [e] at h77 ef
      by_cases h19 : a % 20 = 19 ∧ knB kn (a / 20) = 0
      · rcases hfd.2 with h1 | ⟨h1, h2, h3, h4⟩
        · omega
        · have ea : a = a / 20 * 20 + 19 := by omega
          rw [ea] at h77
          have hin := (hg t ht et).2 (by omega) (by omega)
          refine ax_A.post (c_85Y (f := a / 20) hfr hlo hN hp (by omega) h77 h19.2 (hF.sub (F' := [(tb, .inr (6, [.int g, .ref a1, .ref a2, .ref a3, .ref a4, .ref a5, .ref a6, .ref a7, .long kn, .int fl, .int an])), (a2, .inl (0, 48, .inl zf)), (a3, .inl (0, 48, .inl nf)), (a4, .inl (0, 2400, .inl mf)), (a6, .inl (0, 961, .inl vf)), (b, .inl (0, N, .inl wf))]) [0, 1, 2, 3, 4, 6] rfl rfl) hn hs hn0) (fun r h' hq => ?_)
          obtain ⟨rfl, qF, qn, qs, qf⟩ := hq
          refine ⟨rfl, upd zf (a / 20) (wf (p + 15)), upd nf (a / 20) (wf (p + 16)), va_cpy wf mf (p + 17) (a / 20 * 50) 50, va_cpy wf vf (p + 67) (a / 20 * 20) 19, kn ||| (1 <<< ((nI (a / 20)).toInt64 &&& 63)), ?_, ((hT.record (f := a / 20) (p := p) (wf := wf) (by omega) h3).size (f := a / 20) hin.1).name (f := a / 20) hin.2, ?_, qn, qs, qf⟩
          · have ec : (fndI fo vf (wf (p + 1))).toNatClampNeg = a := by rw [ef, nI_clamp (by omega)]
            refine Eq.trans ?_ (if_pos ⟨nI_ne1 ha ef, by rw [ec]; exact h19.1, by rw [ec]; exact h19.2⟩).symm
            rw [ec]
            rfl
          have h5 : ax_g h' a5 = some (.inl (0, 512, .inl fo)) := qf.g (hF.at 5 rfl) (hF.apart (As := [tb, a2, a3, a4, a6]) 5 [0, 1, 2, 3, 4] rfl rfl rfl)
          have h6 := ax_hs.call (rest := [(a5, .inl (0, 512, .inl fo))]) [0, 1, 2, 3, 4, 6] [5] hF qf qF rfl rfl rfl [0, 1, 2, 3, 4] rfl rfl [0, 1, 2, 3, 4, 6] (news := []) rfl rfl (fun _ z => absurd z List.not_mem_nil) rfl
          exact h6.sub [1, 2, 3, 4, 5, 0, 6] rfl rfl
      · exact no _ ef h77 (Or.inr ⟨a, ha, rfl, by
          by_cases z : a % 20 = 19
          · exact Or.inr (fun z2 => h19 ⟨z, z2⟩)
          · exact Or.inl z⟩)
theorem clI48 (x : Int32) : ∃ c : Nat, c ≤ 48 ∧ clI x 0 48 = nI c := by
  unfold clI
  by_cases h : x < 48
  · rw [if_pos h]
    by_cases h2 : (0 : Int32) < x
    · rw [if_pos h2]
      obtain ⟨j, hj, e⟩ := nI_of2 (x := x) (M := 48) (n := 48) (by decide) (fun z => absurd (Int32.lt_trans h2 z) (by decide)) (Int32.le_of_lt h)
      exact ⟨j, hj, e⟩
    · rw [if_neg h2]
      exact ⟨0, by omega, rfl⟩
  · rw [if_neg h]
    exact ⟨48, by omega, rfl⟩
theorem c_84E {L : Nat} {xs : Nat → Int32} {fr lo : Nat} {h : ax_H} {n sl : Nat} {tb a1 a2 a3 a4 a5 a6 a7 : Nat} {g fl an : Int32} {kn : Int64} {b N p t : Nat} {Z : ZT} {jf zf nf fo vf hv wf : Nat → Int32} (hfr : 2 ≤ fr) (hlo : 60 ≤ lo) (hN : N < 2 ^ 31) (hp : p + 128 ≤ N) (hnf : ∀ f, f < 48 → inR 2049 (nf f)) (ht : t < 2 ^ 31) (et : wf (p + 1) = nI t) (hZ : Z.y (t % 512)) (hF : ax_hs h [(tb, .inr (6, [.int g, .ref a1, .ref a2, .ref a3, .ref a4, .ref a5, .ref a6, .ref a7, .long kn, .int fl, .int an])), (a1, .inl (0, 48, .inl jf)), (a2, .inl (0, 48, .inl zf)), (a5, .inl (0, 512, .inl fo)), (a6, .inl (0, 961, .inl vf)), (a7, .inl (0, 961, .inl hv)), (b, .inl (0, N, .inl wf))]) (hn : h.1 = n) (hs : h.2.1 = sl) (hn0 : 0 < n) : ax_M L xs 84 fr lo [.ref tb, .ref b, .int (nI p)] h (fun r h' => r = none ∧ ∃ c : Nat, c = (clI (wf (p + 15)) 0 48).toNatClampNeg ∧ TI Z (nI c) (rrJ wf p (ax_fill jf 0 48 (-1)) c) (ax_fill zf 0 48 0) nf (rrO wf p (ax_fill fo 0 512 (-1)) c) (rrV wf p (upd (ax_fill vf 0 961 (-1)) 960 ((wf (p + 1)) - (wf (p + 1)) / 512 * 512)) c) ∧ ax_hs h' [(tb, .inr (6, [.int g, .ref a1, .ref a2, .ref a3, .ref a4, .ref a5, .ref a6, .ref a7, .long 0, .int (nI c), .int (wf (p + 16))])), (a1, .inl (0, 48, .inl (rrJ wf p (ax_fill jf 0 48 (-1)) c))), (a2, .inl (0, 48, .inl (ax_fill zf 0 48 0))), (a5, .inl (0, 512, .inl (rrO wf p (ax_fill fo 0 512 (-1)) c))), (a6, .inl (0, 961, .inl (rrV wf p (upd (ax_fill vf 0 961 (-1)) 960 ((wf (p + 1)) - (wf (p + 1)) / 512 * 512)) c))), (a7, .inl (0, 961, .inl (ax_fill hv 0 961 0))), (b, .inl (0, N, .inl wf))] ∧ h'.1 = n ∧ h'.2.1 = sl ∧ ax_fr (fun x => x ∈ [tb, a1, a2, a5, a6, a7]) h h') := by
  obtain ⟨c, hc, ec⟩ := clI48 (wf (p + 15))
  refine ax_A.post (c_84 hfr hlo hN hp hc ec hF hn hs hn0) (fun r h' hq => ?_)
  obtain ⟨rfl, qF, qn, qs, qf⟩ := hq
  refine ⟨rfl, c, by rw [ec, nI_clamp (by omega)], TI.root hnf hc (fun v hv e => ?_), qF, qn, qs, qf⟩
  rw [et] at e
  have e2 := (pk_rem (d := 512) ht (by omega) (by omega)).symm.trans e
  have e3 := nI_inj (Nat.lt_of_lt_of_le (Nat.mod_lt t (by decide : 512 > 0)) (by decide)) (by omega) e2
  rw [← e3]
  exact hZ
theorem FC.need {fl : Int32} {jf W Q : Nat → Int32} (h : FC fl jf W Q) {i : Nat} (hi : i < 6) : ndB W i < 0 ∨ ∃ a : Nat, a < 961 ∧ ndB W i = nI a ∧ (a = 960 ∨ ¬ jf (a / 20) < 0) := by
  unfold ndB
  split
  · next hc =>
    obtain ⟨f1, -, -, -, ⟨s, c, hs, e9, e11, h0, h1⟩, -⟩ := h
    rw [e11] at hc
    have hic : i < c := by
      rcases Nat.lt_or_ge i c with z | z
      · exact z
      · have hs1 : c ≤ 2 ^ 20 := by
          rcases Nat.eq_zero_or_pos s with e | e
          · rw [h0 e]
            decide
          · obtain ⟨a, -, h2, -, h3⟩ := h1 e
            omega
        exact absurd hc.1 (nI_nlt z (by omega))
    obtain ⟨a, ea, ha, e10, ec⟩ := h1 (Nat.pos_of_ne_zero (fun z => by have := h0 z; omega))
    rw [e10]
    rcases f1 with ⟨e7, -, -⟩ | ⟨f, hf, e7, hj⟩
    · left
      rw [e7]
      have e : ((-1 : Int32) * 20 + nI (a / 448)) + nI i = nI (a / 448 + i) - nI 20 := by
        rw [Int32.add_assoc, nI_add, Int32.add_comm]
        show nI (a / 448 + i) + (-20) = nI (a / 448 + i) - 20
        rw [Int32.sub_eq_add_neg]
      rw [e]
      exact pk_sneg (by omega) (by omega)
    · right
      refine ⟨f * 20 + (a / 448 + i), by omega, ?_, Or.inr ?_⟩
      · rw [e7]
        show nI f * nI 20 + nI (a / 448) + nI i = _
        rw [pk_mul, nI_add, nI_add, Nat.add_assoc]
      · rw [show (f * 20 + (a / 448 + i)) / 20 = f by omega]
        exact hj
  · exact Or.inl (by decide)
def G_125 (nn gg : Nat) (C me : Int32) (f u b : Nat → Int32)  : Nat → Nat → (Nat → Nat → Int32) → Int64 → Int64 → List Mg → St
  | 0, i, D, K, A, Y =>
    (D, K, A, Y)
  | k + 1, i, D, K, A, Y =>
    bnS (F_126 nn gg C me f u b D K A Y (ndB (D 18) i)) (fun D1 K1 A1 Y1 =>
      G_125 nn gg C me f u b k (i + 1) D1 K1 A1 Y1)
def H_125 (nn gg : Nat) (C me : Int32) (f u b : Nat → Int32)  : Nat → Nat → (Nat → Nat → Int32) → Int64 → Int64 → List Mg → St
  | 0, i, D, K, A, Y =>
    (D, K, A, Y)
  | k + 1, i, D, K, A, Y =>
    bnS (F_128 nn gg C me f u b D K A Y i) (fun D1 K1 A1 Y1 =>
      H_125 nn gg C me f u b k (i + 1) D1 K1 A1 Y1)
def F_125 (nn gg : Nat) (C me : Int32) (f u b : Nat → Int32) (D : Nat → Nat → Int32) (K A : Int64) (Y : List Mg)  : St :=
  if ¬ (D 18 3) = 2 then
    if ¬ (D 18 3) = 3 then
      if ¬ (D 18 3) = 4 then
        (D, K, A, Y)
      else
        bnS (F_128 nn gg C me f u b D K A Y 8) (fun D1 K1 A1 Y1 =>
          (D1, K1, A1, Y1))
    else
      H_125 nn gg C me f u b 8 0 D K A Y
  else
    G_125 nn gg C me f u b 6 0 D K A Y
set_option maxRecDepth 100000 in
theorem s_125 {L : Nat} {xs : Nat → Int32} {fr lo : Nat} {Z : ZT} {n nd nn gg : Nat} {C me : Int32} {f : Nat → Int32} {q : Nat} {u b : Nat → Int32} {uv : Int32} {h0 h : ax_H} {D : Nat → Nat → Int32} {K A : Int64} {Y : List Mg}  (hfr : 5 ≤ fr) (hlo : 130 ≤ lo) (hC : CS n nd nn gg f) (hS : NS Z n nd nn gg C me f q u b uv h0 h D K A Y) (hI : NI Z nn D) : ax_M L xs 125 fr lo [.ref (nd + 7)] h (fun r h' => r = none ∧ PS Z n nd nn gg C me f q u b uv h0 h' (fun D' K' A' Y' => (D', K', A', Y') = F_125 nn gg C me f u b D K A Y ∧ True)) := by
  have hC0 := hC
  have key1 : ∀ (k i : Nat) (h : ax_H) (D : Nat → Nat → Int32) (K A : Int64) (Y : List Mg), i + k = 6 → D 18 3 = 2 → NS Z n nd nn gg C me f q u b uv h0 h D K A Y → NI Z nn D → ax_A (ax_step L xs) ((125, 13, fr, lo), [(0, .ref (nd + 7)), (1, .int (nI i))], [], h) (fun r h' => r = none ∧ PS Z n nd nn gg C me f q u b uv h0 h' (fun D' K' A' Y' => (D', K', A', Y') = G_125 nn gg C me f u b k i D K A Y ∧ True)) := by
    intro k
    induction k with
    | zero =>
      intro i h D K A Y hi h2 hS hI
      have e0 : i = 6 := by omega
      subst e0
      obtain ⟨hnd, hn0, hnn3, hnn, hgg1, hgg, hRg⟩ := hC
      obtain ⟨hF, hN, hf, hn, hs, hp0, hu0⟩ := hS
      replace hF : ax_hs h [cNd n nd me D, cDk nd D, cAr nd 2 35840 D, cAr nd 3 4096 D, cAr nd 4 32 D, cAr nd 5 280 D, cAr nd 6 280 D, cLd n nd me D A, cAr nd 8 16 D, cAr nd 9 280 D, cTb nd gg D K, cAr nd 11 48 D, cAr nd 12 48 D, cAr nd 13 48 D, cAr nd 14 2400 D, cAr nd 15 512 D, cAr nd 16 961 D, cAr nd 17 961 D, cWk nd D, cWa nd D, cAr nd 20 612 D, cAr nd 21 1152 D, cRk n nn gg C, cOr n nn gg f] := hF
      refine ar_iload_n 14 d_125_13 rfl rfl ?_
      refine ar_bipush 16 (v := 6) d_125_14 rfl (by decide) ?_
      refine ar_icmp_ge 37 19 d_125_16 (by decide) rfl (fun _ => ?_) (fun c => absurd (Int32.le_refl _) c)
      refine ar_goto 90 d_125_37 (by decide) ?_
      have hS9 : NS Z n nd nn gg C me f q u b uv h0 h D K A Y := ⟨hF, hN, hf, hn, hs, hp0, hu0⟩
      have hI9 : NI Z nn D := hI
      exact ar_ret d_125_90 rfl (⟨rfl, _, _, _, _, hS9, hI9, rfl, trivial⟩)
    | succ k ih =>
      intro i h D K A Y hi h2 hS hI
      have hic : i < 6 := by omega
      obtain ⟨hnd, hn0, hnn3, hnn, hgg1, hgg, hRg⟩ := hC
      obtain ⟨hF, hN, hf, hn, hs, hp0, hu0⟩ := hS
      replace hF : ax_hs h [cNd n nd me D, cDk nd D, cAr nd 2 35840 D, cAr nd 3 4096 D, cAr nd 4 32 D, cAr nd 5 280 D, cAr nd 6 280 D, cLd n nd me D A, cAr nd 8 16 D, cAr nd 9 280 D, cTb nd gg D K, cAr nd 11 48 D, cAr nd 12 48 D, cAr nd 13 48 D, cAr nd 14 2400 D, cAr nd 15 512 D, cAr nd 16 961 D, cAr nd 17 961 D, cWk nd D, cWa nd D, cAr nd 20 612 D, cAr nd 21 1152 D, cRk n nn gg C, cOr n nn gg f] := hF
      refine ar_iload_n 14 d_125_13 rfl rfl ?_
      refine ar_bipush 16 (v := 6) d_125_14 rfl (by decide) ?_
      refine ar_icmp_ge 37 19 d_125_16 (by decide) rfl (fun c => absurd c (nI_ge hic (by decide))) (fun _ => ?_)
      refine ar_aload_n 20 d_125_19 rfl rfl ?_
      refine ar_aload_n 21 d_125_20 rfl rfl ?_
      refine ar_getf 24 d_125_21 rfl (ci := 9) (k := 4) rfl (hF.at 7 rfl) rfl ?_
      refine ar_iload_n 25 d_125_24 rfl rfl ?_
      refine ar_call (r := [.ref (nd + 7)]) (na := 0) (kd := 0) (cm := 88) (fr2 := fr - 1) (lo2 := lo - 21) 28 d_125_25 (ar_hoV (as := [.int (nI i)]) rfl rfl rfl (hF.at 18 rfl)) rfl (by omega) (show lo - 21 + (19 + 2) = lo by omega) (Nat.le_of_ble_eq_true rfl) (Nat.le_of_ble_eq_true rfl) (c_88 (hF.at 18 rfl)) ?_
      intro v hh hq
      obtain ⟨rfl, ehh⟩ := hq
      rw [ehh]
      clear ehh
      have hS1 : NS Z n nd nn gg C me f q u b uv h0 h D K A Y := ⟨hF, hN, hf, hn, hs, hp0, hu0⟩
      have hI1 : NI Z nn D := hI
      refine ar_call (r := []) (na := 0) (kd := 0) (cm := 126) (fr2 := fr - 1) (lo2 := lo - 21) 31 d_125_28 (ar_hoV (as := [.int (ndB (D 18) i)]) rfl rfl rfl (hF.at 7 rfl)) rfl (by omega) (show lo - 21 + (19 + 2) = lo by omega) (Nat.le_of_ble_eq_true rfl) (Nat.le_of_ble_eq_true rfl) (s_126 (by omega) (by omega) hC0 hS1 hI1 ((hI.2.2.1.2.2.2.2.1 h2).1.need hic)) ?_
      intro v hp_1 hq
      obtain ⟨rfl, D1, K1, A1, Y1, hS2, hI2, hE1, hR⟩ := hq
      clear hS1 hI1 hF hN hf hn hs hp0 hu0
      obtain ⟨hF, hN, hf, hn, hs, hp0, hu0⟩ := hS2
      replace hF : ax_hs hp_1 [cNd n nd me D1, cDk nd D1, cAr nd 2 35840 D1, cAr nd 3 4096 D1, cAr nd 4 32 D1, cAr nd 5 280 D1, cAr nd 6 280 D1, cLd n nd me D1 A1, cAr nd 8 16 D1, cAr nd 9 280 D1, cTb nd gg D1 K1, cAr nd 11 48 D1, cAr nd 12 48 D1, cAr nd 13 48 D1, cAr nd 14 2400 D1, cAr nd 15 512 D1, cAr nd 16 961 D1, cAr nd 17 961 D1, cWk nd D1, cWa nd D1, cAr nd 20 612 D1, cAr nd 21 1152 D1, cRk n nn gg C, cOr n nn gg f] := hF
      have hI1 := hI2
      clear hI2
      refine ar_iinc 34 [(0, .ref (nd + 7)), (1, .int (nI (i + 1)))] d_125_31 rfl rfl (nI_1 i) (by decide) rfl ?_
      refine ar_goto 13 d_125_34 (by decide) ?_
      have hS1 : NS Z n nd nn gg C me f q u b uv h0 hp_1 D1 K1 A1 Y1 := ⟨hF, hN, hf, hn, hs, hp0, hu0⟩
      have hI1 : NI Z nn D1 := hI1
      rw [← show G_125 nn gg C me f u b k (i + 1) D1 K1 A1 Y1 = G_125 nn gg C me f u b (k + 1) i D K A Y from bnS_eq hE1 (rfl)]
      exact ih (i + 1) hp_1 D1 K1 A1 Y1 (by omega) (by rw [hR 18]; exact h2) hS1 hI1
  have key2 : ∀ (k i : Nat) (h : ax_H) (D : Nat → Nat → Int32) (K A : Int64) (Y : List Mg), i + k = 8 → NS Z n nd nn gg C me f q u b uv h0 h D K A Y → NI Z nn D → ax_A (ax_step L xs) ((125, 53, fr, lo), [(0, .ref (nd + 7)), (1, .int (nI i))], [], h) (fun r h' => r = none ∧ PS Z n nd nn gg C me f q u b uv h0 h' (fun D' K' A' Y' => (D', K', A', Y') = H_125 nn gg C me f u b k i D K A Y ∧ True)) := by
    intro k
    induction k with
    | zero =>
      intro i h D K A Y hi hS hI
      have e0 : i = 8 := by omega
      subst e0
      obtain ⟨hnd, hn0, hnn3, hnn, hgg1, hgg, hRg⟩ := hC
      obtain ⟨hF, hN, hf, hn, hs, hp0, hu0⟩ := hS
      replace hF : ax_hs h [cNd n nd me D, cDk nd D, cAr nd 2 35840 D, cAr nd 3 4096 D, cAr nd 4 32 D, cAr nd 5 280 D, cAr nd 6 280 D, cLd n nd me D A, cAr nd 8 16 D, cAr nd 9 280 D, cTb nd gg D K, cAr nd 11 48 D, cAr nd 12 48 D, cAr nd 13 48 D, cAr nd 14 2400 D, cAr nd 15 512 D, cAr nd 16 961 D, cAr nd 17 961 D, cWk nd D, cWa nd D, cAr nd 20 612 D, cAr nd 21 1152 D, cRk n nn gg C, cOr n nn gg f] := hF
      refine ar_iload_n 54 d_125_53 rfl rfl ?_
      refine ar_bipush 56 (v := 8) d_125_54 rfl (by decide) ?_
      refine ar_icmp_ge 70 59 d_125_56 (by decide) rfl (fun _ => ?_) (fun c => absurd (Int32.le_refl _) c)
      refine ar_goto 90 d_125_70 (by decide) ?_
      have hS9 : NS Z n nd nn gg C me f q u b uv h0 h D K A Y := ⟨hF, hN, hf, hn, hs, hp0, hu0⟩
      have hI9 : NI Z nn D := hI
      exact ar_ret d_125_90 rfl (⟨rfl, _, _, _, _, hS9, hI9, rfl, trivial⟩)
    | succ k ih =>
      intro i h D K A Y hi hS hI
      have hic : i < 8 := by omega
      obtain ⟨hnd, hn0, hnn3, hnn, hgg1, hgg, hRg⟩ := hC
      obtain ⟨hF, hN, hf, hn, hs, hp0, hu0⟩ := hS
      replace hF : ax_hs h [cNd n nd me D, cDk nd D, cAr nd 2 35840 D, cAr nd 3 4096 D, cAr nd 4 32 D, cAr nd 5 280 D, cAr nd 6 280 D, cLd n nd me D A, cAr nd 8 16 D, cAr nd 9 280 D, cTb nd gg D K, cAr nd 11 48 D, cAr nd 12 48 D, cAr nd 13 48 D, cAr nd 14 2400 D, cAr nd 15 512 D, cAr nd 16 961 D, cAr nd 17 961 D, cWk nd D, cWa nd D, cAr nd 20 612 D, cAr nd 21 1152 D, cRk n nn gg C, cOr n nn gg f] := hF
      refine ar_iload_n 54 d_125_53 rfl rfl ?_
      refine ar_bipush 56 (v := 8) d_125_54 rfl (by decide) ?_
      refine ar_icmp_ge 70 59 d_125_56 (by decide) rfl (fun c => absurd c (nI_ge hic (by decide))) (fun _ => ?_)
      refine ar_aload_n 60 d_125_59 rfl rfl ?_
      refine ar_iload_n 61 d_125_60 rfl rfl ?_
      have hS1 : NS Z n nd nn gg C me f q u b uv h0 h D K A Y := ⟨hF, hN, hf, hn, hs, hp0, hu0⟩
      have hI1 : NI Z nn D := hI
      refine ar_call (r := []) (na := 0) (kd := 0) (cm := 128) (fr2 := fr - 1) (lo2 := lo - 26) 64 d_125_61 (ar_hoV (as := [.int (nI i)]) rfl rfl rfl (hF.at 7 rfl)) rfl (by omega) (show lo - 26 + (19 + 7) = lo by omega) (Nat.le_of_ble_eq_true rfl) (Nat.le_of_ble_eq_true rfl) (s_128 (by omega) (by omega) hC0 hS1 hI1 (by omega)) ?_
      intro v hp_1 hq
      obtain ⟨rfl, D1, K1, A1, Y1, hS2, hI2, hE1, -⟩ := hq
      clear hS1 hI1 hF hN hf hn hs hp0 hu0
      obtain ⟨hF, hN, hf, hn, hs, hp0, hu0⟩ := hS2
      replace hF : ax_hs hp_1 [cNd n nd me D1, cDk nd D1, cAr nd 2 35840 D1, cAr nd 3 4096 D1, cAr nd 4 32 D1, cAr nd 5 280 D1, cAr nd 6 280 D1, cLd n nd me D1 A1, cAr nd 8 16 D1, cAr nd 9 280 D1, cTb nd gg D1 K1, cAr nd 11 48 D1, cAr nd 12 48 D1, cAr nd 13 48 D1, cAr nd 14 2400 D1, cAr nd 15 512 D1, cAr nd 16 961 D1, cAr nd 17 961 D1, cWk nd D1, cWa nd D1, cAr nd 20 612 D1, cAr nd 21 1152 D1, cRk n nn gg C, cOr n nn gg f] := hF
      have hI1 := hI2
      clear hI2
      refine ar_iinc 67 [(0, .ref (nd + 7)), (1, .int (nI (i + 1)))] d_125_64 rfl rfl (nI_1 i) (by decide) rfl ?_
      refine ar_goto 53 d_125_67 (by decide) ?_
      have hS1 : NS Z n nd nn gg C me f q u b uv h0 hp_1 D1 K1 A1 Y1 := ⟨hF, hN, hf, hn, hs, hp0, hu0⟩
      have hI1 : NI Z nn D1 := hI1
      rw [← show H_125 nn gg C me f u b k (i + 1) D1 K1 A1 Y1 = H_125 nn gg C me f u b (k + 1) i D K A Y from bnS_eq hE1 (rfl)]
      exact ih (i + 1) hp_1 D1 K1 A1 Y1 (by omega) hS1 hI1
  show ax_A (ax_step L xs) ((125, 0, fr, lo), [(0, .ref (nd + 7))], [], h) _
  have hS0 := hS
  obtain ⟨hnd, hn0, hnn3, hnn, hgg1, hgg, hRg⟩ := hC
  obtain ⟨hF, hN, hf, hn, hs, hp0, hu0⟩ := hS
  replace hF : ax_hs h [cNd n nd me D, cDk nd D, cAr nd 2 35840 D, cAr nd 3 4096 D, cAr nd 4 32 D, cAr nd 5 280 D, cAr nd 6 280 D, cLd n nd me D A, cAr nd 8 16 D, cAr nd 9 280 D, cTb nd gg D K, cAr nd 11 48 D, cAr nd 12 48 D, cAr nd 13 48 D, cAr nd 14 2400 D, cAr nd 15 512 D, cAr nd 16 961 D, cAr nd 17 961 D, cWk nd D, cWa nd D, cAr nd 20 612 D, cAr nd 21 1152 D, cRk n nn gg C, cOr n nn gg f] := hF
  refine ar_aload_n 1 d_125_0 rfl rfl ?_
  refine ar_getf 4 d_125_1 rfl (ci := 9) (k := 4) rfl (hF.at 7 rfl) rfl ?_
  refine ar_getf 7 d_125_4 rfl (ci := 10) (k := 3) rfl (hF.at 18 rfl) rfl ?_
  refine ar_iconst 8 (v := 2) d_125_7 rfl (by decide) ?_
  refine ar_icmp_ne 40 11 d_125_8 (by decide) rfl (fun c1 => ?_) (fun c1 => ?_)
  · refine ar_aload_n 41 d_125_40 rfl rfl ?_
    refine ar_getf 44 d_125_41 rfl (ci := 9) (k := 4) rfl (hF.at 7 rfl) rfl ?_
    refine ar_getf 47 d_125_44 rfl (ci := 10) (k := 3) rfl (hF.at 18 rfl) rfl ?_
    refine ar_iconst 48 (v := 3) d_125_47 rfl (by decide) ?_
    refine ar_icmp_ne 73 51 d_125_48 (by decide) rfl (fun c2 => ?_) (fun c2 => ?_)
    · refine ar_aload_n 74 d_125_73 rfl rfl ?_
      refine ar_getf 77 d_125_74 rfl (ci := 9) (k := 4) rfl (hF.at 7 rfl) rfl ?_
      refine ar_getf 80 d_125_77 rfl (ci := 10) (k := 3) rfl (hF.at 18 rfl) rfl ?_
      refine ar_iconst 81 (v := 4) d_125_80 rfl (by decide) ?_
      refine ar_icmp_ne 90 84 d_125_81 (by decide) rfl (fun c3 => ?_) (fun c3 => ?_)
      · have hS9 : NS Z n nd nn gg C me f q u b uv h0 h D K A Y := ⟨hF, hN, hf, hn, hs, hp0, hu0⟩
        have hI9 : NI Z nn D := hI
        exact ar_ret d_125_90 rfl (⟨rfl, _, _, _, _, hS9, hI9, eq_ifT c1 (eq_ifT c2 (eq_ifT c3 (rfl))), trivial⟩)
      · refine ar_aload_n 85 d_125_84 rfl rfl ?_
        refine ar_bipush 87 (v := 8) d_125_85 rfl (by decide) ?_
        refine ar_top (x' := nI 8) (rfl) ?_
        have hS1 : NS Z n nd nn gg C me f q u b uv h0 h D K A Y := ⟨hF, hN, hf, hn, hs, hp0, hu0⟩
        have hI1 : NI Z nn D := hI
        refine ar_call (r := []) (na := 0) (kd := 0) (cm := 128) (fr2 := fr - 1) (lo2 := lo - 26) 90 d_125_87 (ar_hoV (as := [.int (nI 8)]) rfl rfl rfl (hF.at 7 rfl)) rfl (by omega) (show lo - 26 + (19 + 7) = lo by omega) (Nat.le_of_ble_eq_true rfl) (Nat.le_of_ble_eq_true rfl) (s_128 (by omega) (by omega) hC0 hS1 hI1 (by omega)) ?_
        intro v hp_1 hq
        obtain ⟨rfl, D1, K1, A1, Y1, hS2, hI2, hE1, -⟩ := hq
        clear hS1 hI1 hF hN hf hn hs hp0 hu0
        obtain ⟨hF, hN, hf, hn, hs, hp0, hu0⟩ := hS2
        replace hF : ax_hs hp_1 [cNd n nd me D1, cDk nd D1, cAr nd 2 35840 D1, cAr nd 3 4096 D1, cAr nd 4 32 D1, cAr nd 5 280 D1, cAr nd 6 280 D1, cLd n nd me D1 A1, cAr nd 8 16 D1, cAr nd 9 280 D1, cTb nd gg D1 K1, cAr nd 11 48 D1, cAr nd 12 48 D1, cAr nd 13 48 D1, cAr nd 14 2400 D1, cAr nd 15 512 D1, cAr nd 16 961 D1, cAr nd 17 961 D1, cWk nd D1, cWa nd D1, cAr nd 20 612 D1, cAr nd 21 1152 D1, cRk n nn gg C, cOr n nn gg f] := hF
        have hI1 := hI2
        clear hI2
        have hS9 : NS Z n nd nn gg C me f q u b uv h0 hp_1 D1 K1 A1 Y1 := ⟨hF, hN, hf, hn, hs, hp0, hu0⟩
        have hI9 : NI Z nn D1 := hI1
        exact ar_ret d_125_90 rfl (⟨rfl, _, _, _, _, hS9, hI9, eq_ifT c1 (eq_ifT c2 (eq_ifF c3 (bnS_eq hE1 (rfl)))), trivial⟩)
    · refine ar_iconst 52 (v := 0) d_125_51 rfl (by decide) ?_
      refine ar_istore_n 53 [(0, .ref (nd + 7)), (1, .int 0)] d_125_52 rfl (by decide) rfl ?_
      rw [← show H_125 nn gg C me f u b 8 0 D K A Y = F_125 nn gg C me f u b D K A Y from eq_ifT c1 (eq_ifF c2 (rfl))]
      exact key2 8 0 h D K A Y (by omega) hS0 hI
  · refine ar_iconst 12 (v := 0) d_125_11 rfl (by decide) ?_
    refine ar_istore_n 13 [(0, .ref (nd + 7)), (1, .int 0)] d_125_12 rfl (by decide) rfl ?_
    rw [← show G_125 nn gg C me f u b 6 0 D K A Y = F_125 nn gg C me f u b D K A Y from eq_ifF c1 (rfl)]
    exact key1 6 0 h D K A Y (by omega) (Decidable.not_not.mp c1) hS0 hI

/-! Work: touch, plan for every state -/
theorem d_93_0 : decode (axt_b 93) 0 = .ok (.aload_n 0, 1) := by decide +kernel
theorem d_93_1 : decode (axt_b 93) 1 = .ok (.getfield 26, 3) := by decide +kernel
theorem d_93_4 : decode (axt_b 93) 4 = .ok (.getfield 48, 3) := by decide +kernel
theorem d_93_7 : decode (axt_b 93) 7 = .ok (.sipush 960, 3) := by decide +kernel
theorem d_93_10 : decode (axt_b 93) 10 = .ok (.iaload, 1) := by decide +kernel
theorem d_93_11 : decode (axt_b 93) 11 = .ok (.istore_n 1, 1) := by decide +kernel
theorem d_93_12 : decode (axt_b 93) 12 = .ok (.aload_n 0, 1) := by decide +kernel
theorem d_93_13 : decode (axt_b 93) 13 = .ok (.getfield 18, 3) := by decide +kernel
theorem d_93_16 : decode (axt_b 93) 16 = .ok (.iconst 0, 1) := by decide +kernel
theorem d_93_17 : decode (axt_b 93) 17 = .ok (.invokestatic 53, 3) := by decide +kernel
theorem d_93_20 : decode (axt_b 93) 20 = .ok (.aload_n 0, 1) := by decide +kernel
theorem d_93_21 : decode (axt_b 93) 21 = .ok (.iconst 0, 1) := by decide +kernel
theorem d_93_22 : decode (axt_b 93) 22 = .ok (.putfield 59, 3) := by decide +kernel
theorem d_93_25 : decode (axt_b 93) 25 = .ok (.aload_n 0, 1) := by decide +kernel
theorem d_93_26 : decode (axt_b 93) 26 = .ok (.iconst 0, 1) := by decide +kernel
theorem d_93_27 : decode (axt_b 93) 27 = .ok (.putfield 62, 3) := by decide +kernel
theorem d_93_30 : decode (axt_b 93) 30 = .ok (.aload_n 0, 1) := by decide +kernel
theorem d_93_31 : decode (axt_b 93) 31 = .ok (.iconst 0, 1) := by decide +kernel
theorem d_93_32 : decode (axt_b 93) 32 = .ok (.putfield 65, 3) := by decide +kernel
theorem d_93_35 : decode (axt_b 93) 35 = .ok (.aload_n 0, 1) := by decide +kernel
theorem d_93_36 : decode (axt_b 93) 36 = .ok (.iconst (-1), 1) := by decide +kernel
theorem d_93_37 : decode (axt_b 93) 37 = .ok (.putfield 68, 3) := by decide +kernel
theorem d_93_40 : decode (axt_b 93) 40 = .ok (.aload_n 0, 1) := by decide +kernel
theorem d_93_41 : decode (axt_b 93) 41 = .ok (.iconst (-1), 1) := by decide +kernel
theorem d_93_42 : decode (axt_b 93) 42 = .ok (.putfield 71, 3) := by decide +kernel
theorem d_93_45 : decode (axt_b 93) 45 = .ok (.iload_n 1, 1) := by decide +kernel
theorem d_93_46 : decode (axt_b 93) 46 = .ok (.aload_n 0, 1) := by decide +kernel
theorem d_93_47 : decode (axt_b 93) 47 = .ok (.getfield 22, 3) := by decide +kernel
theorem d_93_50 : decode (axt_b 93) 50 = .ok (.if_icmp .le 11, 3) := by decide +kernel
theorem d_93_53 : decode (axt_b 93) 53 = .ok (.aload_n 0, 1) := by decide +kernel
theorem d_93_54 : decode (axt_b 93) 54 = .ok (.iconst 0, 1) := by decide +kernel
theorem d_93_55 : decode (axt_b 93) 55 = .ok (.putfield 35, 3) := by decide +kernel
theorem d_93_58 : decode (axt_b 93) 58 = .ok (.goto 196, 3) := by decide +kernel
theorem d_93_61 : decode (axt_b 93) 61 = .ok (.iload_n 1, 1) := by decide +kernel
theorem d_93_62 : decode (axt_b 93) 62 = .ok (.aload_n 0, 1) := by decide +kernel
theorem d_93_63 : decode (axt_b 93) 63 = .ok (.getfield 22, 3) := by decide +kernel
theorem d_93_66 : decode (axt_b 93) 66 = .ok (.if_icmp .ne 22, 3) := by decide +kernel
theorem d_93_69 : decode (axt_b 93) 69 = .ok (.aload_n 0, 1) := by decide +kernel
theorem d_93_70 : decode (axt_b 93) 70 = .ok (.aload_n 0, 1) := by decide +kernel
theorem d_93_71 : decode (axt_b 93) 71 = .ok (.getfield 26, 3) := by decide +kernel
theorem d_93_74 : decode (axt_b 93) 74 = .ok (.getfield 74, 3) := by decide +kernel
theorem d_93_77 : decode (axt_b 93) 77 = .ok (.putfield 77, 3) := by decide +kernel
theorem d_93_80 : decode (axt_b 93) 80 = .ok (.aload_n 0, 1) := by decide +kernel
theorem d_93_81 : decode (axt_b 93) 81 = .ok (.iconst 3, 1) := by decide +kernel
theorem d_93_82 : decode (axt_b 93) 82 = .ok (.putfield 35, 3) := by decide +kernel
theorem d_93_85 : decode (axt_b 93) 85 = .ok (.goto 169, 3) := by decide +kernel
theorem d_93_88 : decode (axt_b 93) 88 = .ok (.iload_n 1, 1) := by decide +kernel
theorem d_93_89 : decode (axt_b 93) 89 = .ok (.aload_n 0, 1) := by decide +kernel
theorem d_93_90 : decode (axt_b 93) 90 = .ok (.getfield 41, 3) := by decide +kernel
theorem d_93_93 : decode (axt_b 93) 93 = .ok (.if_icmp .ne 161, 3) := by decide +kernel
theorem d_93_96 : decode (axt_b 93) 96 = .ok (.aload_n 0, 1) := by decide +kernel
theorem d_93_97 : decode (axt_b 93) 97 = .ok (.aload_n 0, 1) := by decide +kernel
theorem d_93_98 : decode (axt_b 93) 98 = .ok (.getfield 26, 3) := by decide +kernel
theorem d_93_101 : decode (axt_b 93) 101 = .ok (.aload_n 0, 1) := by decide +kernel
theorem d_93_102 : decode (axt_b 93) 102 = .ok (.getfield 12, 3) := by decide +kernel
theorem d_93_105 : decode (axt_b 93) 105 = .ok (.getfield 78, 3) := by decide +kernel
theorem d_93_108 : decode (axt_b 93) 108 = .ok (.iconst 0, 1) := by decide +kernel
theorem d_93_109 : decode (axt_b 93) 109 = .ok (.aload_n 0, 1) := by decide +kernel
theorem d_93_110 : decode (axt_b 93) 110 = .ok (.getfield 12, 3) := by decide +kernel
theorem d_93_113 : decode (axt_b 93) 113 = .ok (.getfield 81, 3) := by decide +kernel
theorem d_93_116 : decode (axt_b 93) 116 = .ok (.invokevirtual 84, 3) := by decide +kernel
theorem d_93_119 : decode (axt_b 93) 119 = .ok (.putfield 88, 3) := by decide +kernel
theorem d_93_122 : decode (axt_b 93) 122 = .ok (.aload_n 0, 1) := by decide +kernel
theorem d_93_123 : decode (axt_b 93) 123 = .ok (.aload_n 0, 1) := by decide +kernel
theorem d_93_124 : decode (axt_b 93) 124 = .ok (.getfield 12, 3) := by decide +kernel
theorem d_93_127 : decode (axt_b 93) 127 = .ok (.getfield 91, 3) := by decide +kernel
theorem d_93_130 : decode (axt_b 93) 130 = .ok (.bipush 9, 2) := by decide +kernel
theorem d_93_132 : decode (axt_b 93) 132 = .ok (.if_icmp .ne 27, 3) := by decide +kernel
theorem d_93_135 : decode (axt_b 93) 135 = .ok (.aload_n 0, 1) := by decide +kernel
theorem d_93_136 : decode (axt_b 93) 136 = .ok (.getfield 26, 3) := by decide +kernel
theorem d_93_139 : decode (axt_b 93) 139 = .ok (.aload_n 0, 1) := by decide +kernel
theorem d_93_140 : decode (axt_b 93) 140 = .ok (.getfield 12, 3) := by decide +kernel
theorem d_93_143 : decode (axt_b 93) 143 = .ok (.getfield 78, 3) := by decide +kernel
theorem d_93_146 : decode (axt_b 93) 146 = .ok (.aload_n 0, 1) := by decide +kernel
theorem d_93_147 : decode (axt_b 93) 147 = .ok (.getfield 12, 3) := by decide +kernel
theorem d_93_150 : decode (axt_b 93) 150 = .ok (.getfield 81, 3) := by decide +kernel
theorem d_93_153 : decode (axt_b 93) 153 = .ok (.invokevirtual 94, 3) := by decide +kernel
theorem d_93_156 : decode (axt_b 93) 156 = .ok (.goto 26, 3) := by decide +kernel
theorem d_93_159 : decode (axt_b 93) 159 = .ok (.aload_n 0, 1) := by decide +kernel
theorem d_93_160 : decode (axt_b 93) 160 = .ok (.getfield 26, 3) := by decide +kernel
theorem d_93_163 : decode (axt_b 93) 163 = .ok (.aload_n 0, 1) := by decide +kernel
theorem d_93_164 : decode (axt_b 93) 164 = .ok (.getfield 12, 3) := by decide +kernel
theorem d_93_167 : decode (axt_b 93) 167 = .ok (.getfield 78, 3) := by decide +kernel
theorem d_93_170 : decode (axt_b 93) 170 = .ok (.bipush 50, 2) := by decide +kernel
theorem d_93_172 : decode (axt_b 93) 172 = .ok (.aload_n 0, 1) := by decide +kernel
theorem d_93_173 : decode (axt_b 93) 173 = .ok (.getfield 12, 3) := by decide +kernel
theorem d_93_176 : decode (axt_b 93) 176 = .ok (.getfield 98, 3) := by decide +kernel
theorem d_93_179 : decode (axt_b 93) 179 = .ok (.invokevirtual 84, 3) := by decide +kernel
theorem d_93_182 : decode (axt_b 93) 182 = .ok (.putfield 101, 3) := by decide +kernel
theorem d_93_185 : decode (axt_b 93) 185 = .ok (.aload_n 0, 1) := by decide +kernel
theorem d_93_186 : decode (axt_b 93) 186 = .ok (.aload_n 0, 1) := by decide +kernel
theorem d_93_187 : decode (axt_b 93) 187 = .ok (.ldc 104, 2) := by decide +kernel
theorem d_93_189 : decode (axt_b 93) 189 = .ok (.aload_n 0, 1) := by decide +kernel
theorem d_93_190 : decode (axt_b 93) 190 = .ok (.getfield 26, 3) := by decide +kernel
theorem d_93_193 : decode (axt_b 93) 193 = .ok (.invokevirtual 105, 3) := by decide +kernel
theorem d_93_196 : decode (axt_b 93) 196 = .ok (.isub, 1) := by decide +kernel
theorem d_93_197 : decode (axt_b 93) 197 = .ok (.invokevirtual 109, 3) := by decide +kernel
theorem d_93_200 : decode (axt_b 93) 200 = .ok (.putfield 77, 3) := by decide +kernel
theorem d_93_203 : decode (axt_b 93) 203 = .ok (.aload_n 0, 1) := by decide +kernel
theorem d_93_204 : decode (axt_b 93) 204 = .ok (.getfield 77, 3) := by decide +kernel
theorem d_93_207 : decode (axt_b 93) 207 = .ok (.ifCond .lt 7, 3) := by decide +kernel
theorem d_93_210 : decode (axt_b 93) 210 = .ok (.aload_n 0, 1) := by decide +kernel
theorem d_93_211 : decode (axt_b 93) 211 = .ok (.invokevirtual 113, 3) := by decide +kernel
theorem d_93_214 : decode (axt_b 93) 214 = .ok (.aload_n 0, 1) := by decide +kernel
theorem d_93_215 : decode (axt_b 93) 215 = .ok (.aload_n 0, 1) := by decide +kernel
theorem d_93_216 : decode (axt_b 93) 216 = .ok (.getfield 77, 3) := by decide +kernel
theorem d_93_219 : decode (axt_b 93) 219 = .ok (.ifCond .lt 27, 3) := by decide +kernel
theorem d_93_222 : decode (axt_b 93) 222 = .ok (.aload_n 0, 1) := by decide +kernel
theorem d_93_223 : decode (axt_b 93) 223 = .ok (.getfield 12, 3) := by decide +kernel
theorem d_93_226 : decode (axt_b 93) 226 = .ok (.getfield 91, 3) := by decide +kernel
theorem d_93_229 : decode (axt_b 93) 229 = .ok (.bipush 8, 2) := by decide +kernel
theorem d_93_231 : decode (axt_b 93) 231 = .ok (.if_icmp .eq 15, 3) := by decide +kernel
theorem d_93_234 : decode (axt_b 93) 234 = .ok (.aload_n 0, 1) := by decide +kernel
theorem d_93_235 : decode (axt_b 93) 235 = .ok (.getfield 12, 3) := by decide +kernel
theorem d_93_238 : decode (axt_b 93) 238 = .ok (.getfield 91, 3) := by decide +kernel
theorem d_93_241 : decode (axt_b 93) 241 = .ok (.bipush 9, 2) := by decide +kernel
theorem d_93_243 : decode (axt_b 93) 243 = .ok (.if_icmp .ne 7, 3) := by decide +kernel
theorem d_93_246 : decode (axt_b 93) 246 = .ok (.iconst 5, 1) := by decide +kernel
theorem d_93_247 : decode (axt_b 93) 247 = .ok (.goto 4, 3) := by decide +kernel
theorem d_93_250 : decode (axt_b 93) 250 = .ok (.iconst 2, 1) := by decide +kernel
theorem d_93_251 : decode (axt_b 93) 251 = .ok (.putfield 35, 3) := by decide +kernel
theorem d_93_254 : decode (axt_b 93) 254 = .ok (.return_, 1) := by decide +kernel
def G_102 (nn gg : Nat) (C me : Int32) (f u b : Nat → Int32)  : Nat → Nat → (Nat → Nat → Int32) → Int64 → Int64 → List Mg → St
  | 0, i, D1, K, A, Y =>
    (D1, K, A, Y)
  | k + 1, i, D1, K, A, Y =>
    bnN ((D1 18 10).toNatClampNeg) (fun fi =>
      if D1 18 7 = -1 then
        G_102 nn gg C me f u b k (i + 1) D1 K A Y
      else
        bnN ((D1 18 7).toNatClampNeg) (fun ff =>
          if ((D1 16) (ff * 20 + fi + i)) < 0 then
            G_102 nn gg C me f u b k (i + 1) D1 K A Y
          else
            G_102 nn gg C me f u b k (i + 1) (va_up D1 18 (upd (D1 18) 12 ((D1 18 12) ||| (1 <<< ((nI i) &&& 31))))) K A Y))
def F_102 (nn gg : Nat) (C me : Int32) (f u b : Nat → Int32) (D : Nat → Nat → Int32) (K A : Int64) (Y : List Mg)  : St :=
  bnN ((D 18 9).toNatClampNeg) (fun sp =>
    if ¬ (D 19 0) = 9 then
      if (nI sp) ≤ 0 then
        G_102 nn gg C me f u b 0 0 D K A Y
      else
        bnN ((D 19 1).toNatClampNeg) (fun a =>
          G_102 nn gg C me f u b ((a + sp - 1) / 448 - a / 448 + 1) 0 (va_up D 18 (upd (upd (D 18) 10 (nI (a / 448))) 11 (nI ((a + sp - 1) / 448 - a / 448 + 1)))) K A Y)
    else
      bnN ((D 18 8).toNatClampNeg) (fun p =>
        if (nI sp) ≤ 0 then
          G_102 nn gg C me f u b 0 0 (va_up D 20 (va_cpy (D 14) (D 20) (p * 50) 100 50)) K A Y
        else
          bnN ((D 19 1).toNatClampNeg) (fun a =>
            G_102 nn gg C me f u b ((a + sp - 1) / 448 - a / 448 + 1) 0 (va_up (va_up D 18 (upd (upd (D 18) 10 (nI (a / 448))) 11 (nI ((a + sp - 1) / 448 - a / 448 + 1)))) 20 (va_cpy (D 14) (D 20) (p * 50) 100 50)) K A Y)))
set_option maxRecDepth 100000 in
theorem s_102 {L : Nat} {xs : Nat → Int32} {fr lo : Nat} {Z : ZT} {n nd nn gg : Nat} {C me : Int32} {f : Nat → Int32} {q : Nat} {u b : Nat → Int32} {uv : Int32} {h0 h : ax_H} {D : Nat → Nat → Int32} {K A : Int64} {Y : List Mg}  (hfr : 2 ≤ fr) (hlo : 60 ≤ lo) (hC : CS n nd nn gg f) (hS : NS Z n nd nn gg C me f q u b uv h0 h D K A Y) (hI : NI Z nn D) (h3 : D 18 3 = 1) (h7 : OKf (D 11) (D 18 7)) (h8 : D 19 0 = 9 → ∃ p : Nat, p < 48 ∧ D 18 8 = nI p) (h11 : D 18 11 = 0) (hsp : ∃ s : Nat, s ≤ 2048 ∧ D 18 9 = nI s ∧ (0 < s → ∃ a : Nat, D 19 1 = nI a ∧ a + s ≤ 8192)) : ax_M L xs 102 fr lo [.ref (nd + 18)] h (fun r h' => r = none ∧ PS Z n nd nn gg C me f q u b uv h0 h' (fun D' K' A' Y' => (D', K', A', Y') = F_102 nn gg C me f u b D K A Y ∧ SM D D' ∧ D' 18 5 = D 18 5 ∧ D' 18 9 = D 18 9 ∧ D' 19 = D 19 ∧ SpC (D' 18) (D' 19))) := by
  have hC0 := hC
  have key : ∀ (k i c : Nat) (h : ax_H) (D1 : Nat → Nat → Int32) (K A : Int64) (Y : List Mg), i + k = c → c ≤ 6 → (0 < c → ∃ fi : Nat, D1 18 10 = nI fi ∧ fi + c ≤ 19) → D1 18 11 = nI c → OKf (D1 11) (D1 18 7) → NS Z n nd nn gg C me f q u b uv h0 h D1 K A Y → NI Z nn D1 → SM D D1 ∧ D1 18 5 = D 18 5 ∧ D1 18 9 = D 18 9 ∧ D1 19 = D 19 ∧ SpC (D1 18) (D1 19) → ax_A (ax_step L xs) ((102, 85, fr, lo), [(0, .ref (nd + 18)), (1, .int (nI i))], [], h) (fun r h' => r = none ∧ PS Z n nd nn gg C me f q u b uv h0 h' (fun D' K' A' Y' => (D', K', A', Y') = G_102 nn gg C me f u b k i D1 K A Y ∧ SM D D' ∧ D' 18 5 = D 18 5 ∧ D' 18 9 = D 18 9 ∧ D' 19 = D 19 ∧ SpC (D' 18) (D' 19))) := by
    intro k
    induction k with
    | zero =>
      intro i c h D1 K A Y hi hc hfi e11 h7 hS hI hR
      have e0 : i = c := by omega
      subst e0
      obtain ⟨hnd, hn0, hnn3, hnn, hgg1, hgg, hRg⟩ := hC
      obtain ⟨hF, hN, hf, hn, hs, hp0, hu0⟩ := hS
      replace hF : ax_hs h [cNd n nd me D1, cDk nd D1, cAr nd 2 35840 D1, cAr nd 3 4096 D1, cAr nd 4 32 D1, cAr nd 5 280 D1, cAr nd 6 280 D1, cLd n nd me D1 A, cAr nd 8 16 D1, cAr nd 9 280 D1, cTb nd gg D1 K, cAr nd 11 48 D1, cAr nd 12 48 D1, cAr nd 13 48 D1, cAr nd 14 2400 D1, cAr nd 15 512 D1, cAr nd 16 961 D1, cAr nd 17 961 D1, cWk nd D1, cWa nd D1, cAr nd 20 612 D1, cAr nd 21 1152 D1, cRk n nn gg C, cOr n nn gg f] := hF
      refine ar_iload_n 86 d_102_85 rfl rfl ?_
      refine ar_aload_n 87 d_102_86 rfl rfl ?_
      refine ar_getf 90 d_102_87 rfl (ci := 10) (k := 11) rfl (hF.at 18 rfl) rfl ?_
      refine ar_icmp_ge 143 93 d_102_90 (by decide) rfl (fun _ => ?_) (fun c => absurd (by rw [e11]; exact Int32.le_refl _) c)
      have hS9 : NS Z n nd nn gg C me f q u b uv h0 h D1 K A Y := ⟨hF, hN, hf, hn, hs, hp0, hu0⟩
      have hI9 : NI Z nn D1 := hI
      exact ar_ret d_102_143 rfl (⟨rfl, _, _, _, _, hS9, hI9, rfl, hR⟩)
    | succ k ih =>
      intro i c h D1 K A Y hi hc hfi e11 h7 hS hI hR
      have hic : i < c := by omega
      obtain ⟨fi, efi, hfi2⟩ := hfi (by omega)
      obtain ⟨hnd, hn0, hnn3, hnn, hgg1, hgg, hRg⟩ := hC
      obtain ⟨hF, hN, hf, hn, hs, hp0, hu0⟩ := hS
      replace hF : ax_hs h [cNd n nd me D1, cDk nd D1, cAr nd 2 35840 D1, cAr nd 3 4096 D1, cAr nd 4 32 D1, cAr nd 5 280 D1, cAr nd 6 280 D1, cLd n nd me D1 A, cAr nd 8 16 D1, cAr nd 9 280 D1, cTb nd gg D1 K, cAr nd 11 48 D1, cAr nd 12 48 D1, cAr nd 13 48 D1, cAr nd 14 2400 D1, cAr nd 15 512 D1, cAr nd 16 961 D1, cAr nd 17 961 D1, cWk nd D1, cWa nd D1, cAr nd 20 612 D1, cAr nd 21 1152 D1, cRk n nn gg C, cOr n nn gg f] := hF
      have h7c : D1 18 7 = -1 ∨ ∃ p : Nat, p < 48 ∧ D1 18 7 = nI p ∧ ¬ D1 11 p < 0 := h7
      rcases h7c with e7 | ⟨ff, hff, e7, hfj⟩
      · refine ar_iload_n 86 d_102_85 rfl rfl ?_
        refine ar_aload_n 87 d_102_86 rfl rfl ?_
        refine ar_getf 90 d_102_87 rfl (ci := 10) (k := 11) rfl (hF.at 18 rfl) rfl ?_
        refine ar_icmp_ge 143 93 d_102_90 (by decide) rfl (fun c => absurd c (by rw [e11]; exact nI_ge hic (by omega))) (fun _ => ?_)
        refine ar_aload_n 94 d_102_93 rfl rfl ?_
        refine ar_getf 97 d_102_94 rfl (ci := 10) (k := 7) rfl (hF.at 18 rfl) rfl ?_
        refine ar_top (x' := -1) (e7) ?_
        refine ar_if_lt 137 100 d_102_97 (by decide) rfl (fun _ => ?_) (fun c => absurd (by decide) c)
        refine ar_iinc 140 [(0, .ref (nd + 18)), (1, .int (nI (i + 1)))] d_102_137 rfl rfl (nI_1 i) (by decide) rfl ?_
        refine ar_goto 85 d_102_140 (by decide) ?_
        have hS1 : NS Z n nd nn gg C me f q u b uv h0 h D1 K A Y := ⟨hF, hN, hf, hn, hs, hp0, hu0⟩
        have hI1 : NI Z nn D1 := hI
        rw [← show G_102 nn gg C me f u b k (i + 1) D1 K A Y = G_102 nn gg C me f u b (k + 1) i D1 K A Y from bnN_eq (cl_eq (show fi < 20 by omega) efi) (eq_ifT e7 (rfl))]
        exact ih (i + 1) c h D1 K A Y (by omega) hc hfi e11 h7 hS1 hI1 hR
      · refine ar_iload_n 86 d_102_85 rfl rfl ?_
        refine ar_aload_n 87 d_102_86 rfl rfl ?_
        refine ar_getf 90 d_102_87 rfl (ci := 10) (k := 11) rfl (hF.at 18 rfl) rfl ?_
        refine ar_icmp_ge 143 93 d_102_90 (by decide) rfl (fun c => absurd c (by rw [e11]; exact nI_ge hic (by omega))) (fun _ => ?_)
        refine ar_aload_n 94 d_102_93 rfl rfl ?_
        refine ar_getf 97 d_102_94 rfl (ci := 10) (k := 7) rfl (hF.at 18 rfl) rfl ?_
        refine ar_top (x' := nI ff) (e7) ?_
        refine ar_if_lt 137 100 d_102_97 (by decide) rfl (fun c => absurd c (nI_pos (by omega))) (fun _ => ?_)
        refine ar_aload_n 101 d_102_100 rfl rfl ?_
        refine ar_getf 104 d_102_101 rfl (ci := 10) (k := 0) rfl (hF.at 18 rfl) rfl ?_
        refine ar_getf 107 d_102_104 rfl (ci := 6) (k := 6) rfl (hF.at 10 rfl) rfl ?_
        refine ar_aload_n 108 d_102_107 rfl rfl ?_
        refine ar_getf 111 d_102_108 rfl (ci := 10) (k := 7) rfl (hF.at 18 rfl) rfl ?_
        refine ar_top (x' := nI ff) (e7) ?_
        refine ar_bipush 113 (v := 20) d_102_111 rfl (by decide) ?_
        refine ar_imul 114 d_102_113 rfl ?_
        refine ar_top (x' := nI (ff * 20)) (pk_mul ff 20) ?_
        refine ar_aload_n 115 d_102_114 rfl rfl ?_
        refine ar_getf 118 d_102_115 rfl (ci := 10) (k := 10) rfl (hF.at 18 rfl) rfl ?_
        refine ar_top (x' := nI fi) (efi) ?_
        refine ar_iadd 119 d_102_118 rfl ?_
        refine ar_top (x' := nI (ff * 20 + fi)) (nI_add _ _) ?_
        refine ar_iload_n 120 d_102_119 rfl rfl ?_
        refine ar_iadd 121 d_102_120 rfl ?_
        refine ar_top (x' := nI (ff * 20 + fi + i)) (nI_add _ _) ?_
        refine ar_ialdN 122 (e := ff * 20 + fi + i) d_102_121 rfl (hF.at 16 rfl) (by omega) (by omega) ?_
        refine ar_if_lt 137 125 d_102_122 (by decide) rfl (fun cc1 => ?_) (fun cc1 => ?_)
        · refine ar_iinc 140 [(0, .ref (nd + 18)), (1, .int (nI (i + 1)))] d_102_137 rfl rfl (nI_1 i) (by decide) rfl ?_
          refine ar_goto 85 d_102_140 (by decide) ?_
          have hS1 : NS Z n nd nn gg C me f q u b uv h0 h D1 K A Y := ⟨hF, hN, hf, hn, hs, hp0, hu0⟩
          have hI1 : NI Z nn D1 := hI
          rw [← show G_102 nn gg C me f u b k (i + 1) D1 K A Y = G_102 nn gg C me f u b (k + 1) i D1 K A Y from bnN_eq (cl_eq (show fi < 20 by omega) efi) (eq_ifF (nI_ne1 hff e7) (bnN_eq (cl_eq hff e7) (eq_ifT cc1 (rfl))))]
          exact ih (i + 1) c h D1 K A Y (by omega) hc hfi e11 h7 hS1 hI1 hR
        · refine ar_aload_n 126 d_102_125 rfl rfl ?_
          refine ar_dup 127 d_102_126 rfl rfl ?_
          refine ar_getf 130 d_102_127 rfl (ci := 10) (k := 12) rfl (hF.at 18 rfl) rfl ?_
          refine ar_iconst 131 (v := 1) d_102_130 rfl (by decide) ?_
          refine ar_iload_n 132 d_102_131 rfl rfl ?_
          refine ar_ishl 133 d_102_132 rfl ?_
          refine ar_ior 134 d_102_133 rfl ?_
          refine ar_putf 137 [.ref (nd + 10), .ref (nd + 19), .ref (nd + 21), .int (D1 18 3), .int (D1 18 4), .int (D1 18 5), .int (D1 18 6), .int (D1 18 7), .int (D1 18 8), .int (D1 18 9), .int (D1 18 10), .int (D1 18 11), .int ((D1 18 12) ||| (1 <<< ((nI i) &&& 31))), .int (D1 18 13), .int (D1 18 14)] d_102_134 rfl (ci := 10) (k := 12) rfl rfl (hF.at 18 rfl) (Nat.le_of_ble_eq_true rfl) rfl rfl rfl ?_
          replace hF : ax_hs (ax_put h (nd + 18) (.inr (10, [.ref (nd + 10), .ref (nd + 19), .ref (nd + 21), .int (D1 18 3), .int (D1 18 4), .int (D1 18 5), .int (D1 18 6), .int (D1 18 7), .int (D1 18 8), .int (D1 18 9), .int (D1 18 10), .int (D1 18 11), .int ((D1 18 12) ||| (1 <<< ((nI i) &&& 31))), .int (D1 18 13), .int (D1 18 14)]))) [cNd n nd me D1, cDk nd D1, cAr nd 2 35840 D1, cAr nd 3 4096 D1, cAr nd 4 32 D1, cAr nd 5 280 D1, cAr nd 6 280 D1, cLd n nd me D1 A, cAr nd 8 16 D1, cAr nd 9 280 D1, cTb nd gg D1 K, cAr nd 11 48 D1, cAr nd 12 48 D1, cAr nd 13 48 D1, cAr nd 14 2400 D1, cAr nd 15 512 D1, cAr nd 16 961 D1, cAr nd 17 961 D1, (nd + 18, .inr (10, [.ref (nd + 10), .ref (nd + 19), .ref (nd + 21), .int (D1 18 3), .int (D1 18 4), .int (D1 18 5), .int (D1 18 6), .int (D1 18 7), .int (D1 18 8), .int (D1 18 9), .int (D1 18 10), .int (D1 18 11), .int ((D1 18 12) ||| (1 <<< ((nI i) &&& 31))), .int (D1 18 13), .int (D1 18 14)])), cWa nd D1, cAr nd 20 612 D1, cAr nd 21 1152 D1, cRk n nn gg C, cOr n nn gg f] := hF.put 18 _ rfl rfl
          replace hf := hf.put (a := nd + 18) (c := .inr (10, [.ref (nd + 10), .ref (nd + 19), .ref (nd + 21), .int (D1 18 3), .int (D1 18 4), .int (D1 18 5), .int (D1 18 6), .int (D1 18 7), .int (D1 18 8), .int (D1 18 9), .int (D1 18 10), .int (D1 18 11), .int ((D1 18 12) ||| (1 <<< ((nI i) &&& 31))), .int (D1 18 13), .int (D1 18 14)])) (Or.inr (by omega))
          replace hN := hN.put (a := nd + 18) (c := .inr (10, [.ref (nd + 10), .ref (nd + 19), .ref (nd + 21), .int (D1 18 3), .int (D1 18 4), .int (D1 18 5), .int (D1 18 6), .int (D1 18 7), .int (D1 18 8), .int (D1 18 9), .int (D1 18 10), .int (D1 18 11), .int ((D1 18 12) ||| (1 <<< ((nI i) &&& 31))), .int (D1 18 13), .int (D1 18 14)])) (by omega)
          replace hn : (ax_put h (nd + 18) (.inr (10, [.ref (nd + 10), .ref (nd + 19), .ref (nd + 21), .int (D1 18 3), .int (D1 18 4), .int (D1 18 5), .int (D1 18 6), .int (D1 18 7), .int (D1 18 8), .int (D1 18 9), .int (D1 18 10), .int (D1 18 11), .int ((D1 18 12) ||| (1 <<< ((nI i) &&& 31))), .int (D1 18 13), .int (D1 18 14)]))).1 = h0.1 := hn
          replace hs : (ax_put h (nd + 18) (.inr (10, [.ref (nd + 10), .ref (nd + 19), .ref (nd + 21), .int (D1 18 3), .int (D1 18 4), .int (D1 18 5), .int (D1 18 6), .int (D1 18 7), .int (D1 18 8), .int (D1 18 9), .int (D1 18 10), .int (D1 18 11), .int ((D1 18 12) ||| (1 <<< ((nI i) &&& 31))), .int (D1 18 13), .int (D1 18 14)]))).2.1 = h0.2.1 := hs
          generalize ax_put h (nd + 18) (.inr (10, [.ref (nd + 10), .ref (nd + 19), .ref (nd + 21), .int (D1 18 3), .int (D1 18 4), .int (D1 18 5), .int (D1 18 6), .int (D1 18 7), .int (D1 18 8), .int (D1 18 9), .int (D1 18 10), .int (D1 18 11), .int ((D1 18 12) ||| (1 <<< ((nI i) &&& 31))), .int (D1 18 13), .int (D1 18 14)])) = hp_2 at hF hf hN hn hs ⊢
          refine ar_iinc 140 [(0, .ref (nd + 18)), (1, .int (nI (i + 1)))] d_102_137 rfl rfl (nI_1 i) (by decide) rfl ?_
          refine ar_goto 85 d_102_140 (by decide) ?_
          have hS1 : NS Z n nd nn gg C me f q u b uv h0 hp_2 (va_up D1 18 (upd (D1 18) 12 ((D1 18 12) ||| (1 <<< ((nI i) &&& 31))))) K A Y := ⟨hF, hN, hf, hn, hs, hp0, hu0⟩
          have hI1 : NI Z nn (va_up D1 18 (upd (D1 18) 12 ((D1 18 12) ||| (1 <<< ((nI i) &&& 31))))) := hI
          rw [← show G_102 nn gg C me f u b k (i + 1) (va_up D1 18 (upd (D1 18) 12 ((D1 18 12) ||| (1 <<< ((nI i) &&& 31))))) K A Y = G_102 nn gg C me f u b (k + 1) i D1 K A Y from bnN_eq (cl_eq (show fi < 20 by omega) efi) (eq_ifF (nI_ne1 hff e7) (bnN_eq (cl_eq hff e7) (eq_ifF cc1 (rfl))))]
          exact ih (i + 1) c hp_2 (va_up D1 18 (upd (D1 18) 12 ((D1 18 12) ||| (1 <<< ((nI i) &&& 31))))) K A Y (by omega) hc hfi e11 h7 hS1 hI1 hR
  show ax_A (ax_step L xs) ((102, 0, fr, lo), [(0, .ref (nd + 18))], [], h) _
  obtain ⟨hnd, hn0, hnn3, hnn, hgg1, hgg, hRg⟩ := hC
  obtain ⟨hF, hN, hf, hn, hs, hp0, hu0⟩ := hS
  replace hF : ax_hs h [cNd n nd me D, cDk nd D, cAr nd 2 35840 D, cAr nd 3 4096 D, cAr nd 4 32 D, cAr nd 5 280 D, cAr nd 6 280 D, cLd n nd me D A, cAr nd 8 16 D, cAr nd 9 280 D, cTb nd gg D K, cAr nd 11 48 D, cAr nd 12 48 D, cAr nd 13 48 D, cAr nd 14 2400 D, cAr nd 15 512 D, cAr nd 16 961 D, cAr nd 17 961 D, cWk nd D, cWa nd D, cAr nd 20 612 D, cAr nd 21 1152 D, cRk n nn gg C, cOr n nn gg f] := hF
  obtain ⟨sp, hsp1, e9, hsp2⟩ := hsp
  refine ar_aload_n 1 d_102_0 rfl rfl ?_
  refine ar_getf 4 d_102_1 rfl (ci := 10) (k := 1) rfl (hF.at 18 rfl) rfl ?_
  refine ar_getf 7 d_102_4 rfl (ci := 5) (k := 0) rfl (hF.at 19 rfl) rfl ?_
  refine ar_bipush 9 (v := 9) d_102_7 rfl (by decide) ?_
  refine ar_icmp_ne 32 12 d_102_9 (by decide) rfl (fun c0 => ?_) (fun c0 => ?_)
  · refine ar_aload_n 33 d_102_32 rfl rfl ?_
    refine ar_getf 36 d_102_33 rfl (ci := 10) (k := 9) rfl (hF.at 18 rfl) rfl ?_
    refine ar_top (x' := nI sp) (e9) ?_
    refine ar_if_le 83 39 d_102_36 (by decide) rfl (fun c1 => ?_) (fun c1 => ?_)
    · have e0 : sp = 0 := Nat.eq_zero_of_not_pos (fun z => nI_nle z (by omega) c1)
      refine ar_iconst 84 (v := 0) d_102_83 rfl (by decide) ?_
      refine ar_istore_n 85 [(0, .ref (nd + 18)), (1, .int 0)] d_102_84 rfl (by decide) rfl ?_
      have hS1 : NS Z n nd nn gg C me f q u b uv h0 h D K A Y := ⟨hF, hN, hf, hn, hs, hp0, hu0⟩
      have hI1 : NI Z nn D := ⟨hI.1, hI.2.1, WI.wait h3 hI.2.2.1.1 ⟨0, by omega, h11⟩ (hI.2.2.1.2.2.2.1 (neq h3 (by decide))) hI.2.2.1.2.2.2.2.2.2.2, hI.2.2.2⟩
      rw [← show G_102 nn gg C me f u b 0 0 D K A Y = F_102 nn gg C me f u b D K A Y from bnN_eq (cl_eq (show sp < 2049 by omega) e9) (eq_ifT c0 (eq_ifT c1 (rfl)))]
      exact key 0 0 0 h D K A Y (by omega) (by omega) (fun z => absurd z (by omega)) (h11) h7 hS1 hI1 ⟨⟨rfl, rfl, rfl, rfl, rfl, rfl, rfl, rfl, rfl, rfl⟩, rfl, rfl, rfl, ⟨0, 0, by omega, e9.trans (by rw [e0]), h11, fun _ => rfl, fun z => absurd z (by omega)⟩⟩
    · have e0 : 0 < sp := Nat.pos_of_ne_zero (fun z => c1 (by rw [z]; decide))
      obtain ⟨a, ea, ha⟩ := hsp2 e0
      refine ar_aload_n 40 d_102_39 rfl rfl ?_
      refine ar_aload_n 41 d_102_40 rfl rfl ?_
      refine ar_getf 44 d_102_41 rfl (ci := 10) (k := 1) rfl (hF.at 18 rfl) rfl ?_
      refine ar_getf 47 d_102_44 rfl (ci := 5) (k := 1) rfl (hF.at 19 rfl) rfl ?_
      refine ar_top (x' := nI a) (ea) ?_
      refine ar_sipush 50 (v := 448) d_102_47 rfl (by decide) ?_
      refine ar_idiv 51 d_102_50 rfl (by decide) ?_
      refine ar_top (x' := nI (a / 448)) (pk_div (d := 448) (by omega) (by omega) (by omega)) ?_
      refine ar_putf 54 [.ref (nd + 10), .ref (nd + 19), .ref (nd + 21), .int (D 18 3), .int (D 18 4), .int (D 18 5), .int (D 18 6), .int (D 18 7), .int (D 18 8), .int (D 18 9), .int (nI (a / 448)), .int (D 18 11), .int (D 18 12), .int (D 18 13), .int (D 18 14)] d_102_51 rfl (ci := 10) (k := 10) rfl rfl (hF.at 18 rfl) (Nat.le_of_ble_eq_true rfl) rfl rfl rfl ?_
      replace hF : ax_hs (ax_put h (nd + 18) (.inr (10, [.ref (nd + 10), .ref (nd + 19), .ref (nd + 21), .int (D 18 3), .int (D 18 4), .int (D 18 5), .int (D 18 6), .int (D 18 7), .int (D 18 8), .int (D 18 9), .int (nI (a / 448)), .int (D 18 11), .int (D 18 12), .int (D 18 13), .int (D 18 14)]))) [cNd n nd me D, cDk nd D, cAr nd 2 35840 D, cAr nd 3 4096 D, cAr nd 4 32 D, cAr nd 5 280 D, cAr nd 6 280 D, cLd n nd me D A, cAr nd 8 16 D, cAr nd 9 280 D, cTb nd gg D K, cAr nd 11 48 D, cAr nd 12 48 D, cAr nd 13 48 D, cAr nd 14 2400 D, cAr nd 15 512 D, cAr nd 16 961 D, cAr nd 17 961 D, (nd + 18, .inr (10, [.ref (nd + 10), .ref (nd + 19), .ref (nd + 21), .int (D 18 3), .int (D 18 4), .int (D 18 5), .int (D 18 6), .int (D 18 7), .int (D 18 8), .int (D 18 9), .int (nI (a / 448)), .int (D 18 11), .int (D 18 12), .int (D 18 13), .int (D 18 14)])), cWa nd D, cAr nd 20 612 D, cAr nd 21 1152 D, cRk n nn gg C, cOr n nn gg f] := hF.put 18 _ rfl rfl
      replace hf := hf.put (a := nd + 18) (c := .inr (10, [.ref (nd + 10), .ref (nd + 19), .ref (nd + 21), .int (D 18 3), .int (D 18 4), .int (D 18 5), .int (D 18 6), .int (D 18 7), .int (D 18 8), .int (D 18 9), .int (nI (a / 448)), .int (D 18 11), .int (D 18 12), .int (D 18 13), .int (D 18 14)])) (Or.inr (by omega))
      replace hN := hN.put (a := nd + 18) (c := .inr (10, [.ref (nd + 10), .ref (nd + 19), .ref (nd + 21), .int (D 18 3), .int (D 18 4), .int (D 18 5), .int (D 18 6), .int (D 18 7), .int (D 18 8), .int (D 18 9), .int (nI (a / 448)), .int (D 18 11), .int (D 18 12), .int (D 18 13), .int (D 18 14)])) (by omega)
      replace hn : (ax_put h (nd + 18) (.inr (10, [.ref (nd + 10), .ref (nd + 19), .ref (nd + 21), .int (D 18 3), .int (D 18 4), .int (D 18 5), .int (D 18 6), .int (D 18 7), .int (D 18 8), .int (D 18 9), .int (nI (a / 448)), .int (D 18 11), .int (D 18 12), .int (D 18 13), .int (D 18 14)]))).1 = h0.1 := hn
      replace hs : (ax_put h (nd + 18) (.inr (10, [.ref (nd + 10), .ref (nd + 19), .ref (nd + 21), .int (D 18 3), .int (D 18 4), .int (D 18 5), .int (D 18 6), .int (D 18 7), .int (D 18 8), .int (D 18 9), .int (nI (a / 448)), .int (D 18 11), .int (D 18 12), .int (D 18 13), .int (D 18 14)]))).2.1 = h0.2.1 := hs
      generalize ax_put h (nd + 18) (.inr (10, [.ref (nd + 10), .ref (nd + 19), .ref (nd + 21), .int (D 18 3), .int (D 18 4), .int (D 18 5), .int (D 18 6), .int (D 18 7), .int (D 18 8), .int (D 18 9), .int (nI (a / 448)), .int (D 18 11), .int (D 18 12), .int (D 18 13), .int (D 18 14)])) = hp_1 at hF hf hN hn hs ⊢
      refine ar_aload_n 55 d_102_54 rfl rfl ?_
      refine ar_aload_n 56 d_102_55 rfl rfl ?_
      refine ar_getf 59 d_102_56 rfl (ci := 10) (k := 1) rfl (hF.at 18 rfl) rfl ?_
      refine ar_getf 62 d_102_59 rfl (ci := 5) (k := 1) rfl (hF.at 19 rfl) rfl ?_
      refine ar_top (x' := nI a) (ea) ?_
      refine ar_aload_n 63 d_102_62 rfl rfl ?_
      refine ar_getf 66 d_102_63 rfl (ci := 10) (k := 9) rfl (hF.at 18 rfl) rfl ?_
      refine ar_top (x' := nI sp) (e9) ?_
      refine ar_iadd 67 d_102_66 rfl ?_
      refine ar_top (x' := nI (a + sp)) (nI_add _ _) ?_
      refine ar_iconst 68 (v := 1) d_102_67 rfl (by decide) ?_
      refine ar_isub 69 d_102_68 rfl ?_
      refine ar_top (x' := nI (a + sp - 1)) (by rw [show a + sp = (a + sp - 1) + 1 by omega]; exact nI_pred _) ?_
      refine ar_sipush 72 (v := 448) d_102_69 rfl (by decide) ?_
      refine ar_idiv 73 d_102_72 rfl (by decide) ?_
      refine ar_top (x' := nI ((a + sp - 1) / 448)) (pk_div (d := 448) (by omega) (by omega) (by omega)) ?_
      refine ar_aload_n 74 d_102_73 rfl rfl ?_
      refine ar_getf 77 d_102_74 rfl (ci := 10) (k := 10) rfl (hF.at 18 rfl) rfl ?_
      refine ar_isub 78 d_102_77 rfl ?_
      refine ar_top (x' := nI ((a + sp - 1) / 448 - a / 448)) (pk_sub (Nat.div_le_div_right (by omega))) ?_
      refine ar_iconst 79 (v := 1) d_102_78 rfl (by decide) ?_
      refine ar_iadd 80 d_102_79 rfl ?_
      refine ar_top (x' := nI ((a + sp - 1) / 448 - a / 448 + 1)) (nI_1 _) ?_
      refine ar_putf 83 [.ref (nd + 10), .ref (nd + 19), .ref (nd + 21), .int (D 18 3), .int (D 18 4), .int (D 18 5), .int (D 18 6), .int (D 18 7), .int (D 18 8), .int (D 18 9), .int (nI (a / 448)), .int (nI ((a + sp - 1) / 448 - a / 448 + 1)), .int (D 18 12), .int (D 18 13), .int (D 18 14)] d_102_80 rfl (ci := 10) (k := 11) rfl rfl (hF.at 18 rfl) (Nat.le_of_ble_eq_true rfl) rfl rfl rfl ?_
      replace hF : ax_hs (ax_put hp_1 (nd + 18) (.inr (10, [.ref (nd + 10), .ref (nd + 19), .ref (nd + 21), .int (D 18 3), .int (D 18 4), .int (D 18 5), .int (D 18 6), .int (D 18 7), .int (D 18 8), .int (D 18 9), .int (nI (a / 448)), .int (nI ((a + sp - 1) / 448 - a / 448 + 1)), .int (D 18 12), .int (D 18 13), .int (D 18 14)]))) [cNd n nd me D, cDk nd D, cAr nd 2 35840 D, cAr nd 3 4096 D, cAr nd 4 32 D, cAr nd 5 280 D, cAr nd 6 280 D, cLd n nd me D A, cAr nd 8 16 D, cAr nd 9 280 D, cTb nd gg D K, cAr nd 11 48 D, cAr nd 12 48 D, cAr nd 13 48 D, cAr nd 14 2400 D, cAr nd 15 512 D, cAr nd 16 961 D, cAr nd 17 961 D, (nd + 18, .inr (10, [.ref (nd + 10), .ref (nd + 19), .ref (nd + 21), .int (D 18 3), .int (D 18 4), .int (D 18 5), .int (D 18 6), .int (D 18 7), .int (D 18 8), .int (D 18 9), .int (nI (a / 448)), .int (nI ((a + sp - 1) / 448 - a / 448 + 1)), .int (D 18 12), .int (D 18 13), .int (D 18 14)])), cWa nd D, cAr nd 20 612 D, cAr nd 21 1152 D, cRk n nn gg C, cOr n nn gg f] := hF.put 18 _ rfl rfl
      replace hf := hf.put (a := nd + 18) (c := .inr (10, [.ref (nd + 10), .ref (nd + 19), .ref (nd + 21), .int (D 18 3), .int (D 18 4), .int (D 18 5), .int (D 18 6), .int (D 18 7), .int (D 18 8), .int (D 18 9), .int (nI (a / 448)), .int (nI ((a + sp - 1) / 448 - a / 448 + 1)), .int (D 18 12), .int (D 18 13), .int (D 18 14)])) (Or.inr (by omega))
      replace hN := hN.put (a := nd + 18) (c := .inr (10, [.ref (nd + 10), .ref (nd + 19), .ref (nd + 21), .int (D 18 3), .int (D 18 4), .int (D 18 5), .int (D 18 6), .int (D 18 7), .int (D 18 8), .int (D 18 9), .int (nI (a / 448)), .int (nI ((a + sp - 1) / 448 - a / 448 + 1)), .int (D 18 12), .int (D 18 13), .int (D 18 14)])) (by omega)
      replace hn : (ax_put hp_1 (nd + 18) (.inr (10, [.ref (nd + 10), .ref (nd + 19), .ref (nd + 21), .int (D 18 3), .int (D 18 4), .int (D 18 5), .int (D 18 6), .int (D 18 7), .int (D 18 8), .int (D 18 9), .int (nI (a / 448)), .int (nI ((a + sp - 1) / 448 - a / 448 + 1)), .int (D 18 12), .int (D 18 13), .int (D 18 14)]))).1 = h0.1 := hn
      replace hs : (ax_put hp_1 (nd + 18) (.inr (10, [.ref (nd + 10), .ref (nd + 19), .ref (nd + 21), .int (D 18 3), .int (D 18 4), .int (D 18 5), .int (D 18 6), .int (D 18 7), .int (D 18 8), .int (D 18 9), .int (nI (a / 448)), .int (nI ((a + sp - 1) / 448 - a / 448 + 1)), .int (D 18 12), .int (D 18 13), .int (D 18 14)]))).2.1 = h0.2.1 := hs
      generalize ax_put hp_1 (nd + 18) (.inr (10, [.ref (nd + 10), .ref (nd + 19), .ref (nd + 21), .int (D 18 3), .int (D 18 4), .int (D 18 5), .int (D 18 6), .int (D 18 7), .int (D 18 8), .int (D 18 9), .int (nI (a / 448)), .int (nI ((a + sp - 1) / 448 - a / 448 + 1)), .int (D 18 12), .int (D 18 13), .int (D 18 14)])) = hp_2 at hF hf hN hn hs ⊢
      refine ar_iconst 84 (v := 0) d_102_83 rfl (by decide) ?_
      refine ar_istore_n 85 [(0, .ref (nd + 18)), (1, .int 0)] d_102_84 rfl (by decide) rfl ?_
      have hd1 : a / 448 ≤ (a + sp - 1) / 448 := Nat.div_le_div_right (by omega)
      have hd2 : (a + sp - 1) / 448 ≤ 18 := by omega
      have hd3 : (a + sp - 1) / 448 ≤ a / 448 + 5 := by omega
      have hS1 : NS Z n nd nn gg C me f q u b uv h0 hp_2 (va_up D 18 (upd (upd (D 18) 10 (nI (a / 448))) 11 (nI ((a + sp - 1) / 448 - a / 448 + 1)))) K A Y := ⟨hF, hN, hf, hn, hs, hp0, hu0⟩
      have hI1 : NI Z nn (va_up D 18 (upd (upd (D 18) 10 (nI (a / 448))) 11 (nI ((a + sp - 1) / 448 - a / 448 + 1)))) := ⟨hI.1, hI.2.1, WI.wait h3 hI.2.2.1.1 ⟨((a + sp - 1) / 448 - a / 448 + 1), by omega, rfl⟩ (hI.2.2.1.2.2.2.1 (neq h3 (by decide))) hI.2.2.1.2.2.2.2.2.2.2, hI.2.2.2⟩
      rw [← show G_102 nn gg C me f u b ((a + sp - 1) / 448 - a / 448 + 1) 0 (va_up D 18 (upd (upd (D 18) 10 (nI (a / 448))) 11 (nI ((a + sp - 1) / 448 - a / 448 + 1)))) K A Y = F_102 nn gg C me f u b D K A Y from bnN_eq (cl_eq (show sp < 2049 by omega) e9) (eq_ifT c0 (eq_ifF c1 (bnN_eq (cl_eq (show a < 8193 by omega) ea) (rfl))))]
      exact key ((a + sp - 1) / 448 - a / 448 + 1) 0 ((a + sp - 1) / 448 - a / 448 + 1) hp_2 (va_up D 18 (upd (upd (D 18) 10 (nI (a / 448))) 11 (nI ((a + sp - 1) / 448 - a / 448 + 1)))) K A Y (by omega) (by omega) (fun _ => ⟨a / 448, rfl, by omega⟩) (rfl) h7 hS1 hI1 ⟨⟨rfl, rfl, rfl, rfl, rfl, rfl, rfl, rfl, rfl, rfl⟩, rfl, rfl, rfl, ⟨sp, _, hsp1, e9, rfl, fun z => absurd z (by omega), fun _ => ⟨a, ea, ha, rfl, rfl⟩⟩⟩
  · obtain ⟨p, hp, e8⟩ := h8 (Decidable.not_not.mp c0)
    refine ar_aload_n 13 d_102_12 rfl rfl ?_
    refine ar_getf 16 d_102_13 rfl (ci := 10) (k := 0) rfl (hF.at 18 rfl) rfl ?_
    refine ar_aload_n 17 d_102_16 rfl rfl ?_
    refine ar_getf 20 d_102_17 rfl (ci := 10) (k := 8) rfl (hF.at 18 rfl) rfl ?_
    refine ar_top (x' := nI p) (e8) ?_
    refine ar_aload_n 21 d_102_20 rfl rfl ?_
    refine ar_getf 24 d_102_21 rfl (ci := 10) (k := 1) rfl (hF.at 18 rfl) rfl ?_
    refine ar_getf 27 d_102_24 rfl (ci := 5) (k := 7) rfl (hF.at 19 rfl) rfl ?_
    refine ar_bipush 29 (v := 100) d_102_27 rfl (by decide) ?_
    refine ar_call (r := []) (na := 0) (kd := 0) (cm := 103) (fr2 := fr - 1) (lo2 := lo - 23) 32 d_102_29 (ar_hoV (as := [.int (nI p), .ref (nd + 20), .int 100]) rfl rfl rfl (hF.at 10 rfl)) rfl (by omega) (show lo - 23 + (19 + 4) = lo by omega) (Nat.le_of_ble_eq_true rfl) (Nat.le_of_ble_eq_true rfl) (c_103 (by omega) (by omega) hp (by decide) (by omega) (hF.sub (F' := [cTb nd gg D K, cAr nd 14 2400 D, cAr nd 20 612 D]) [10, 14, 20] rfl rfl) rfl rfl (by omega) (p := 100)) ?_
    intro v hp_3 hq
    obtain ⟨rfl, qF, qn, qs, qf⟩ := hq
    have qF : ax_hs hp_3 [cTb nd gg D K, cAr nd 14 2400 D, (nd + 20, .inl (0, 612, .inl (va_cpy (D 14) (D 20) (p * 50) 100 50)))] := qF
    replace hF : ax_hs hp_3 [cNd n nd me D, cDk nd D, cAr nd 2 35840 D, cAr nd 3 4096 D, cAr nd 4 32 D, cAr nd 5 280 D, cAr nd 6 280 D, cLd n nd me D A, cAr nd 8 16 D, cAr nd 9 280 D, cAr nd 11 48 D, cAr nd 12 48 D, cAr nd 13 48 D, cAr nd 15 512 D, cAr nd 16 961 D, cAr nd 17 961 D, cWk nd D, cWa nd D, cAr nd 21 1152 D, cRk n nn gg C, cOr n nn gg f, cTb nd gg D K, cAr nd 14 2400 D, (nd + 20, .inl (0, 612, .inl (va_cpy (D 14) (D 20) (p * 50) 100 50)))] := ax_hs.call (rest := [cNd n nd me D, cDk nd D, cAr nd 2 35840 D, cAr nd 3 4096 D, cAr nd 4 32 D, cAr nd 5 280 D, cAr nd 6 280 D, cLd n nd me D A, cAr nd 8 16 D, cAr nd 9 280 D, cAr nd 11 48 D, cAr nd 12 48 D, cAr nd 13 48 D, cAr nd 15 512 D, cAr nd 16 961 D, cAr nd 17 961 D, cWk nd D, cWa nd D, cAr nd 21 1152 D, cRk n nn gg C, cOr n nn gg f]) [10, 14, 20] [0, 1, 2, 3, 4, 5, 6, 7, 8, 9, 11, 12, 13, 15, 16, 17, 18, 19, 21, 22, 23] hF qf qF rfl rfl rfl [20] rfl rfl [10, 14, 20] (news := []) rfl rfl (fun _ z => absurd z List.not_mem_nil) rfl
    replace hF := hF.sub (F' := [cNd n nd me D, cDk nd D, cAr nd 2 35840 D, cAr nd 3 4096 D, cAr nd 4 32 D, cAr nd 5 280 D, cAr nd 6 280 D, cLd n nd me D A, cAr nd 8 16 D, cAr nd 9 280 D, cTb nd gg D K, cAr nd 11 48 D, cAr nd 12 48 D, cAr nd 13 48 D, cAr nd 14 2400 D, cAr nd 15 512 D, cAr nd 16 961 D, cAr nd 17 961 D, cWk nd D, cWa nd D, (nd + 20, .inl (0, 612, .inl (va_cpy (D 14) (D 20) (p * 50) 100 50))), cAr nd 21 1152 D, cRk n nn gg C, cOr n nn gg f]) [0, 1, 2, 3, 4, 5, 6, 7, 8, 9, 21, 10, 11, 12, 22, 13, 14, 15, 16, 17, 23, 18, 19, 20] rfl rfl
    replace hN := hN.fr qf (fun x hx z => by simp only [List.mem_cons, List.not_mem_nil, or_false] at z; unfold NTA at hx; omega)
    replace hf := hf.trC qf (fun x _ z => Or.inr (by simp only [List.mem_cons, List.not_mem_nil, or_false] at z; omega))
    replace hn : hp_3.1 = h0.1 := by omega
    replace hs : hp_3.2.1 = h0.2.1 := by omega
    clear qF qn qs qf
    refine ar_aload_n 33 d_102_32 rfl rfl ?_
    refine ar_getf 36 d_102_33 rfl (ci := 10) (k := 9) rfl (hF.at 18 rfl) rfl ?_
    refine ar_top (x' := nI sp) (e9) ?_
    refine ar_if_le 83 39 d_102_36 (by decide) rfl (fun c1 => ?_) (fun c1 => ?_)
    · have e0 : sp = 0 := Nat.eq_zero_of_not_pos (fun z => nI_nle z (by omega) c1)
      refine ar_iconst 84 (v := 0) d_102_83 rfl (by decide) ?_
      refine ar_istore_n 85 [(0, .ref (nd + 18)), (1, .int 0)] d_102_84 rfl (by decide) rfl ?_
      have hS1 : NS Z n nd nn gg C me f q u b uv h0 hp_3 (va_up D 20 (va_cpy (D 14) (D 20) (p * 50) 100 50)) K A Y := ⟨hF, hN, hf, hn, hs, hp0, hu0⟩
      have hI1 : NI Z nn (va_up D 20 (va_cpy (D 14) (D 20) (p * 50) 100 50)) := ⟨hI.1, hI.2.1, WI.wait h3 hI.2.2.1.1 ⟨0, by omega, h11⟩ (hI.2.2.1.2.2.2.1 (neq h3 (by decide))) hI.2.2.1.2.2.2.2.2.2.2, hI.2.2.2⟩
      rw [← show G_102 nn gg C me f u b 0 0 (va_up D 20 (va_cpy (D 14) (D 20) (p * 50) 100 50)) K A Y = F_102 nn gg C me f u b D K A Y from bnN_eq (cl_eq (show sp < 2049 by omega) e9) (eq_ifF c0 (bnN_eq (cl_eq hp e8) (eq_ifT c1 (rfl))))]
      exact key 0 0 0 hp_3 (va_up D 20 (va_cpy (D 14) (D 20) (p * 50) 100 50)) K A Y (by omega) (by omega) (fun z => absurd z (by omega)) (h11) h7 hS1 hI1 ⟨⟨rfl, rfl, rfl, rfl, rfl, rfl, rfl, rfl, rfl, rfl⟩, rfl, rfl, rfl, ⟨0, 0, by omega, e9.trans (by rw [e0]), h11, fun _ => rfl, fun z => absurd z (by omega)⟩⟩
    · have e0 : 0 < sp := Nat.pos_of_ne_zero (fun z => c1 (by rw [z]; decide))
      obtain ⟨a, ea, ha⟩ := hsp2 e0
      refine ar_aload_n 40 d_102_39 rfl rfl ?_
      refine ar_aload_n 41 d_102_40 rfl rfl ?_
      refine ar_getf 44 d_102_41 rfl (ci := 10) (k := 1) rfl (hF.at 18 rfl) rfl ?_
      refine ar_getf 47 d_102_44 rfl (ci := 5) (k := 1) rfl (hF.at 19 rfl) rfl ?_
      refine ar_top (x' := nI a) (ea) ?_
      refine ar_sipush 50 (v := 448) d_102_47 rfl (by decide) ?_
      refine ar_idiv 51 d_102_50 rfl (by decide) ?_
      refine ar_top (x' := nI (a / 448)) (pk_div (d := 448) (by omega) (by omega) (by omega)) ?_
      refine ar_putf 54 [.ref (nd + 10), .ref (nd + 19), .ref (nd + 21), .int (D 18 3), .int (D 18 4), .int (D 18 5), .int (D 18 6), .int (D 18 7), .int (D 18 8), .int (D 18 9), .int (nI (a / 448)), .int (D 18 11), .int (D 18 12), .int (D 18 13), .int (D 18 14)] d_102_51 rfl (ci := 10) (k := 10) rfl rfl (hF.at 18 rfl) (Nat.le_of_ble_eq_true rfl) rfl rfl rfl ?_
      replace hF : ax_hs (ax_put hp_3 (nd + 18) (.inr (10, [.ref (nd + 10), .ref (nd + 19), .ref (nd + 21), .int (D 18 3), .int (D 18 4), .int (D 18 5), .int (D 18 6), .int (D 18 7), .int (D 18 8), .int (D 18 9), .int (nI (a / 448)), .int (D 18 11), .int (D 18 12), .int (D 18 13), .int (D 18 14)]))) [cNd n nd me D, cDk nd D, cAr nd 2 35840 D, cAr nd 3 4096 D, cAr nd 4 32 D, cAr nd 5 280 D, cAr nd 6 280 D, cLd n nd me D A, cAr nd 8 16 D, cAr nd 9 280 D, cTb nd gg D K, cAr nd 11 48 D, cAr nd 12 48 D, cAr nd 13 48 D, cAr nd 14 2400 D, cAr nd 15 512 D, cAr nd 16 961 D, cAr nd 17 961 D, (nd + 18, .inr (10, [.ref (nd + 10), .ref (nd + 19), .ref (nd + 21), .int (D 18 3), .int (D 18 4), .int (D 18 5), .int (D 18 6), .int (D 18 7), .int (D 18 8), .int (D 18 9), .int (nI (a / 448)), .int (D 18 11), .int (D 18 12), .int (D 18 13), .int (D 18 14)])), cWa nd D, (nd + 20, .inl (0, 612, .inl (va_cpy (D 14) (D 20) (p * 50) 100 50))), cAr nd 21 1152 D, cRk n nn gg C, cOr n nn gg f] := hF.put 18 _ rfl rfl
      replace hf := hf.put (a := nd + 18) (c := .inr (10, [.ref (nd + 10), .ref (nd + 19), .ref (nd + 21), .int (D 18 3), .int (D 18 4), .int (D 18 5), .int (D 18 6), .int (D 18 7), .int (D 18 8), .int (D 18 9), .int (nI (a / 448)), .int (D 18 11), .int (D 18 12), .int (D 18 13), .int (D 18 14)])) (Or.inr (by omega))
      replace hN := hN.put (a := nd + 18) (c := .inr (10, [.ref (nd + 10), .ref (nd + 19), .ref (nd + 21), .int (D 18 3), .int (D 18 4), .int (D 18 5), .int (D 18 6), .int (D 18 7), .int (D 18 8), .int (D 18 9), .int (nI (a / 448)), .int (D 18 11), .int (D 18 12), .int (D 18 13), .int (D 18 14)])) (by omega)
      replace hn : (ax_put hp_3 (nd + 18) (.inr (10, [.ref (nd + 10), .ref (nd + 19), .ref (nd + 21), .int (D 18 3), .int (D 18 4), .int (D 18 5), .int (D 18 6), .int (D 18 7), .int (D 18 8), .int (D 18 9), .int (nI (a / 448)), .int (D 18 11), .int (D 18 12), .int (D 18 13), .int (D 18 14)]))).1 = h0.1 := hn
      replace hs : (ax_put hp_3 (nd + 18) (.inr (10, [.ref (nd + 10), .ref (nd + 19), .ref (nd + 21), .int (D 18 3), .int (D 18 4), .int (D 18 5), .int (D 18 6), .int (D 18 7), .int (D 18 8), .int (D 18 9), .int (nI (a / 448)), .int (D 18 11), .int (D 18 12), .int (D 18 13), .int (D 18 14)]))).2.1 = h0.2.1 := hs
      generalize ax_put hp_3 (nd + 18) (.inr (10, [.ref (nd + 10), .ref (nd + 19), .ref (nd + 21), .int (D 18 3), .int (D 18 4), .int (D 18 5), .int (D 18 6), .int (D 18 7), .int (D 18 8), .int (D 18 9), .int (nI (a / 448)), .int (D 18 11), .int (D 18 12), .int (D 18 13), .int (D 18 14)])) = hp_4 at hF hf hN hn hs ⊢
      refine ar_aload_n 55 d_102_54 rfl rfl ?_
      refine ar_aload_n 56 d_102_55 rfl rfl ?_
      refine ar_getf 59 d_102_56 rfl (ci := 10) (k := 1) rfl (hF.at 18 rfl) rfl ?_
      refine ar_getf 62 d_102_59 rfl (ci := 5) (k := 1) rfl (hF.at 19 rfl) rfl ?_
      refine ar_top (x' := nI a) (ea) ?_
      refine ar_aload_n 63 d_102_62 rfl rfl ?_
      refine ar_getf 66 d_102_63 rfl (ci := 10) (k := 9) rfl (hF.at 18 rfl) rfl ?_
      refine ar_top (x' := nI sp) (e9) ?_
      refine ar_iadd 67 d_102_66 rfl ?_
      refine ar_top (x' := nI (a + sp)) (nI_add _ _) ?_
      refine ar_iconst 68 (v := 1) d_102_67 rfl (by decide) ?_
      refine ar_isub 69 d_102_68 rfl ?_
      refine ar_top (x' := nI (a + sp - 1)) (by rw [show a + sp = (a + sp - 1) + 1 by omega]; exact nI_pred _) ?_
      refine ar_sipush 72 (v := 448) d_102_69 rfl (by decide) ?_
      refine ar_idiv 73 d_102_72 rfl (by decide) ?_
      refine ar_top (x' := nI ((a + sp - 1) / 448)) (pk_div (d := 448) (by omega) (by omega) (by omega)) ?_
      refine ar_aload_n 74 d_102_73 rfl rfl ?_
      refine ar_getf 77 d_102_74 rfl (ci := 10) (k := 10) rfl (hF.at 18 rfl) rfl ?_
      refine ar_isub 78 d_102_77 rfl ?_
      refine ar_top (x' := nI ((a + sp - 1) / 448 - a / 448)) (pk_sub (Nat.div_le_div_right (by omega))) ?_
      refine ar_iconst 79 (v := 1) d_102_78 rfl (by decide) ?_
      refine ar_iadd 80 d_102_79 rfl ?_
      refine ar_top (x' := nI ((a + sp - 1) / 448 - a / 448 + 1)) (nI_1 _) ?_
      refine ar_putf 83 [.ref (nd + 10), .ref (nd + 19), .ref (nd + 21), .int (D 18 3), .int (D 18 4), .int (D 18 5), .int (D 18 6), .int (D 18 7), .int (D 18 8), .int (D 18 9), .int (nI (a / 448)), .int (nI ((a + sp - 1) / 448 - a / 448 + 1)), .int (D 18 12), .int (D 18 13), .int (D 18 14)] d_102_80 rfl (ci := 10) (k := 11) rfl rfl (hF.at 18 rfl) (Nat.le_of_ble_eq_true rfl) rfl rfl rfl ?_
      replace hF : ax_hs (ax_put hp_4 (nd + 18) (.inr (10, [.ref (nd + 10), .ref (nd + 19), .ref (nd + 21), .int (D 18 3), .int (D 18 4), .int (D 18 5), .int (D 18 6), .int (D 18 7), .int (D 18 8), .int (D 18 9), .int (nI (a / 448)), .int (nI ((a + sp - 1) / 448 - a / 448 + 1)), .int (D 18 12), .int (D 18 13), .int (D 18 14)]))) [cNd n nd me D, cDk nd D, cAr nd 2 35840 D, cAr nd 3 4096 D, cAr nd 4 32 D, cAr nd 5 280 D, cAr nd 6 280 D, cLd n nd me D A, cAr nd 8 16 D, cAr nd 9 280 D, cTb nd gg D K, cAr nd 11 48 D, cAr nd 12 48 D, cAr nd 13 48 D, cAr nd 14 2400 D, cAr nd 15 512 D, cAr nd 16 961 D, cAr nd 17 961 D, (nd + 18, .inr (10, [.ref (nd + 10), .ref (nd + 19), .ref (nd + 21), .int (D 18 3), .int (D 18 4), .int (D 18 5), .int (D 18 6), .int (D 18 7), .int (D 18 8), .int (D 18 9), .int (nI (a / 448)), .int (nI ((a + sp - 1) / 448 - a / 448 + 1)), .int (D 18 12), .int (D 18 13), .int (D 18 14)])), cWa nd D, (nd + 20, .inl (0, 612, .inl (va_cpy (D 14) (D 20) (p * 50) 100 50))), cAr nd 21 1152 D, cRk n nn gg C, cOr n nn gg f] := hF.put 18 _ rfl rfl
      replace hf := hf.put (a := nd + 18) (c := .inr (10, [.ref (nd + 10), .ref (nd + 19), .ref (nd + 21), .int (D 18 3), .int (D 18 4), .int (D 18 5), .int (D 18 6), .int (D 18 7), .int (D 18 8), .int (D 18 9), .int (nI (a / 448)), .int (nI ((a + sp - 1) / 448 - a / 448 + 1)), .int (D 18 12), .int (D 18 13), .int (D 18 14)])) (Or.inr (by omega))
      replace hN := hN.put (a := nd + 18) (c := .inr (10, [.ref (nd + 10), .ref (nd + 19), .ref (nd + 21), .int (D 18 3), .int (D 18 4), .int (D 18 5), .int (D 18 6), .int (D 18 7), .int (D 18 8), .int (D 18 9), .int (nI (a / 448)), .int (nI ((a + sp - 1) / 448 - a / 448 + 1)), .int (D 18 12), .int (D 18 13), .int (D 18 14)])) (by omega)
      replace hn : (ax_put hp_4 (nd + 18) (.inr (10, [.ref (nd + 10), .ref (nd + 19), .ref (nd + 21), .int (D 18 3), .int (D 18 4), .int (D 18 5), .int (D 18 6), .int (D 18 7), .int (D 18 8), .int (D 18 9), .int (nI (a / 448)), .int (nI ((a + sp - 1) / 448 - a / 448 + 1)), .int (D 18 12), .int (D 18 13), .int (D 18 14)]))).1 = h0.1 := hn
      replace hs : (ax_put hp_4 (nd + 18) (.inr (10, [.ref (nd + 10), .ref (nd + 19), .ref (nd + 21), .int (D 18 3), .int (D 18 4), .int (D 18 5), .int (D 18 6), .int (D 18 7), .int (D 18 8), .int (D 18 9), .int (nI (a / 448)), .int (nI ((a + sp - 1) / 448 - a / 448 + 1)), .int (D 18 12), .int (D 18 13), .int (D 18 14)]))).2.1 = h0.2.1 := hs
      generalize ax_put hp_4 (nd + 18) (.inr (10, [.ref (nd + 10), .ref (nd + 19), .ref (nd + 21), .int (D 18 3), .int (D 18 4), .int (D 18 5), .int (D 18 6), .int (D 18 7), .int (D 18 8), .int (D 18 9), .int (nI (a / 448)), .int (nI ((a + sp - 1) / 448 - a / 448 + 1)), .int (D 18 12), .int (D 18 13), .int (D 18 14)])) = hp_5 at hF hf hN hn hs ⊢
      refine ar_iconst 84 (v := 0) d_102_83 rfl (by decide) ?_
      refine ar_istore_n 85 [(0, .ref (nd + 18)), (1, .int 0)] d_102_84 rfl (by decide) rfl ?_
      have hd1 : a / 448 ≤ (a + sp - 1) / 448 := Nat.div_le_div_right (by omega)
      have hd2 : (a + sp - 1) / 448 ≤ 18 := by omega
      have hd3 : (a + sp - 1) / 448 ≤ a / 448 + 5 := by omega
      have hS1 : NS Z n nd nn gg C me f q u b uv h0 hp_5 (va_up (va_up D 18 (upd (upd (D 18) 10 (nI (a / 448))) 11 (nI ((a + sp - 1) / 448 - a / 448 + 1)))) 20 (va_cpy (D 14) (D 20) (p * 50) 100 50)) K A Y := ⟨hF, hN, hf, hn, hs, hp0, hu0⟩
      have hI1 : NI Z nn (va_up (va_up D 18 (upd (upd (D 18) 10 (nI (a / 448))) 11 (nI ((a + sp - 1) / 448 - a / 448 + 1)))) 20 (va_cpy (D 14) (D 20) (p * 50) 100 50)) := ⟨hI.1, hI.2.1, WI.wait h3 hI.2.2.1.1 ⟨((a + sp - 1) / 448 - a / 448 + 1), by omega, rfl⟩ (hI.2.2.1.2.2.2.1 (neq h3 (by decide))) hI.2.2.1.2.2.2.2.2.2.2, hI.2.2.2⟩
      rw [← show G_102 nn gg C me f u b ((a + sp - 1) / 448 - a / 448 + 1) 0 (va_up (va_up D 18 (upd (upd (D 18) 10 (nI (a / 448))) 11 (nI ((a + sp - 1) / 448 - a / 448 + 1)))) 20 (va_cpy (D 14) (D 20) (p * 50) 100 50)) K A Y = F_102 nn gg C me f u b D K A Y from bnN_eq (cl_eq (show sp < 2049 by omega) e9) (eq_ifF c0 (bnN_eq (cl_eq hp e8) (eq_ifF c1 (bnN_eq (cl_eq (show a < 8193 by omega) ea) (rfl)))))]
      exact key ((a + sp - 1) / 448 - a / 448 + 1) 0 ((a + sp - 1) / 448 - a / 448 + 1) hp_5 (va_up (va_up D 18 (upd (upd (D 18) 10 (nI (a / 448))) 11 (nI ((a + sp - 1) / 448 - a / 448 + 1)))) 20 (va_cpy (D 14) (D 20) (p * 50) 100 50)) K A Y (by omega) (by omega) (fun _ => ⟨a / 448, rfl, by omega⟩) (rfl) h7 hS1 hI1 ⟨⟨rfl, rfl, rfl, rfl, rfl, rfl, rfl, rfl, rfl, rfl⟩, rfl, rfl, rfl, ⟨sp, _, hsp1, e9, rfl, fun z => absurd z (by omega), fun _ => ⟨a, ea, ha, rfl, rfl⟩⟩⟩
/-- Table.named -/
def nmB (jf nf mf wf : Nat → Int32) (p : Nat) (x : Int32) : Int32 := fst1 (fun i => decide (¬ jf i < 0 ∧ nf i = x ∧ cmpW mf wf (i * 50) p x x 50 0 = 0)) 48 0
theorem c_94E {L : Nat} {xs : Nat → Int32} {fr lo : Nat} {h : ax_H} {tb a1 a2 a3 a4 a5 a6 a7 : Nat} {g fl an : Int32} {kn : Int64} {b N p : Nat} {jf nf mf wf : Nat → Int32} {x : Int32} (hfr : 2 ≤ fr) (hlo : 60 ≤ lo) (hN : N < 2 ^ 31) (hp : p + 50 ≤ N) (gt : ax_g h tb = some (.inr (6, [.int g, .ref a1, .ref a2, .ref a3, .ref a4, .ref a5, .ref a6, .ref a7, .long kn, .int fl, .int an]))) (g1 : ax_g h a1 = some (.inl (0, 48, .inl jf))) (g3 : ax_g h a3 = some (.inl (0, 48, .inl nf))) (g4 : ax_g h a4 = some (.inl (0, 2400, .inl mf))) (gb : ax_g h b = some (.inl (0, N, .inl wf))) : ax_M L xs 94 fr lo [.ref tb, .ref b, .int (nI p), .int x] h (fun r h' => ∃ y : Int32, r = some (.int y) ∧ y = nmB jf nf mf wf p x ∧ OKf jf y ∧ h' = h) := by
  refine ax_A.post (c_94 hfr hlo hN hp gt g1 g3 g4 gb) (fun r h' hq => ⟨_, hq.1, rfl, ?_, hq.2⟩)
  rcases fst1_ok (P := fun i => decide (¬ jf i < 0 ∧ nf i = x ∧ cmpW mf wf (i * 50) p x x 50 0 = 0)) 48 with e | ⟨q, h1, h2, h3⟩
  · exact Or.inl e
  · exact Or.inr ⟨q, h1, h2, (of_decide_eq_true h3).1⟩
def F_93 (nn gg : Nat) (C me : Int32) (f u b : Nat → Int32) (D : Nat → Nat → Int32) (K A : Int64) (Y : List Mg)  : St :=
  if ((D 16) 960) ≤ (D 18 4) then
    if ¬ ((D 16) 960) = (D 18 4) then
      if ¬ ((D 16) 960) = (D 18 6) then
        (va_up (va_up D 18 (upd (upd (upd (upd (upd (D 18) 9 0) 11 0) 12 0) 13 (-1)) 14 (-1))) 21 (ax_fill (D 21) 0 1152 0), K, A, Y)
      else
        bnI (nmB (D 11) (D 13) (D 14) (D 20) 0 (D 19 3)) (fun y10 =>
          if ¬ (D 19 0) = 9 then
            bnI (nmB (D 11) (D 13) (D 14) (D 20) 50 (D 19 4)) (fun y13 =>
              bnR (F_99 nn gg C me f u b (va_up (va_up D 18 (upd (upd (upd (upd (upd (upd (upd (D 18) 7 y10) 8 y13) 9 0) 11 0) 12 0) 13 (-1)) 14 (-1))) 21 (ax_fill (D 21) 0 1152 0)) K A Y (32768 - (totS (D 12) 48 0 0))) (fun y15 D16 K16 A16 Y16 =>
                if y15 < 0 then
                  (va_up D16 18 (upd (upd (D16 18) 3 5) 5 y15), K16, A16, Y16)
                else
                  bnS (F_102 nn gg C me f u b (va_up D16 18 (upd (D16 18) 5 y15)) K16 A16 Y16) (fun D19 K19 A19 Y19 =>
                    if (D19 19 0) = 8 then
                      (va_up D19 18 (upd (D19 18) 3 5), K19, A19, Y19)
                    else
                      if ¬ (D19 19 0) = 9 then
                        (va_up D19 18 (upd (D19 18) 3 2), K19, A19, Y19)
                      else
                        (va_up D19 18 (upd (D19 18) 3 5), K19, A19, Y19))))
          else
            bnI (fsA (D 11) (D 13) (D 14) (D 20) (D 19 3) 48 0 (-1)) (fun y23 =>
              bnR (F_99 nn gg C me f u b (va_up (va_up D 18 (upd (upd (upd (upd (upd (upd (upd (D 18) 7 y10) 8 y23) 9 0) 11 0) 12 0) 13 (-1)) 14 (-1))) 21 (ax_fill (D 21) 0 1152 0)) K A Y (32768 - (totS (D 12) 48 0 0))) (fun y25 D26 K26 A26 Y26 =>
                if y25 < 0 then
                  (va_up D26 18 (upd (upd (D26 18) 3 5) 5 y25), K26, A26, Y26)
                else
                  bnS (F_102 nn gg C me f u b (va_up D26 18 (upd (D26 18) 5 y25)) K26 A26 Y26) (fun D29 K29 A29 Y29 =>
                    if (D29 19 0) = 8 then
                      (va_up D29 18 (upd (D29 18) 3 5), K29, A29, Y29)
                    else
                      if ¬ (D29 19 0) = 9 then
                        (va_up D29 18 (upd (D29 18) 3 2), K29, A29, Y29)
                      else
                        (va_up D29 18 (upd (D29 18) 3 5), K29, A29, Y29)))))
    else
      (va_up (va_up D 18 (upd (upd (upd (upd (upd (upd (upd (D 18) 3 3) 5 (D 10 10)) 9 0) 11 0) 12 0) 13 (-1)) 14 (-1))) 21 (ax_fill (D 21) 0 1152 0), K, A, Y)
  else
    (va_up (va_up D 18 (upd (upd (upd (upd (upd (upd (D 18) 3 0) 9 0) 11 0) 12 0) 13 (-1)) 14 (-1))) 21 (ax_fill (D 21) 0 1152 0), K, A, Y)
set_option maxRecDepth 100000 in
theorem s_93 {L : Nat} {xs : Nat → Int32} {fr lo : Nat} {Z : ZT} {n nd nn gg : Nat} {C me : Int32} {f : Nat → Int32} {q : Nat} {u b : Nat → Int32} {uv : Int32} {h0 h : ax_H} {D : Nat → Nat → Int32} {K A : Int64} {Y : List Mg}  (hfr : 5 ≤ fr) (hlo : 140 ≤ lo) (hC : CS n nd nn gg f) (hS : NS Z n nd nn gg C me f q u b uv h0 h D K A Y) (hI : NI Z nn D) (h3 : D 18 3 = 1) : ax_M L xs 93 fr lo [.ref (nd + 18)] h (fun r h' => r = none ∧ PS Z n nd nn gg C me f q u b uv h0 h' (fun D' K' A' Y' => (D', K', A', Y') = F_93 nn gg C me f u b D K A Y ∧ True)) := by
  have hC0 := hC
  show ax_A (ax_step L xs) ((93, 0, fr, lo), [(0, .ref (nd + 18))], [], h) _
  obtain ⟨hnd, hn0, hnn3, hnn, hgg1, hgg, hRg⟩ := hC
  obtain ⟨hF, hN, hf, hn, hs, hp0, hu0⟩ := hS
  replace hF : ax_hs h [cNd n nd me D, cDk nd D, cAr nd 2 35840 D, cAr nd 3 4096 D, cAr nd 4 32 D, cAr nd 5 280 D, cAr nd 6 280 D, cLd n nd me D A, cAr nd 8 16 D, cAr nd 9 280 D, cTb nd gg D K, cAr nd 11 48 D, cAr nd 12 48 D, cAr nd 13 48 D, cAr nd 14 2400 D, cAr nd 15 512 D, cAr nd 16 961 D, cAr nd 17 961 D, cWk nd D, cWa nd D, cAr nd 20 612 D, cAr nd 21 1152 D, cRk n nn gg C, cOr n nn gg f] := hF
  obtain ⟨hA, -, w11, wop, -, -, -, wB⟩ := hI.2.2.1
  have hop := wop (by rw [h3]; decide)
  refine ar_aload_n 1 d_93_0 rfl rfl ?_
  refine ar_getf 4 d_93_1 rfl (ci := 10) (k := 0) rfl (hF.at 18 rfl) rfl ?_
  refine ar_getf 7 d_93_4 rfl (ci := 6) (k := 6) rfl (hF.at 10 rfl) rfl ?_
  refine ar_sipush 10 (v := 960) d_93_7 rfl (by decide) ?_
  refine ar_ialdN 11 (e := 960) d_93_10 rfl (hF.at 16 rfl) (by omega) (by omega) ?_
  refine ar_istore_n 12 [(0, .ref (nd + 18)), (1, .int ((D 16) 960))] d_93_11 rfl (by decide) rfl ?_
  refine ar_aload_n 13 d_93_12 rfl rfl ?_
  refine ar_getf 16 d_93_13 rfl (ci := 10) (k := 2) rfl (hF.at 18 rfl) rfl ?_
  refine ar_iconst 17 (v := 0) d_93_16 rfl (by decide) ?_
  refine ar_call (r := []) (na := 0) (kd := 0) (cm := 13) (fr2 := fr - 1) (lo2 := lo - 23) 20 d_93_17 (ar_hoS (as := [.ref (nd + 21), .int 0]) rfl rfl rfl) rfl (by omega) (show lo - 23 + (19 + 4) = lo by omega) (Nat.le_of_ble_eq_true rfl) (Nat.le_of_ble_eq_true rfl) (c_13 (hF.at 21 rfl) (by decide)) ?_
  intro v hh hq
  obtain ⟨rfl, rfl⟩ := hq
  replace hF : ax_hs (ax_put h (nd + 21) (.inl (0, 1152, .inl (ax_fill (D 21) 0 1152 0)))) [cNd n nd me D, cDk nd D, cAr nd 2 35840 D, cAr nd 3 4096 D, cAr nd 4 32 D, cAr nd 5 280 D, cAr nd 6 280 D, cLd n nd me D A, cAr nd 8 16 D, cAr nd 9 280 D, cTb nd gg D K, cAr nd 11 48 D, cAr nd 12 48 D, cAr nd 13 48 D, cAr nd 14 2400 D, cAr nd 15 512 D, cAr nd 16 961 D, cAr nd 17 961 D, cWk nd D, cWa nd D, cAr nd 20 612 D, (nd + 21, .inl (0, 1152, .inl (ax_fill (D 21) 0 1152 0))), cRk n nn gg C, cOr n nn gg f] := hF.put 21 _ rfl rfl
  replace hf := hf.put (a := nd + 21) (c := .inl (0, 1152, .inl (ax_fill (D 21) 0 1152 0))) (Or.inr (by omega))
  replace hN := hN.put (a := nd + 21) (c := .inl (0, 1152, .inl (ax_fill (D 21) 0 1152 0))) (by omega)
  replace hn : (ax_put h (nd + 21) (.inl (0, 1152, .inl (ax_fill (D 21) 0 1152 0)))).1 = h0.1 := hn
  replace hs : (ax_put h (nd + 21) (.inl (0, 1152, .inl (ax_fill (D 21) 0 1152 0)))).2.1 = h0.2.1 := hs
  generalize ax_put h (nd + 21) (.inl (0, 1152, .inl (ax_fill (D 21) 0 1152 0))) = hp_1 at hF hf hN hn hs ⊢
  refine ar_aload_n 21 d_93_20 rfl rfl ?_
  refine ar_iconst 22 (v := 0) d_93_21 rfl (by decide) ?_
  refine ar_putf 25 [.ref (nd + 10), .ref (nd + 19), .ref (nd + 21), .int (D 18 3), .int (D 18 4), .int (D 18 5), .int (D 18 6), .int (D 18 7), .int (D 18 8), .int (D 18 9), .int (D 18 10), .int (D 18 11), .int 0, .int (D 18 13), .int (D 18 14)] d_93_22 rfl (ci := 10) (k := 12) rfl rfl (hF.at 18 rfl) (Nat.le_of_ble_eq_true rfl) rfl rfl rfl ?_
  replace hF : ax_hs (ax_put hp_1 (nd + 18) (.inr (10, [.ref (nd + 10), .ref (nd + 19), .ref (nd + 21), .int (D 18 3), .int (D 18 4), .int (D 18 5), .int (D 18 6), .int (D 18 7), .int (D 18 8), .int (D 18 9), .int (D 18 10), .int (D 18 11), .int 0, .int (D 18 13), .int (D 18 14)]))) [cNd n nd me D, cDk nd D, cAr nd 2 35840 D, cAr nd 3 4096 D, cAr nd 4 32 D, cAr nd 5 280 D, cAr nd 6 280 D, cLd n nd me D A, cAr nd 8 16 D, cAr nd 9 280 D, cTb nd gg D K, cAr nd 11 48 D, cAr nd 12 48 D, cAr nd 13 48 D, cAr nd 14 2400 D, cAr nd 15 512 D, cAr nd 16 961 D, cAr nd 17 961 D, (nd + 18, .inr (10, [.ref (nd + 10), .ref (nd + 19), .ref (nd + 21), .int (D 18 3), .int (D 18 4), .int (D 18 5), .int (D 18 6), .int (D 18 7), .int (D 18 8), .int (D 18 9), .int (D 18 10), .int (D 18 11), .int 0, .int (D 18 13), .int (D 18 14)])), cWa nd D, cAr nd 20 612 D, (nd + 21, .inl (0, 1152, .inl (ax_fill (D 21) 0 1152 0))), cRk n nn gg C, cOr n nn gg f] := hF.put 18 _ rfl rfl
  replace hf := hf.put (a := nd + 18) (c := .inr (10, [.ref (nd + 10), .ref (nd + 19), .ref (nd + 21), .int (D 18 3), .int (D 18 4), .int (D 18 5), .int (D 18 6), .int (D 18 7), .int (D 18 8), .int (D 18 9), .int (D 18 10), .int (D 18 11), .int 0, .int (D 18 13), .int (D 18 14)])) (Or.inr (by omega))
  replace hN := hN.put (a := nd + 18) (c := .inr (10, [.ref (nd + 10), .ref (nd + 19), .ref (nd + 21), .int (D 18 3), .int (D 18 4), .int (D 18 5), .int (D 18 6), .int (D 18 7), .int (D 18 8), .int (D 18 9), .int (D 18 10), .int (D 18 11), .int 0, .int (D 18 13), .int (D 18 14)])) (by omega)
  replace hn : (ax_put hp_1 (nd + 18) (.inr (10, [.ref (nd + 10), .ref (nd + 19), .ref (nd + 21), .int (D 18 3), .int (D 18 4), .int (D 18 5), .int (D 18 6), .int (D 18 7), .int (D 18 8), .int (D 18 9), .int (D 18 10), .int (D 18 11), .int 0, .int (D 18 13), .int (D 18 14)]))).1 = h0.1 := hn
  replace hs : (ax_put hp_1 (nd + 18) (.inr (10, [.ref (nd + 10), .ref (nd + 19), .ref (nd + 21), .int (D 18 3), .int (D 18 4), .int (D 18 5), .int (D 18 6), .int (D 18 7), .int (D 18 8), .int (D 18 9), .int (D 18 10), .int (D 18 11), .int 0, .int (D 18 13), .int (D 18 14)]))).2.1 = h0.2.1 := hs
  generalize ax_put hp_1 (nd + 18) (.inr (10, [.ref (nd + 10), .ref (nd + 19), .ref (nd + 21), .int (D 18 3), .int (D 18 4), .int (D 18 5), .int (D 18 6), .int (D 18 7), .int (D 18 8), .int (D 18 9), .int (D 18 10), .int (D 18 11), .int 0, .int (D 18 13), .int (D 18 14)])) = hp_2 at hF hf hN hn hs ⊢
  refine ar_aload_n 26 d_93_25 rfl rfl ?_
  refine ar_iconst 27 (v := 0) d_93_26 rfl (by decide) ?_
  refine ar_putf 30 [.ref (nd + 10), .ref (nd + 19), .ref (nd + 21), .int (D 18 3), .int (D 18 4), .int (D 18 5), .int (D 18 6), .int (D 18 7), .int (D 18 8), .int 0, .int (D 18 10), .int (D 18 11), .int 0, .int (D 18 13), .int (D 18 14)] d_93_27 rfl (ci := 10) (k := 9) rfl rfl (hF.at 18 rfl) (Nat.le_of_ble_eq_true rfl) rfl rfl rfl ?_
  replace hF : ax_hs (ax_put hp_2 (nd + 18) (.inr (10, [.ref (nd + 10), .ref (nd + 19), .ref (nd + 21), .int (D 18 3), .int (D 18 4), .int (D 18 5), .int (D 18 6), .int (D 18 7), .int (D 18 8), .int 0, .int (D 18 10), .int (D 18 11), .int 0, .int (D 18 13), .int (D 18 14)]))) [cNd n nd me D, cDk nd D, cAr nd 2 35840 D, cAr nd 3 4096 D, cAr nd 4 32 D, cAr nd 5 280 D, cAr nd 6 280 D, cLd n nd me D A, cAr nd 8 16 D, cAr nd 9 280 D, cTb nd gg D K, cAr nd 11 48 D, cAr nd 12 48 D, cAr nd 13 48 D, cAr nd 14 2400 D, cAr nd 15 512 D, cAr nd 16 961 D, cAr nd 17 961 D, (nd + 18, .inr (10, [.ref (nd + 10), .ref (nd + 19), .ref (nd + 21), .int (D 18 3), .int (D 18 4), .int (D 18 5), .int (D 18 6), .int (D 18 7), .int (D 18 8), .int 0, .int (D 18 10), .int (D 18 11), .int 0, .int (D 18 13), .int (D 18 14)])), cWa nd D, cAr nd 20 612 D, (nd + 21, .inl (0, 1152, .inl (ax_fill (D 21) 0 1152 0))), cRk n nn gg C, cOr n nn gg f] := hF.put 18 _ rfl rfl
  replace hf := hf.put (a := nd + 18) (c := .inr (10, [.ref (nd + 10), .ref (nd + 19), .ref (nd + 21), .int (D 18 3), .int (D 18 4), .int (D 18 5), .int (D 18 6), .int (D 18 7), .int (D 18 8), .int 0, .int (D 18 10), .int (D 18 11), .int 0, .int (D 18 13), .int (D 18 14)])) (Or.inr (by omega))
  replace hN := hN.put (a := nd + 18) (c := .inr (10, [.ref (nd + 10), .ref (nd + 19), .ref (nd + 21), .int (D 18 3), .int (D 18 4), .int (D 18 5), .int (D 18 6), .int (D 18 7), .int (D 18 8), .int 0, .int (D 18 10), .int (D 18 11), .int 0, .int (D 18 13), .int (D 18 14)])) (by omega)
  replace hn : (ax_put hp_2 (nd + 18) (.inr (10, [.ref (nd + 10), .ref (nd + 19), .ref (nd + 21), .int (D 18 3), .int (D 18 4), .int (D 18 5), .int (D 18 6), .int (D 18 7), .int (D 18 8), .int 0, .int (D 18 10), .int (D 18 11), .int 0, .int (D 18 13), .int (D 18 14)]))).1 = h0.1 := hn
  replace hs : (ax_put hp_2 (nd + 18) (.inr (10, [.ref (nd + 10), .ref (nd + 19), .ref (nd + 21), .int (D 18 3), .int (D 18 4), .int (D 18 5), .int (D 18 6), .int (D 18 7), .int (D 18 8), .int 0, .int (D 18 10), .int (D 18 11), .int 0, .int (D 18 13), .int (D 18 14)]))).2.1 = h0.2.1 := hs
  generalize ax_put hp_2 (nd + 18) (.inr (10, [.ref (nd + 10), .ref (nd + 19), .ref (nd + 21), .int (D 18 3), .int (D 18 4), .int (D 18 5), .int (D 18 6), .int (D 18 7), .int (D 18 8), .int 0, .int (D 18 10), .int (D 18 11), .int 0, .int (D 18 13), .int (D 18 14)])) = hp_3 at hF hf hN hn hs ⊢
  refine ar_aload_n 31 d_93_30 rfl rfl ?_
  refine ar_iconst 32 (v := 0) d_93_31 rfl (by decide) ?_
  refine ar_putf 35 [.ref (nd + 10), .ref (nd + 19), .ref (nd + 21), .int (D 18 3), .int (D 18 4), .int (D 18 5), .int (D 18 6), .int (D 18 7), .int (D 18 8), .int 0, .int (D 18 10), .int 0, .int 0, .int (D 18 13), .int (D 18 14)] d_93_32 rfl (ci := 10) (k := 11) rfl rfl (hF.at 18 rfl) (Nat.le_of_ble_eq_true rfl) rfl rfl rfl ?_
  replace hF : ax_hs (ax_put hp_3 (nd + 18) (.inr (10, [.ref (nd + 10), .ref (nd + 19), .ref (nd + 21), .int (D 18 3), .int (D 18 4), .int (D 18 5), .int (D 18 6), .int (D 18 7), .int (D 18 8), .int 0, .int (D 18 10), .int 0, .int 0, .int (D 18 13), .int (D 18 14)]))) [cNd n nd me D, cDk nd D, cAr nd 2 35840 D, cAr nd 3 4096 D, cAr nd 4 32 D, cAr nd 5 280 D, cAr nd 6 280 D, cLd n nd me D A, cAr nd 8 16 D, cAr nd 9 280 D, cTb nd gg D K, cAr nd 11 48 D, cAr nd 12 48 D, cAr nd 13 48 D, cAr nd 14 2400 D, cAr nd 15 512 D, cAr nd 16 961 D, cAr nd 17 961 D, (nd + 18, .inr (10, [.ref (nd + 10), .ref (nd + 19), .ref (nd + 21), .int (D 18 3), .int (D 18 4), .int (D 18 5), .int (D 18 6), .int (D 18 7), .int (D 18 8), .int 0, .int (D 18 10), .int 0, .int 0, .int (D 18 13), .int (D 18 14)])), cWa nd D, cAr nd 20 612 D, (nd + 21, .inl (0, 1152, .inl (ax_fill (D 21) 0 1152 0))), cRk n nn gg C, cOr n nn gg f] := hF.put 18 _ rfl rfl
  replace hf := hf.put (a := nd + 18) (c := .inr (10, [.ref (nd + 10), .ref (nd + 19), .ref (nd + 21), .int (D 18 3), .int (D 18 4), .int (D 18 5), .int (D 18 6), .int (D 18 7), .int (D 18 8), .int 0, .int (D 18 10), .int 0, .int 0, .int (D 18 13), .int (D 18 14)])) (Or.inr (by omega))
  replace hN := hN.put (a := nd + 18) (c := .inr (10, [.ref (nd + 10), .ref (nd + 19), .ref (nd + 21), .int (D 18 3), .int (D 18 4), .int (D 18 5), .int (D 18 6), .int (D 18 7), .int (D 18 8), .int 0, .int (D 18 10), .int 0, .int 0, .int (D 18 13), .int (D 18 14)])) (by omega)
  replace hn : (ax_put hp_3 (nd + 18) (.inr (10, [.ref (nd + 10), .ref (nd + 19), .ref (nd + 21), .int (D 18 3), .int (D 18 4), .int (D 18 5), .int (D 18 6), .int (D 18 7), .int (D 18 8), .int 0, .int (D 18 10), .int 0, .int 0, .int (D 18 13), .int (D 18 14)]))).1 = h0.1 := hn
  replace hs : (ax_put hp_3 (nd + 18) (.inr (10, [.ref (nd + 10), .ref (nd + 19), .ref (nd + 21), .int (D 18 3), .int (D 18 4), .int (D 18 5), .int (D 18 6), .int (D 18 7), .int (D 18 8), .int 0, .int (D 18 10), .int 0, .int 0, .int (D 18 13), .int (D 18 14)]))).2.1 = h0.2.1 := hs
  generalize ax_put hp_3 (nd + 18) (.inr (10, [.ref (nd + 10), .ref (nd + 19), .ref (nd + 21), .int (D 18 3), .int (D 18 4), .int (D 18 5), .int (D 18 6), .int (D 18 7), .int (D 18 8), .int 0, .int (D 18 10), .int 0, .int 0, .int (D 18 13), .int (D 18 14)])) = hp_4 at hF hf hN hn hs ⊢
  refine ar_aload_n 36 d_93_35 rfl rfl ?_
  refine ar_iconst 37 (v := -1) d_93_36 rfl (by decide) ?_
  refine ar_putf 40 [.ref (nd + 10), .ref (nd + 19), .ref (nd + 21), .int (D 18 3), .int (D 18 4), .int (D 18 5), .int (D 18 6), .int (D 18 7), .int (D 18 8), .int 0, .int (D 18 10), .int 0, .int 0, .int (-1), .int (D 18 14)] d_93_37 rfl (ci := 10) (k := 13) rfl rfl (hF.at 18 rfl) (Nat.le_of_ble_eq_true rfl) rfl rfl rfl ?_
  replace hF : ax_hs (ax_put hp_4 (nd + 18) (.inr (10, [.ref (nd + 10), .ref (nd + 19), .ref (nd + 21), .int (D 18 3), .int (D 18 4), .int (D 18 5), .int (D 18 6), .int (D 18 7), .int (D 18 8), .int 0, .int (D 18 10), .int 0, .int 0, .int (-1), .int (D 18 14)]))) [cNd n nd me D, cDk nd D, cAr nd 2 35840 D, cAr nd 3 4096 D, cAr nd 4 32 D, cAr nd 5 280 D, cAr nd 6 280 D, cLd n nd me D A, cAr nd 8 16 D, cAr nd 9 280 D, cTb nd gg D K, cAr nd 11 48 D, cAr nd 12 48 D, cAr nd 13 48 D, cAr nd 14 2400 D, cAr nd 15 512 D, cAr nd 16 961 D, cAr nd 17 961 D, (nd + 18, .inr (10, [.ref (nd + 10), .ref (nd + 19), .ref (nd + 21), .int (D 18 3), .int (D 18 4), .int (D 18 5), .int (D 18 6), .int (D 18 7), .int (D 18 8), .int 0, .int (D 18 10), .int 0, .int 0, .int (-1), .int (D 18 14)])), cWa nd D, cAr nd 20 612 D, (nd + 21, .inl (0, 1152, .inl (ax_fill (D 21) 0 1152 0))), cRk n nn gg C, cOr n nn gg f] := hF.put 18 _ rfl rfl
  replace hf := hf.put (a := nd + 18) (c := .inr (10, [.ref (nd + 10), .ref (nd + 19), .ref (nd + 21), .int (D 18 3), .int (D 18 4), .int (D 18 5), .int (D 18 6), .int (D 18 7), .int (D 18 8), .int 0, .int (D 18 10), .int 0, .int 0, .int (-1), .int (D 18 14)])) (Or.inr (by omega))
  replace hN := hN.put (a := nd + 18) (c := .inr (10, [.ref (nd + 10), .ref (nd + 19), .ref (nd + 21), .int (D 18 3), .int (D 18 4), .int (D 18 5), .int (D 18 6), .int (D 18 7), .int (D 18 8), .int 0, .int (D 18 10), .int 0, .int 0, .int (-1), .int (D 18 14)])) (by omega)
  replace hn : (ax_put hp_4 (nd + 18) (.inr (10, [.ref (nd + 10), .ref (nd + 19), .ref (nd + 21), .int (D 18 3), .int (D 18 4), .int (D 18 5), .int (D 18 6), .int (D 18 7), .int (D 18 8), .int 0, .int (D 18 10), .int 0, .int 0, .int (-1), .int (D 18 14)]))).1 = h0.1 := hn
  replace hs : (ax_put hp_4 (nd + 18) (.inr (10, [.ref (nd + 10), .ref (nd + 19), .ref (nd + 21), .int (D 18 3), .int (D 18 4), .int (D 18 5), .int (D 18 6), .int (D 18 7), .int (D 18 8), .int 0, .int (D 18 10), .int 0, .int 0, .int (-1), .int (D 18 14)]))).2.1 = h0.2.1 := hs
  generalize ax_put hp_4 (nd + 18) (.inr (10, [.ref (nd + 10), .ref (nd + 19), .ref (nd + 21), .int (D 18 3), .int (D 18 4), .int (D 18 5), .int (D 18 6), .int (D 18 7), .int (D 18 8), .int 0, .int (D 18 10), .int 0, .int 0, .int (-1), .int (D 18 14)])) = hp_5 at hF hf hN hn hs ⊢
  refine ar_aload_n 41 d_93_40 rfl rfl ?_
  refine ar_iconst 42 (v := -1) d_93_41 rfl (by decide) ?_
  refine ar_putf 45 [.ref (nd + 10), .ref (nd + 19), .ref (nd + 21), .int (D 18 3), .int (D 18 4), .int (D 18 5), .int (D 18 6), .int (D 18 7), .int (D 18 8), .int 0, .int (D 18 10), .int 0, .int 0, .int (-1), .int (-1)] d_93_42 rfl (ci := 10) (k := 14) rfl rfl (hF.at 18 rfl) (Nat.le_of_ble_eq_true rfl) rfl rfl rfl ?_
  replace hF : ax_hs (ax_put hp_5 (nd + 18) (.inr (10, [.ref (nd + 10), .ref (nd + 19), .ref (nd + 21), .int (D 18 3), .int (D 18 4), .int (D 18 5), .int (D 18 6), .int (D 18 7), .int (D 18 8), .int 0, .int (D 18 10), .int 0, .int 0, .int (-1), .int (-1)]))) [cNd n nd me D, cDk nd D, cAr nd 2 35840 D, cAr nd 3 4096 D, cAr nd 4 32 D, cAr nd 5 280 D, cAr nd 6 280 D, cLd n nd me D A, cAr nd 8 16 D, cAr nd 9 280 D, cTb nd gg D K, cAr nd 11 48 D, cAr nd 12 48 D, cAr nd 13 48 D, cAr nd 14 2400 D, cAr nd 15 512 D, cAr nd 16 961 D, cAr nd 17 961 D, (nd + 18, .inr (10, [.ref (nd + 10), .ref (nd + 19), .ref (nd + 21), .int (D 18 3), .int (D 18 4), .int (D 18 5), .int (D 18 6), .int (D 18 7), .int (D 18 8), .int 0, .int (D 18 10), .int 0, .int 0, .int (-1), .int (-1)])), cWa nd D, cAr nd 20 612 D, (nd + 21, .inl (0, 1152, .inl (ax_fill (D 21) 0 1152 0))), cRk n nn gg C, cOr n nn gg f] := hF.put 18 _ rfl rfl
  replace hf := hf.put (a := nd + 18) (c := .inr (10, [.ref (nd + 10), .ref (nd + 19), .ref (nd + 21), .int (D 18 3), .int (D 18 4), .int (D 18 5), .int (D 18 6), .int (D 18 7), .int (D 18 8), .int 0, .int (D 18 10), .int 0, .int 0, .int (-1), .int (-1)])) (Or.inr (by omega))
  replace hN := hN.put (a := nd + 18) (c := .inr (10, [.ref (nd + 10), .ref (nd + 19), .ref (nd + 21), .int (D 18 3), .int (D 18 4), .int (D 18 5), .int (D 18 6), .int (D 18 7), .int (D 18 8), .int 0, .int (D 18 10), .int 0, .int 0, .int (-1), .int (-1)])) (by omega)
  replace hn : (ax_put hp_5 (nd + 18) (.inr (10, [.ref (nd + 10), .ref (nd + 19), .ref (nd + 21), .int (D 18 3), .int (D 18 4), .int (D 18 5), .int (D 18 6), .int (D 18 7), .int (D 18 8), .int 0, .int (D 18 10), .int 0, .int 0, .int (-1), .int (-1)]))).1 = h0.1 := hn
  replace hs : (ax_put hp_5 (nd + 18) (.inr (10, [.ref (nd + 10), .ref (nd + 19), .ref (nd + 21), .int (D 18 3), .int (D 18 4), .int (D 18 5), .int (D 18 6), .int (D 18 7), .int (D 18 8), .int 0, .int (D 18 10), .int 0, .int 0, .int (-1), .int (-1)]))).2.1 = h0.2.1 := hs
  generalize ax_put hp_5 (nd + 18) (.inr (10, [.ref (nd + 10), .ref (nd + 19), .ref (nd + 21), .int (D 18 3), .int (D 18 4), .int (D 18 5), .int (D 18 6), .int (D 18 7), .int (D 18 8), .int 0, .int (D 18 10), .int 0, .int 0, .int (-1), .int (-1)])) = hp_6 at hF hf hN hn hs ⊢
  refine ar_iload_n 46 d_93_45 rfl rfl ?_
  refine ar_aload_n 47 d_93_46 rfl rfl ?_
  refine ar_getf 50 d_93_47 rfl (ci := 10) (k := 4) rfl (hF.at 18 rfl) rfl ?_
  refine ar_icmp_le 61 53 d_93_50 (by decide) rfl (fun cc7 => ?_) (fun cc7 => ?_)
  · refine ar_iload_n 62 d_93_61 rfl rfl ?_
    refine ar_aload_n 63 d_93_62 rfl rfl ?_
    refine ar_getf 66 d_93_63 rfl (ci := 10) (k := 4) rfl (hF.at 18 rfl) rfl ?_
    refine ar_icmp_ne 88 69 d_93_66 (by decide) rfl (fun cc8 => ?_) (fun cc8 => ?_)
    · refine ar_iload_n 89 d_93_88 rfl rfl ?_
      refine ar_aload_n 90 d_93_89 rfl rfl ?_
      refine ar_getf 93 d_93_90 rfl (ci := 10) (k := 6) rfl (hF.at 18 rfl) rfl ?_
      refine ar_icmp_ne 254 96 d_93_93 (by decide) rfl (fun cc9 => ?_) (fun cc9 => ?_)
      · have hz0 : ∀ i, i < 9 → ax_fill (D 21) 0 1152 0 (i * 128) = 0 := fun i hi => if_pos ⟨by omega, by omega⟩
        have hzB : ∀ i, i < 9 → ¬ ax_fill (D 21) 0 1152 0 (i * 128) = 0 → gd Z (ax_fill (D 21) 0 1152 0) (i * 128) := fun i hi z => absurd (hz0 i hi) z
        have hS9 : NS Z n nd nn gg C me f q u b uv h0 hp_6 (va_up (va_up D 18 (upd (upd (upd (upd (upd (D 18) 9 0) 11 0) 12 0) 13 (-1)) 14 (-1))) 21 (ax_fill (D 21) 0 1152 0)) K A Y := ⟨hF, hN, hf, hn, hs, hp0, hu0⟩
        have hI9 : NI Z nn (va_up (va_up D 18 (upd (upd (upd (upd (upd (D 18) 9 0) 11 0) 12 0) 13 (-1)) 14 (-1))) 21 (ax_fill (D 21) 0 1152 0)) := ⟨hI.1, hI.2.1, WI.wait h3 hA ⟨0, by decide, rfl⟩ hop hzB, hI.2.2.2⟩
        exact ar_ret d_93_254 rfl (⟨rfl, _, _, _, _, hS9, hI9, eq_ifT cc7 (eq_ifT cc8 (eq_ifT cc9 (rfl))), trivial⟩)
      · refine ar_aload_n 97 d_93_96 rfl rfl ?_
        refine ar_aload_n 98 d_93_97 rfl rfl ?_
        refine ar_getf 101 d_93_98 rfl (ci := 10) (k := 0) rfl (hF.at 18 rfl) rfl ?_
        refine ar_aload_n 102 d_93_101 rfl rfl ?_
        refine ar_getf 105 d_93_102 rfl (ci := 10) (k := 1) rfl (hF.at 18 rfl) rfl ?_
        refine ar_getf 108 d_93_105 rfl (ci := 5) (k := 7) rfl (hF.at 19 rfl) rfl ?_
        refine ar_iconst 109 (v := 0) d_93_108 rfl (by decide) ?_
        refine ar_aload_n 110 d_93_109 rfl rfl ?_
        refine ar_getf 113 d_93_110 rfl (ci := 10) (k := 1) rfl (hF.at 18 rfl) rfl ?_
        refine ar_getf 116 d_93_113 rfl (ci := 5) (k := 3) rfl (hF.at 19 rfl) rfl ?_
        refine ar_call (r := [.ref (nd + 18)]) (na := 0) (kd := 0) (cm := 94) (fr2 := fr - 1) (lo2 := lo - 24) 119 d_93_116 (ar_hoV (as := [.ref (nd + 20), .int 0, .int (D 19 3)]) rfl rfl rfl (hF.at 10 rfl)) rfl (by omega) (show lo - 24 + (19 + 5) = lo by omega) (Nat.le_of_ble_eq_true rfl) (Nat.le_of_ble_eq_true rfl) (c_94E (p := 0) (by omega) (by omega) (by decide) (by omega) (hF.at 10 rfl) (hF.at 11 rfl) (hF.at 13 rfl) (hF.at 14 rfl) (hF.at 20 rfl)) ?_
        intro v hh hq
        obtain ⟨y10, rfl, hyE10, hy10, ehh⟩ := hq
        rw [ehh]
        clear ehh
        refine ar_putf 122 [.ref (nd + 10), .ref (nd + 19), .ref (nd + 21), .int (D 18 3), .int (D 18 4), .int (D 18 5), .int (D 18 6), .int y10, .int (D 18 8), .int 0, .int (D 18 10), .int 0, .int 0, .int (-1), .int (-1)] d_93_119 rfl (ci := 10) (k := 7) rfl rfl (hF.at 18 rfl) (Nat.le_of_ble_eq_true rfl) rfl rfl rfl ?_
        replace hF : ax_hs (ax_put hp_6 (nd + 18) (.inr (10, [.ref (nd + 10), .ref (nd + 19), .ref (nd + 21), .int (D 18 3), .int (D 18 4), .int (D 18 5), .int (D 18 6), .int y10, .int (D 18 8), .int 0, .int (D 18 10), .int 0, .int 0, .int (-1), .int (-1)]))) [cNd n nd me D, cDk nd D, cAr nd 2 35840 D, cAr nd 3 4096 D, cAr nd 4 32 D, cAr nd 5 280 D, cAr nd 6 280 D, cLd n nd me D A, cAr nd 8 16 D, cAr nd 9 280 D, cTb nd gg D K, cAr nd 11 48 D, cAr nd 12 48 D, cAr nd 13 48 D, cAr nd 14 2400 D, cAr nd 15 512 D, cAr nd 16 961 D, cAr nd 17 961 D, (nd + 18, .inr (10, [.ref (nd + 10), .ref (nd + 19), .ref (nd + 21), .int (D 18 3), .int (D 18 4), .int (D 18 5), .int (D 18 6), .int y10, .int (D 18 8), .int 0, .int (D 18 10), .int 0, .int 0, .int (-1), .int (-1)])), cWa nd D, cAr nd 20 612 D, (nd + 21, .inl (0, 1152, .inl (ax_fill (D 21) 0 1152 0))), cRk n nn gg C, cOr n nn gg f] := hF.put 18 _ rfl rfl
        replace hf := hf.put (a := nd + 18) (c := .inr (10, [.ref (nd + 10), .ref (nd + 19), .ref (nd + 21), .int (D 18 3), .int (D 18 4), .int (D 18 5), .int (D 18 6), .int y10, .int (D 18 8), .int 0, .int (D 18 10), .int 0, .int 0, .int (-1), .int (-1)])) (Or.inr (by omega))
        replace hN := hN.put (a := nd + 18) (c := .inr (10, [.ref (nd + 10), .ref (nd + 19), .ref (nd + 21), .int (D 18 3), .int (D 18 4), .int (D 18 5), .int (D 18 6), .int y10, .int (D 18 8), .int 0, .int (D 18 10), .int 0, .int 0, .int (-1), .int (-1)])) (by omega)
        replace hn : (ax_put hp_6 (nd + 18) (.inr (10, [.ref (nd + 10), .ref (nd + 19), .ref (nd + 21), .int (D 18 3), .int (D 18 4), .int (D 18 5), .int (D 18 6), .int y10, .int (D 18 8), .int 0, .int (D 18 10), .int 0, .int 0, .int (-1), .int (-1)]))).1 = h0.1 := hn
        replace hs : (ax_put hp_6 (nd + 18) (.inr (10, [.ref (nd + 10), .ref (nd + 19), .ref (nd + 21), .int (D 18 3), .int (D 18 4), .int (D 18 5), .int (D 18 6), .int y10, .int (D 18 8), .int 0, .int (D 18 10), .int 0, .int 0, .int (-1), .int (-1)]))).2.1 = h0.2.1 := hs
        generalize ax_put hp_6 (nd + 18) (.inr (10, [.ref (nd + 10), .ref (nd + 19), .ref (nd + 21), .int (D 18 3), .int (D 18 4), .int (D 18 5), .int (D 18 6), .int y10, .int (D 18 8), .int 0, .int (D 18 10), .int 0, .int 0, .int (-1), .int (-1)])) = hp_11 at hF hf hN hn hs ⊢
        refine ar_aload_n 123 d_93_122 rfl rfl ?_
        refine ar_aload_n 124 d_93_123 rfl rfl ?_
        refine ar_getf 127 d_93_124 rfl (ci := 10) (k := 1) rfl (hF.at 18 rfl) rfl ?_
        refine ar_getf 130 d_93_127 rfl (ci := 5) (k := 0) rfl (hF.at 19 rfl) rfl ?_
        refine ar_bipush 132 (v := 9) d_93_130 rfl (by decide) ?_
        refine ar_icmp_ne 159 135 d_93_132 (by decide) rfl (fun cc12 => ?_) (fun cc12 => ?_)
        · refine ar_aload_n 160 d_93_159 rfl rfl ?_
          refine ar_getf 163 d_93_160 rfl (ci := 10) (k := 0) rfl (hF.at 18 rfl) rfl ?_
          refine ar_aload_n 164 d_93_163 rfl rfl ?_
          refine ar_getf 167 d_93_164 rfl (ci := 10) (k := 1) rfl (hF.at 18 rfl) rfl ?_
          refine ar_getf 170 d_93_167 rfl (ci := 5) (k := 7) rfl (hF.at 19 rfl) rfl ?_
          refine ar_bipush 172 (v := 50) d_93_170 rfl (by decide) ?_
          refine ar_aload_n 173 d_93_172 rfl rfl ?_
          refine ar_getf 176 d_93_173 rfl (ci := 10) (k := 1) rfl (hF.at 18 rfl) rfl ?_
          refine ar_getf 179 d_93_176 rfl (ci := 5) (k := 4) rfl (hF.at 19 rfl) rfl ?_
          refine ar_call (r := [.ref (nd + 18)]) (na := 0) (kd := 0) (cm := 94) (fr2 := fr - 1) (lo2 := lo - 24) 182 d_93_179 (ar_hoV (as := [.ref (nd + 20), .int 50, .int (D 19 4)]) rfl rfl rfl (hF.at 10 rfl)) rfl (by omega) (show lo - 24 + (19 + 5) = lo by omega) (Nat.le_of_ble_eq_true rfl) (Nat.le_of_ble_eq_true rfl) (c_94E (p := 50) (by omega) (by omega) (by decide) (by omega) (hF.at 10 rfl) (hF.at 11 rfl) (hF.at 13 rfl) (hF.at 14 rfl) (hF.at 20 rfl)) ?_
          intro v hh hq
          obtain ⟨y13, rfl, hyE13, hy13, ehh⟩ := hq
          rw [ehh]
          clear ehh
          refine ar_putf 185 [.ref (nd + 10), .ref (nd + 19), .ref (nd + 21), .int (D 18 3), .int (D 18 4), .int (D 18 5), .int (D 18 6), .int y10, .int y13, .int 0, .int (D 18 10), .int 0, .int 0, .int (-1), .int (-1)] d_93_182 rfl (ci := 10) (k := 8) rfl rfl (hF.at 18 rfl) (Nat.le_of_ble_eq_true rfl) rfl rfl rfl ?_
          replace hF : ax_hs (ax_put hp_11 (nd + 18) (.inr (10, [.ref (nd + 10), .ref (nd + 19), .ref (nd + 21), .int (D 18 3), .int (D 18 4), .int (D 18 5), .int (D 18 6), .int y10, .int y13, .int 0, .int (D 18 10), .int 0, .int 0, .int (-1), .int (-1)]))) [cNd n nd me D, cDk nd D, cAr nd 2 35840 D, cAr nd 3 4096 D, cAr nd 4 32 D, cAr nd 5 280 D, cAr nd 6 280 D, cLd n nd me D A, cAr nd 8 16 D, cAr nd 9 280 D, cTb nd gg D K, cAr nd 11 48 D, cAr nd 12 48 D, cAr nd 13 48 D, cAr nd 14 2400 D, cAr nd 15 512 D, cAr nd 16 961 D, cAr nd 17 961 D, (nd + 18, .inr (10, [.ref (nd + 10), .ref (nd + 19), .ref (nd + 21), .int (D 18 3), .int (D 18 4), .int (D 18 5), .int (D 18 6), .int y10, .int y13, .int 0, .int (D 18 10), .int 0, .int 0, .int (-1), .int (-1)])), cWa nd D, cAr nd 20 612 D, (nd + 21, .inl (0, 1152, .inl (ax_fill (D 21) 0 1152 0))), cRk n nn gg C, cOr n nn gg f] := hF.put 18 _ rfl rfl
          replace hf := hf.put (a := nd + 18) (c := .inr (10, [.ref (nd + 10), .ref (nd + 19), .ref (nd + 21), .int (D 18 3), .int (D 18 4), .int (D 18 5), .int (D 18 6), .int y10, .int y13, .int 0, .int (D 18 10), .int 0, .int 0, .int (-1), .int (-1)])) (Or.inr (by omega))
          replace hN := hN.put (a := nd + 18) (c := .inr (10, [.ref (nd + 10), .ref (nd + 19), .ref (nd + 21), .int (D 18 3), .int (D 18 4), .int (D 18 5), .int (D 18 6), .int y10, .int y13, .int 0, .int (D 18 10), .int 0, .int 0, .int (-1), .int (-1)])) (by omega)
          replace hn : (ax_put hp_11 (nd + 18) (.inr (10, [.ref (nd + 10), .ref (nd + 19), .ref (nd + 21), .int (D 18 3), .int (D 18 4), .int (D 18 5), .int (D 18 6), .int y10, .int y13, .int 0, .int (D 18 10), .int 0, .int 0, .int (-1), .int (-1)]))).1 = h0.1 := hn
          replace hs : (ax_put hp_11 (nd + 18) (.inr (10, [.ref (nd + 10), .ref (nd + 19), .ref (nd + 21), .int (D 18 3), .int (D 18 4), .int (D 18 5), .int (D 18 6), .int y10, .int y13, .int 0, .int (D 18 10), .int 0, .int 0, .int (-1), .int (-1)]))).2.1 = h0.2.1 := hs
          generalize ax_put hp_11 (nd + 18) (.inr (10, [.ref (nd + 10), .ref (nd + 19), .ref (nd + 21), .int (D 18 3), .int (D 18 4), .int (D 18 5), .int (D 18 6), .int y10, .int y13, .int 0, .int (D 18 10), .int 0, .int 0, .int (-1), .int (-1)])) = hp_14 at hF hf hN hn hs ⊢
          refine ar_aload_n 186 d_93_185 rfl rfl ?_
          refine ar_aload_n 187 d_93_186 rfl rfl ?_
          refine ar_ldc 189 d_93_187 rfl (v := 32768) rfl ?_
          refine ar_aload_n 190 d_93_189 rfl rfl ?_
          refine ar_getf 193 d_93_190 rfl (ci := 10) (k := 0) rfl (hF.at 18 rfl) rfl ?_
          refine ar_call (r := [.int 32768, .ref (nd + 18), .ref (nd + 18)]) (na := 0) (kd := 0) (cm := 98) (fr2 := fr - 1) (lo2 := lo - 22) 196 d_93_193 (ar_hoV (as := []) rfl rfl rfl (hF.at 10 rfl)) rfl (by omega) (show lo - 22 + (19 + 3) = lo by omega) (Nat.le_of_ble_eq_true rfl) (Nat.le_of_ble_eq_true rfl) (c_98 (hF.at 10 rfl) (hF.at 12 rfl)) ?_
          intro v hh hq
          obtain ⟨rfl, ehh⟩ := hq
          rw [ehh]
          clear ehh
          refine ar_isub 197 d_93_196 rfl ?_
          have hz0 : ∀ i, i < 9 → ax_fill (D 21) 0 1152 0 (i * 128) = 0 := fun i hi => if_pos ⟨by omega, by omega⟩
          have hzB : ∀ i, i < 9 → ¬ ax_fill (D 21) 0 1152 0 (i * 128) = 0 → gd Z (ax_fill (D 21) 0 1152 0) (i * 128) := fun i hi z => absurd (hz0 i hi) z
          have hS1 : NS Z n nd nn gg C me f q u b uv h0 hp_14 (va_up (va_up D 18 (upd (upd (upd (upd (upd (upd (upd (D 18) 7 y10) 8 y13) 9 0) 11 0) 12 0) 13 (-1)) 14 (-1))) 21 (ax_fill (D 21) 0 1152 0)) K A Y := ⟨hF, hN, hf, hn, hs, hp0, hu0⟩
          have hI1 : NI Z nn (va_up (va_up D 18 (upd (upd (upd (upd (upd (upd (upd (D 18) 7 y10) 8 y13) 9 0) 11 0) 12 0) 13 (-1)) 14 (-1))) 21 (ax_fill (D 21) 0 1152 0)) := ⟨hI.1, hI.2.1, WI.wait h3 hA ⟨0, by decide, rfl⟩ hop hzB, hI.2.2.2⟩
          refine ar_call (r := [.ref (nd + 18)]) (na := 0) (kd := 0) (cm := 99) (fr2 := fr - 1) (lo2 := lo - 22) 200 d_93_197 (ar_hoV (as := [.int (32768 - (totS (D 12) 48 0 0))]) rfl rfl rfl (hF.at 18 rfl)) rfl (by omega) (show lo - 22 + (19 + 3) = lo by omega) (Nat.le_of_ble_eq_true rfl) (Nat.le_of_ble_eq_true rfl) (s_99 (by omega) (by omega) hC0 hS1 hI1 h3 hy10 hy13 rfl) ?_
          intro v hp_16 hq
          obtain ⟨y15, rfl, D16, K16, A16, Y16, hS2, hI2, hE16, hsm, ha11, han⟩ := hq
          clear hS1 hI1 hF hN hf hn hs hp0 hu0
          obtain ⟨hF, hN, hf, hn, hs, hp0, hu0⟩ := hS2
          replace hF : ax_hs hp_16 [cNd n nd me D16, cDk nd D16, cAr nd 2 35840 D16, cAr nd 3 4096 D16, cAr nd 4 32 D16, cAr nd 5 280 D16, cAr nd 6 280 D16, cLd n nd me D16 A16, cAr nd 8 16 D16, cAr nd 9 280 D16, cTb nd gg D16 K16, cAr nd 11 48 D16, cAr nd 12 48 D16, cAr nd 13 48 D16, cAr nd 14 2400 D16, cAr nd 15 512 D16, cAr nd 16 961 D16, cAr nd 17 961 D16, cWk nd D16, cWa nd D16, cAr nd 20 612 D16, cAr nd 21 1152 D16, cRk n nn gg C, cOr n nn gg f] := hF
          have hI16 := hI2
          clear hI2
          obtain ⟨sm3, sm4, sm7, sm8, sm13, sm14, sm0, sm10, sm11, sm21⟩ := hsm
          refine ar_putf 203 [.ref (nd + 10), .ref (nd + 19), .ref (nd + 21), .int (D16 18 3), .int (D16 18 4), .int y15, .int (D16 18 6), .int (D16 18 7), .int (D16 18 8), .int (D16 18 9), .int (D16 18 10), .int (D16 18 11), .int (D16 18 12), .int (D16 18 13), .int (D16 18 14)] d_93_200 rfl (ci := 10) (k := 5) rfl rfl (hF.at 18 rfl) (Nat.le_of_ble_eq_true rfl) rfl rfl rfl ?_
          replace hF : ax_hs (ax_put hp_16 (nd + 18) (.inr (10, [.ref (nd + 10), .ref (nd + 19), .ref (nd + 21), .int (D16 18 3), .int (D16 18 4), .int y15, .int (D16 18 6), .int (D16 18 7), .int (D16 18 8), .int (D16 18 9), .int (D16 18 10), .int (D16 18 11), .int (D16 18 12), .int (D16 18 13), .int (D16 18 14)]))) [cNd n nd me D16, cDk nd D16, cAr nd 2 35840 D16, cAr nd 3 4096 D16, cAr nd 4 32 D16, cAr nd 5 280 D16, cAr nd 6 280 D16, cLd n nd me D16 A16, cAr nd 8 16 D16, cAr nd 9 280 D16, cTb nd gg D16 K16, cAr nd 11 48 D16, cAr nd 12 48 D16, cAr nd 13 48 D16, cAr nd 14 2400 D16, cAr nd 15 512 D16, cAr nd 16 961 D16, cAr nd 17 961 D16, (nd + 18, .inr (10, [.ref (nd + 10), .ref (nd + 19), .ref (nd + 21), .int (D16 18 3), .int (D16 18 4), .int y15, .int (D16 18 6), .int (D16 18 7), .int (D16 18 8), .int (D16 18 9), .int (D16 18 10), .int (D16 18 11), .int (D16 18 12), .int (D16 18 13), .int (D16 18 14)])), cWa nd D16, cAr nd 20 612 D16, cAr nd 21 1152 D16, cRk n nn gg C, cOr n nn gg f] := hF.put 18 _ rfl rfl
          replace hf := hf.put (a := nd + 18) (c := .inr (10, [.ref (nd + 10), .ref (nd + 19), .ref (nd + 21), .int (D16 18 3), .int (D16 18 4), .int y15, .int (D16 18 6), .int (D16 18 7), .int (D16 18 8), .int (D16 18 9), .int (D16 18 10), .int (D16 18 11), .int (D16 18 12), .int (D16 18 13), .int (D16 18 14)])) (Or.inr (by omega))
          replace hN := hN.put (a := nd + 18) (c := .inr (10, [.ref (nd + 10), .ref (nd + 19), .ref (nd + 21), .int (D16 18 3), .int (D16 18 4), .int y15, .int (D16 18 6), .int (D16 18 7), .int (D16 18 8), .int (D16 18 9), .int (D16 18 10), .int (D16 18 11), .int (D16 18 12), .int (D16 18 13), .int (D16 18 14)])) (by omega)
          replace hn : (ax_put hp_16 (nd + 18) (.inr (10, [.ref (nd + 10), .ref (nd + 19), .ref (nd + 21), .int (D16 18 3), .int (D16 18 4), .int y15, .int (D16 18 6), .int (D16 18 7), .int (D16 18 8), .int (D16 18 9), .int (D16 18 10), .int (D16 18 11), .int (D16 18 12), .int (D16 18 13), .int (D16 18 14)]))).1 = h0.1 := hn
          replace hs : (ax_put hp_16 (nd + 18) (.inr (10, [.ref (nd + 10), .ref (nd + 19), .ref (nd + 21), .int (D16 18 3), .int (D16 18 4), .int y15, .int (D16 18 6), .int (D16 18 7), .int (D16 18 8), .int (D16 18 9), .int (D16 18 10), .int (D16 18 11), .int (D16 18 12), .int (D16 18 13), .int (D16 18 14)]))).2.1 = h0.2.1 := hs
          generalize ax_put hp_16 (nd + 18) (.inr (10, [.ref (nd + 10), .ref (nd + 19), .ref (nd + 21), .int (D16 18 3), .int (D16 18 4), .int y15, .int (D16 18 6), .int (D16 18 7), .int (D16 18 8), .int (D16 18 9), .int (D16 18 10), .int (D16 18 11), .int (D16 18 12), .int (D16 18 13), .int (D16 18 14)])) = hp_17 at hF hf hN hn hs ⊢
          refine ar_aload_n 204 d_93_203 rfl rfl ?_
          refine ar_getf 207 d_93_204 rfl (ci := 10) (k := 5) rfl (hF.at 18 rfl) rfl ?_
          refine ar_if_lt 214 210 d_93_207 (by decide) rfl (fun c7 => ?_) (fun c7 => ?_)
          · have c7 := c7
            refine ar_aload_n 215 d_93_214 rfl rfl ?_
            refine ar_aload_n 216 d_93_215 rfl rfl ?_
            refine ar_getf 219 d_93_216 rfl (ci := 10) (k := 5) rfl (hF.at 18 rfl) rfl ?_
            refine ar_if_lt 246 222 d_93_219 (by decide) rfl (fun _ => ?_) (fun c => absurd (c7) c)
            refine ar_iconst 247 (v := 5) d_93_246 rfl (by decide) ?_
            refine ar_goto 251 d_93_247 (by decide) ?_
            refine ar_putf 254 [.ref (nd + 10), .ref (nd + 19), .ref (nd + 21), .int 5, .int (D16 18 4), .int y15, .int (D16 18 6), .int (D16 18 7), .int (D16 18 8), .int (D16 18 9), .int (D16 18 10), .int (D16 18 11), .int (D16 18 12), .int (D16 18 13), .int (D16 18 14)] d_93_251 rfl (ci := 10) (k := 3) rfl rfl (hF.at 18 rfl) (Nat.le_of_ble_eq_true rfl) rfl rfl rfl ?_
            replace hF : ax_hs (ax_put hp_17 (nd + 18) (.inr (10, [.ref (nd + 10), .ref (nd + 19), .ref (nd + 21), .int 5, .int (D16 18 4), .int y15, .int (D16 18 6), .int (D16 18 7), .int (D16 18 8), .int (D16 18 9), .int (D16 18 10), .int (D16 18 11), .int (D16 18 12), .int (D16 18 13), .int (D16 18 14)]))) [cNd n nd me D16, cDk nd D16, cAr nd 2 35840 D16, cAr nd 3 4096 D16, cAr nd 4 32 D16, cAr nd 5 280 D16, cAr nd 6 280 D16, cLd n nd me D16 A16, cAr nd 8 16 D16, cAr nd 9 280 D16, cTb nd gg D16 K16, cAr nd 11 48 D16, cAr nd 12 48 D16, cAr nd 13 48 D16, cAr nd 14 2400 D16, cAr nd 15 512 D16, cAr nd 16 961 D16, cAr nd 17 961 D16, (nd + 18, .inr (10, [.ref (nd + 10), .ref (nd + 19), .ref (nd + 21), .int 5, .int (D16 18 4), .int y15, .int (D16 18 6), .int (D16 18 7), .int (D16 18 8), .int (D16 18 9), .int (D16 18 10), .int (D16 18 11), .int (D16 18 12), .int (D16 18 13), .int (D16 18 14)])), cWa nd D16, cAr nd 20 612 D16, cAr nd 21 1152 D16, cRk n nn gg C, cOr n nn gg f] := hF.put 18 _ rfl rfl
            replace hf := hf.put (a := nd + 18) (c := .inr (10, [.ref (nd + 10), .ref (nd + 19), .ref (nd + 21), .int 5, .int (D16 18 4), .int y15, .int (D16 18 6), .int (D16 18 7), .int (D16 18 8), .int (D16 18 9), .int (D16 18 10), .int (D16 18 11), .int (D16 18 12), .int (D16 18 13), .int (D16 18 14)])) (Or.inr (by omega))
            replace hN := hN.put (a := nd + 18) (c := .inr (10, [.ref (nd + 10), .ref (nd + 19), .ref (nd + 21), .int 5, .int (D16 18 4), .int y15, .int (D16 18 6), .int (D16 18 7), .int (D16 18 8), .int (D16 18 9), .int (D16 18 10), .int (D16 18 11), .int (D16 18 12), .int (D16 18 13), .int (D16 18 14)])) (by omega)
            replace hn : (ax_put hp_17 (nd + 18) (.inr (10, [.ref (nd + 10), .ref (nd + 19), .ref (nd + 21), .int 5, .int (D16 18 4), .int y15, .int (D16 18 6), .int (D16 18 7), .int (D16 18 8), .int (D16 18 9), .int (D16 18 10), .int (D16 18 11), .int (D16 18 12), .int (D16 18 13), .int (D16 18 14)]))).1 = h0.1 := hn
            replace hs : (ax_put hp_17 (nd + 18) (.inr (10, [.ref (nd + 10), .ref (nd + 19), .ref (nd + 21), .int 5, .int (D16 18 4), .int y15, .int (D16 18 6), .int (D16 18 7), .int (D16 18 8), .int (D16 18 9), .int (D16 18 10), .int (D16 18 11), .int (D16 18 12), .int (D16 18 13), .int (D16 18 14)]))).2.1 = h0.2.1 := hs
            generalize ax_put hp_17 (nd + 18) (.inr (10, [.ref (nd + 10), .ref (nd + 19), .ref (nd + 21), .int 5, .int (D16 18 4), .int y15, .int (D16 18 6), .int (D16 18 7), .int (D16 18 8), .int (D16 18 9), .int (D16 18 10), .int (D16 18 11), .int (D16 18 12), .int (D16 18 13), .int (D16 18 14)])) = hp_18 at hF hf hN hn hs ⊢
            have hS9 : NS Z n nd nn gg C me f q u b uv h0 hp_18 (va_up D16 18 (upd (upd (D16 18) 3 5) 5 y15)) K16 A16 Y16 := ⟨hF, hN, hf, hn, hs, hp0, hu0⟩
            have hI9 : NI Z nn (va_up D16 18 (upd (upd (D16 18) 3 5) 5 y15)) := ⟨hI16.1, hI16.2.1, WI.tell rfl hI16.2.2.1.1 hI16.2.2.1.2.2.1 (hI16.2.2.1.2.2.2.1 (neq (sm3.trans h3) (by decide))) (fun _ => Or.inl c7) hI16.2.2.1.2.2.2.2.2.2.2, hI16.2.2.2⟩
            exact ar_ret d_93_254 rfl (⟨rfl, _, _, _, _, hS9, hI9, eq_ifT cc7 (eq_ifT cc8 (eq_ifF cc9 (bnI_eq hyE10 (eq_ifT cc12 (bnI_eq hyE13 (bnR_eq hE16 (eq_ifT c7 (rfl)))))))), trivial⟩)
          · have han2 := han c7
            obtain ⟨an1, ⟨sp, hsp1, e9, hsp2⟩, an3, an4, an5⟩ := han2
            refine ar_aload_n 211 d_93_210 rfl rfl ?_
            have hS1 : NS Z n nd nn gg C me f q u b uv h0 hp_17 (va_up D16 18 (upd (D16 18) 5 y15)) K16 A16 Y16 := ⟨hF, hN, hf, hn, hs, hp0, hu0⟩
            have hI1 : NI Z nn (va_up D16 18 (upd (D16 18) 5 y15)) := ⟨hI16.1, hI16.2.1, WI.wait (sm3.trans h3) hI16.2.2.1.1 hI16.2.2.1.2.2.1 (hI16.2.2.1.2.2.2.1 (neq (sm3.trans h3) (by decide))) hI16.2.2.1.2.2.2.2.2.2.2, hI16.2.2.2⟩
            refine ar_call (r := []) (na := 0) (kd := 0) (cm := 102) (fr2 := fr - 1) (lo2 := lo - 21) 214 d_93_211 (ar_hoV (as := []) rfl rfl rfl (hF.at 18 rfl)) rfl (by omega) (show lo - 21 + (19 + 2) = lo by omega) (Nat.le_of_ble_eq_true rfl) (Nat.le_of_ble_eq_true rfl) (s_102 (by omega) (by omega) hC0 hS1 hI1 (sm3.trans h3) (by show OKf (D16 11) (D16 18 7); rw [sm11, sm7]; exact hy10) (fun z => by
                have e8 := an4 z
                rcases (show OKf (D 11) y13 from hy13) with e | ⟨p, hp, e, _⟩
                · exact absurd (sm8.trans e) e8
                · exact ⟨p, hp, sm8.trans e⟩) ha11 ⟨sp, hsp1, e9, hsp2⟩) ?_
            intro v hp_19 hq
            obtain ⟨rfl, D19, K19, A19, Y19, hS2, hI2, hE19, hsm2, hans, tm9, tmQ, hspc⟩ := hq
            clear hS1 hI1 hF hN hf hn hs hp0 hu0
            obtain ⟨hF, hN, hf, hn, hs, hp0, hu0⟩ := hS2
            replace hF : ax_hs hp_19 [cNd n nd me D19, cDk nd D19, cAr nd 2 35840 D19, cAr nd 3 4096 D19, cAr nd 4 32 D19, cAr nd 5 280 D19, cAr nd 6 280 D19, cLd n nd me D19 A19, cAr nd 8 16 D19, cAr nd 9 280 D19, cTb nd gg D19 K19, cAr nd 11 48 D19, cAr nd 12 48 D19, cAr nd 13 48 D19, cAr nd 14 2400 D19, cAr nd 15 512 D19, cAr nd 16 961 D19, cAr nd 17 961 D19, cWk nd D19, cWa nd D19, cAr nd 20 612 D19, cAr nd 21 1152 D19, cRk n nn gg C, cOr n nn gg f] := hF
            have hI19 := hI2
            clear hI2
            obtain ⟨tm3, tm4, tm7, tm8, tm13, tm14, tm0, tm10, tm11, tm21⟩ := hsm2
            have hans2 : D19 18 5 = y15 := hans
            refine ar_aload_n 215 d_93_214 rfl rfl ?_
            refine ar_aload_n 216 d_93_215 rfl rfl ?_
            refine ar_getf 219 d_93_216 rfl (ci := 10) (k := 5) rfl (hF.at 18 rfl) rfl ?_
            refine ar_top (x' := y15) (hans2) ?_
            refine ar_if_lt 246 222 d_93_219 (by decide) rfl (fun c => absurd c (c7)) (fun _ => ?_)
            refine ar_aload_n 223 d_93_222 rfl rfl ?_
            refine ar_getf 226 d_93_223 rfl (ci := 10) (k := 1) rfl (hF.at 18 rfl) rfl ?_
            refine ar_getf 229 d_93_226 rfl (ci := 5) (k := 0) rfl (hF.at 19 rfl) rfl ?_
            refine ar_bipush 231 (v := 8) d_93_229 rfl (by decide) ?_
            refine ar_icmp_eq 246 234 d_93_231 (by decide) rfl (fun c8 => ?_) (fun c8 => ?_)
            · have hk8 : D19 19 0 = 8 := c8
              refine ar_iconst 247 (v := 5) d_93_246 rfl (by decide) ?_
              refine ar_goto 251 d_93_247 (by decide) ?_
              refine ar_putf 254 [.ref (nd + 10), .ref (nd + 19), .ref (nd + 21), .int 5, .int (D19 18 4), .int (D19 18 5), .int (D19 18 6), .int (D19 18 7), .int (D19 18 8), .int (D19 18 9), .int (D19 18 10), .int (D19 18 11), .int (D19 18 12), .int (D19 18 13), .int (D19 18 14)] d_93_251 rfl (ci := 10) (k := 3) rfl rfl (hF.at 18 rfl) (Nat.le_of_ble_eq_true rfl) rfl rfl rfl ?_
              replace hF : ax_hs (ax_put hp_19 (nd + 18) (.inr (10, [.ref (nd + 10), .ref (nd + 19), .ref (nd + 21), .int 5, .int (D19 18 4), .int (D19 18 5), .int (D19 18 6), .int (D19 18 7), .int (D19 18 8), .int (D19 18 9), .int (D19 18 10), .int (D19 18 11), .int (D19 18 12), .int (D19 18 13), .int (D19 18 14)]))) [cNd n nd me D19, cDk nd D19, cAr nd 2 35840 D19, cAr nd 3 4096 D19, cAr nd 4 32 D19, cAr nd 5 280 D19, cAr nd 6 280 D19, cLd n nd me D19 A19, cAr nd 8 16 D19, cAr nd 9 280 D19, cTb nd gg D19 K19, cAr nd 11 48 D19, cAr nd 12 48 D19, cAr nd 13 48 D19, cAr nd 14 2400 D19, cAr nd 15 512 D19, cAr nd 16 961 D19, cAr nd 17 961 D19, (nd + 18, .inr (10, [.ref (nd + 10), .ref (nd + 19), .ref (nd + 21), .int 5, .int (D19 18 4), .int (D19 18 5), .int (D19 18 6), .int (D19 18 7), .int (D19 18 8), .int (D19 18 9), .int (D19 18 10), .int (D19 18 11), .int (D19 18 12), .int (D19 18 13), .int (D19 18 14)])), cWa nd D19, cAr nd 20 612 D19, cAr nd 21 1152 D19, cRk n nn gg C, cOr n nn gg f] := hF.put 18 _ rfl rfl
              replace hf := hf.put (a := nd + 18) (c := .inr (10, [.ref (nd + 10), .ref (nd + 19), .ref (nd + 21), .int 5, .int (D19 18 4), .int (D19 18 5), .int (D19 18 6), .int (D19 18 7), .int (D19 18 8), .int (D19 18 9), .int (D19 18 10), .int (D19 18 11), .int (D19 18 12), .int (D19 18 13), .int (D19 18 14)])) (Or.inr (by omega))
              replace hN := hN.put (a := nd + 18) (c := .inr (10, [.ref (nd + 10), .ref (nd + 19), .ref (nd + 21), .int 5, .int (D19 18 4), .int (D19 18 5), .int (D19 18 6), .int (D19 18 7), .int (D19 18 8), .int (D19 18 9), .int (D19 18 10), .int (D19 18 11), .int (D19 18 12), .int (D19 18 13), .int (D19 18 14)])) (by omega)
              replace hn : (ax_put hp_19 (nd + 18) (.inr (10, [.ref (nd + 10), .ref (nd + 19), .ref (nd + 21), .int 5, .int (D19 18 4), .int (D19 18 5), .int (D19 18 6), .int (D19 18 7), .int (D19 18 8), .int (D19 18 9), .int (D19 18 10), .int (D19 18 11), .int (D19 18 12), .int (D19 18 13), .int (D19 18 14)]))).1 = h0.1 := hn
              replace hs : (ax_put hp_19 (nd + 18) (.inr (10, [.ref (nd + 10), .ref (nd + 19), .ref (nd + 21), .int 5, .int (D19 18 4), .int (D19 18 5), .int (D19 18 6), .int (D19 18 7), .int (D19 18 8), .int (D19 18 9), .int (D19 18 10), .int (D19 18 11), .int (D19 18 12), .int (D19 18 13), .int (D19 18 14)]))).2.1 = h0.2.1 := hs
              generalize ax_put hp_19 (nd + 18) (.inr (10, [.ref (nd + 10), .ref (nd + 19), .ref (nd + 21), .int 5, .int (D19 18 4), .int (D19 18 5), .int (D19 18 6), .int (D19 18 7), .int (D19 18 8), .int (D19 18 9), .int (D19 18 10), .int (D19 18 11), .int (D19 18 12), .int (D19 18 13), .int (D19 18 14)])) = hp_20 at hF hf hN hn hs ⊢
              have hS9 : NS Z n nd nn gg C me f q u b uv h0 hp_20 (va_up D19 18 (upd (D19 18) 3 5)) K19 A19 Y19 := ⟨hF, hN, hf, hn, hs, hp0, hu0⟩
              have hI9 : NI Z nn (va_up D19 18 (upd (D19 18) 3 5)) := ⟨hI19.1, hI19.2.1, WI.tell rfl hI19.2.2.1.1 hI19.2.2.1.2.2.1 (hI19.2.2.1.2.2.2.1 (neq ((show D19 18 3 = 1 from tm3.trans (sm3.trans h3))) (by decide))) (fun z => by
                  rcases z with z | z <;> exact absurd (hk8.symm.trans z) (by decide)) hI19.2.2.1.2.2.2.2.2.2.2, hI19.2.2.2⟩
              exact ar_ret d_93_254 rfl (⟨rfl, _, _, _, _, hS9, hI9, eq_ifT cc7 (eq_ifT cc8 (eq_ifF cc9 (bnI_eq hyE10 (eq_ifT cc12 (bnI_eq hyE13 (bnR_eq hE16 (eq_ifF c7 (bnS_eq hE19 (eq_ifT c8 (rfl)))))))))), trivial⟩)
            · refine ar_aload_n 235 d_93_234 rfl rfl ?_
              refine ar_getf 238 d_93_235 rfl (ci := 10) (k := 1) rfl (hF.at 18 rfl) rfl ?_
              refine ar_getf 241 d_93_238 rfl (ci := 5) (k := 0) rfl (hF.at 19 rfl) rfl ?_
              refine ar_bipush 243 (v := 9) d_93_241 rfl (by decide) ?_
              refine ar_icmp_ne 250 246 d_93_243 (by decide) rfl (fun c9 => ?_) (fun c9 => ?_)
              · refine ar_iconst 251 (v := 2) d_93_250 rfl (by decide) ?_
                refine ar_putf 254 [.ref (nd + 10), .ref (nd + 19), .ref (nd + 21), .int 2, .int (D19 18 4), .int (D19 18 5), .int (D19 18 6), .int (D19 18 7), .int (D19 18 8), .int (D19 18 9), .int (D19 18 10), .int (D19 18 11), .int (D19 18 12), .int (D19 18 13), .int (D19 18 14)] d_93_251 rfl (ci := 10) (k := 3) rfl rfl (hF.at 18 rfl) (Nat.le_of_ble_eq_true rfl) rfl rfl rfl ?_
                replace hF : ax_hs (ax_put hp_19 (nd + 18) (.inr (10, [.ref (nd + 10), .ref (nd + 19), .ref (nd + 21), .int 2, .int (D19 18 4), .int (D19 18 5), .int (D19 18 6), .int (D19 18 7), .int (D19 18 8), .int (D19 18 9), .int (D19 18 10), .int (D19 18 11), .int (D19 18 12), .int (D19 18 13), .int (D19 18 14)]))) [cNd n nd me D19, cDk nd D19, cAr nd 2 35840 D19, cAr nd 3 4096 D19, cAr nd 4 32 D19, cAr nd 5 280 D19, cAr nd 6 280 D19, cLd n nd me D19 A19, cAr nd 8 16 D19, cAr nd 9 280 D19, cTb nd gg D19 K19, cAr nd 11 48 D19, cAr nd 12 48 D19, cAr nd 13 48 D19, cAr nd 14 2400 D19, cAr nd 15 512 D19, cAr nd 16 961 D19, cAr nd 17 961 D19, (nd + 18, .inr (10, [.ref (nd + 10), .ref (nd + 19), .ref (nd + 21), .int 2, .int (D19 18 4), .int (D19 18 5), .int (D19 18 6), .int (D19 18 7), .int (D19 18 8), .int (D19 18 9), .int (D19 18 10), .int (D19 18 11), .int (D19 18 12), .int (D19 18 13), .int (D19 18 14)])), cWa nd D19, cAr nd 20 612 D19, cAr nd 21 1152 D19, cRk n nn gg C, cOr n nn gg f] := hF.put 18 _ rfl rfl
                replace hf := hf.put (a := nd + 18) (c := .inr (10, [.ref (nd + 10), .ref (nd + 19), .ref (nd + 21), .int 2, .int (D19 18 4), .int (D19 18 5), .int (D19 18 6), .int (D19 18 7), .int (D19 18 8), .int (D19 18 9), .int (D19 18 10), .int (D19 18 11), .int (D19 18 12), .int (D19 18 13), .int (D19 18 14)])) (Or.inr (by omega))
                replace hN := hN.put (a := nd + 18) (c := .inr (10, [.ref (nd + 10), .ref (nd + 19), .ref (nd + 21), .int 2, .int (D19 18 4), .int (D19 18 5), .int (D19 18 6), .int (D19 18 7), .int (D19 18 8), .int (D19 18 9), .int (D19 18 10), .int (D19 18 11), .int (D19 18 12), .int (D19 18 13), .int (D19 18 14)])) (by omega)
                replace hn : (ax_put hp_19 (nd + 18) (.inr (10, [.ref (nd + 10), .ref (nd + 19), .ref (nd + 21), .int 2, .int (D19 18 4), .int (D19 18 5), .int (D19 18 6), .int (D19 18 7), .int (D19 18 8), .int (D19 18 9), .int (D19 18 10), .int (D19 18 11), .int (D19 18 12), .int (D19 18 13), .int (D19 18 14)]))).1 = h0.1 := hn
                replace hs : (ax_put hp_19 (nd + 18) (.inr (10, [.ref (nd + 10), .ref (nd + 19), .ref (nd + 21), .int 2, .int (D19 18 4), .int (D19 18 5), .int (D19 18 6), .int (D19 18 7), .int (D19 18 8), .int (D19 18 9), .int (D19 18 10), .int (D19 18 11), .int (D19 18 12), .int (D19 18 13), .int (D19 18 14)]))).2.1 = h0.2.1 := hs
                generalize ax_put hp_19 (nd + 18) (.inr (10, [.ref (nd + 10), .ref (nd + 19), .ref (nd + 21), .int 2, .int (D19 18 4), .int (D19 18 5), .int (D19 18 6), .int (D19 18 7), .int (D19 18 8), .int (D19 18 9), .int (D19 18 10), .int (D19 18 11), .int (D19 18 12), .int (D19 18 13), .int (D19 18 14)])) = hp_21 at hF hf hN hn hs ⊢
                have hq0 : D19 19 0 = D16 19 0 := tm0
                have an1b := (an1.resolve_left (fun z => c8 (hq0.trans z))).resolve_left (fun z => c9 (hq0.trans z))
                have f7 : D19 18 7 = y10 := tm7.trans sm7
                have f8 : D19 18 8 = y13 := tm8.trans sm8
                have f11 : D19 11 = D 11 := tm11.trans sm11
                have f10 : D19 10 9 = D16 10 9 := congrFun tm10 9
                have f21 : D19 21 = ax_fill (D 21) 0 1152 0 := tm21.trans sm21
                have f13 : D19 18 13 = -1 := tm13.trans sm13
                have f14 : D19 18 14 = -1 := tm14.trans sm14
                have hFC : FC (D19 10 9) (D19 11) (D19 18) (D19 19) := by
                    refine ⟨?_, ?_, fun z => ?_, ?_, hspc, fun z => ?_, fun z => ?_, fun z => ?_, f13, f14⟩
                    · rcases (show OKf (D 11) y10 from hy10) with e | ⟨p, hp, e, hj⟩
                      · refine Or.inl ⟨f7.trans e, ?_, ?_⟩
                        · have h1 := (an1b.1 (sm7.trans e)).1
                          rw [hq0]
                          exact h1
                        · rw [f10]
                          exact (an1b.1 (sm7.trans e)).2
                      · exact Or.inr ⟨p, hp, f7.trans e, by rw [f11]; exact hj⟩
                    · rcases (show OKf (D 11) y13 from hy13) with e | ⟨p, hp, e, hj⟩
                      · exact Or.inl (f8.trans e)
                      · exact Or.inr ⟨p, hp, f8.trans e, by rw [f11]; exact hj⟩
                    · have h1 := an1b.2.1 (hq0.symm.trans z)
                      exact fun e => h1 (tm8.symm.trans e)
                    · rcases in10 hI19.2.2.1.1.1 with e | e | e | e | e | e | e | e | e | e
                      · exact ⟨0, by decide, e⟩
                      · exact ⟨1, by decide, e⟩
                      · exact ⟨2, by decide, e⟩
                      · exact ⟨3, by decide, e⟩
                      · exact ⟨4, by decide, e⟩
                      · exact ⟨5, by decide, e⟩
                      · exact ⟨6, by decide, e⟩
                      · exact ⟨7, by decide, e⟩
                      · exact absurd e c8
                      · exact absurd e c9
                    · obtain ⟨s, c, s1, s2, s3, s4, s5⟩ := hspc
                      have h1 := an1b.2.2 (hq0.symm.trans z)
                      have h2 : D19 18 9 = D16 18 9 := tm9
                      rw [h2, h1] at s2
                      have h3 : s = 0 := (nI_inj (by decide) (by omega) s2).symm
                      rw [s3, s4 h3]
                      rfl
                    · have h1 := an3 (hq0.symm.trans z)
                      rw [tmQ]
                      exact h1
                    · rw [show D19 18 5 = y15 from hans]
                      exact an5 (Or.inl (hq0.symm.trans z))
                have hS9 : NS Z n nd nn gg C me f q u b uv h0 hp_21 (va_up D19 18 (upd (D19 18) 3 2)) K19 A19 Y19 := ⟨hF, hN, hf, hn, hs, hp0, hu0⟩
                have hI9 : NI Z nn (va_up D19 18 (upd (D19 18) 3 2)) := ⟨hI19.1, hI19.2.1, WI.fetch rfl hI19.2.2.1.1 hI19.2.2.1.2.2.1 (hI19.2.2.1.2.2.2.1 (neq ((show D19 18 3 = 1 from tm3.trans (sm3.trans h3))) (by decide))) hFC (fun i hi z => absurd (show D19 21 (i * 128) = 0 by rw [f21]; exact hz0 i hi) z), hI19.2.2.2⟩
                exact ar_ret d_93_254 rfl (⟨rfl, _, _, _, _, hS9, hI9, eq_ifT cc7 (eq_ifT cc8 (eq_ifF cc9 (bnI_eq hyE10 (eq_ifT cc12 (bnI_eq hyE13 (bnR_eq hE16 (eq_ifF c7 (bnS_eq hE19 (eq_ifF c8 (eq_ifT c9 (rfl))))))))))), trivial⟩)
              · have hk9 : D19 19 0 = 9 := Decidable.not_not.mp c9
                refine ar_iconst 247 (v := 5) d_93_246 rfl (by decide) ?_
                refine ar_goto 251 d_93_247 (by decide) ?_
                refine ar_putf 254 [.ref (nd + 10), .ref (nd + 19), .ref (nd + 21), .int 5, .int (D19 18 4), .int (D19 18 5), .int (D19 18 6), .int (D19 18 7), .int (D19 18 8), .int (D19 18 9), .int (D19 18 10), .int (D19 18 11), .int (D19 18 12), .int (D19 18 13), .int (D19 18 14)] d_93_251 rfl (ci := 10) (k := 3) rfl rfl (hF.at 18 rfl) (Nat.le_of_ble_eq_true rfl) rfl rfl rfl ?_
                replace hF : ax_hs (ax_put hp_19 (nd + 18) (.inr (10, [.ref (nd + 10), .ref (nd + 19), .ref (nd + 21), .int 5, .int (D19 18 4), .int (D19 18 5), .int (D19 18 6), .int (D19 18 7), .int (D19 18 8), .int (D19 18 9), .int (D19 18 10), .int (D19 18 11), .int (D19 18 12), .int (D19 18 13), .int (D19 18 14)]))) [cNd n nd me D19, cDk nd D19, cAr nd 2 35840 D19, cAr nd 3 4096 D19, cAr nd 4 32 D19, cAr nd 5 280 D19, cAr nd 6 280 D19, cLd n nd me D19 A19, cAr nd 8 16 D19, cAr nd 9 280 D19, cTb nd gg D19 K19, cAr nd 11 48 D19, cAr nd 12 48 D19, cAr nd 13 48 D19, cAr nd 14 2400 D19, cAr nd 15 512 D19, cAr nd 16 961 D19, cAr nd 17 961 D19, (nd + 18, .inr (10, [.ref (nd + 10), .ref (nd + 19), .ref (nd + 21), .int 5, .int (D19 18 4), .int (D19 18 5), .int (D19 18 6), .int (D19 18 7), .int (D19 18 8), .int (D19 18 9), .int (D19 18 10), .int (D19 18 11), .int (D19 18 12), .int (D19 18 13), .int (D19 18 14)])), cWa nd D19, cAr nd 20 612 D19, cAr nd 21 1152 D19, cRk n nn gg C, cOr n nn gg f] := hF.put 18 _ rfl rfl
                replace hf := hf.put (a := nd + 18) (c := .inr (10, [.ref (nd + 10), .ref (nd + 19), .ref (nd + 21), .int 5, .int (D19 18 4), .int (D19 18 5), .int (D19 18 6), .int (D19 18 7), .int (D19 18 8), .int (D19 18 9), .int (D19 18 10), .int (D19 18 11), .int (D19 18 12), .int (D19 18 13), .int (D19 18 14)])) (Or.inr (by omega))
                replace hN := hN.put (a := nd + 18) (c := .inr (10, [.ref (nd + 10), .ref (nd + 19), .ref (nd + 21), .int 5, .int (D19 18 4), .int (D19 18 5), .int (D19 18 6), .int (D19 18 7), .int (D19 18 8), .int (D19 18 9), .int (D19 18 10), .int (D19 18 11), .int (D19 18 12), .int (D19 18 13), .int (D19 18 14)])) (by omega)
                replace hn : (ax_put hp_19 (nd + 18) (.inr (10, [.ref (nd + 10), .ref (nd + 19), .ref (nd + 21), .int 5, .int (D19 18 4), .int (D19 18 5), .int (D19 18 6), .int (D19 18 7), .int (D19 18 8), .int (D19 18 9), .int (D19 18 10), .int (D19 18 11), .int (D19 18 12), .int (D19 18 13), .int (D19 18 14)]))).1 = h0.1 := hn
                replace hs : (ax_put hp_19 (nd + 18) (.inr (10, [.ref (nd + 10), .ref (nd + 19), .ref (nd + 21), .int 5, .int (D19 18 4), .int (D19 18 5), .int (D19 18 6), .int (D19 18 7), .int (D19 18 8), .int (D19 18 9), .int (D19 18 10), .int (D19 18 11), .int (D19 18 12), .int (D19 18 13), .int (D19 18 14)]))).2.1 = h0.2.1 := hs
                generalize ax_put hp_19 (nd + 18) (.inr (10, [.ref (nd + 10), .ref (nd + 19), .ref (nd + 21), .int 5, .int (D19 18 4), .int (D19 18 5), .int (D19 18 6), .int (D19 18 7), .int (D19 18 8), .int (D19 18 9), .int (D19 18 10), .int (D19 18 11), .int (D19 18 12), .int (D19 18 13), .int (D19 18 14)])) = hp_22 at hF hf hN hn hs ⊢
                have hS9 : NS Z n nd nn gg C me f q u b uv h0 hp_22 (va_up D19 18 (upd (D19 18) 3 5)) K19 A19 Y19 := ⟨hF, hN, hf, hn, hs, hp0, hu0⟩
                have hI9 : NI Z nn (va_up D19 18 (upd (D19 18) 3 5)) := ⟨hI19.1, hI19.2.1, WI.tell rfl hI19.2.2.1.1 hI19.2.2.1.2.2.1 (hI19.2.2.1.2.2.2.1 (neq ((show D19 18 3 = 1 from tm3.trans (sm3.trans h3))) (by decide))) (fun _ => Or.inr (show inR 2049 (D19 18 5) by rw [show D19 18 5 = y15 from hans]; exact an5 (Or.inr (tm0.symm.trans hk9)))) hI19.2.2.1.2.2.2.2.2.2.2, hI19.2.2.2⟩
                exact ar_ret d_93_254 rfl (⟨rfl, _, _, _, _, hS9, hI9, eq_ifT cc7 (eq_ifT cc8 (eq_ifF cc9 (bnI_eq hyE10 (eq_ifT cc12 (bnI_eq hyE13 (bnR_eq hE16 (eq_ifF c7 (bnS_eq hE19 (eq_ifF c8 (eq_ifF c9 (rfl))))))))))), trivial⟩)
        · refine ar_aload_n 136 d_93_135 rfl rfl ?_
          refine ar_getf 139 d_93_136 rfl (ci := 10) (k := 0) rfl (hF.at 18 rfl) rfl ?_
          refine ar_aload_n 140 d_93_139 rfl rfl ?_
          refine ar_getf 143 d_93_140 rfl (ci := 10) (k := 1) rfl (hF.at 18 rfl) rfl ?_
          refine ar_getf 146 d_93_143 rfl (ci := 5) (k := 7) rfl (hF.at 19 rfl) rfl ?_
          refine ar_aload_n 147 d_93_146 rfl rfl ?_
          refine ar_getf 150 d_93_147 rfl (ci := 10) (k := 1) rfl (hF.at 18 rfl) rfl ?_
          refine ar_getf 153 d_93_150 rfl (ci := 5) (k := 3) rfl (hF.at 19 rfl) rfl ?_
          refine ar_call (r := [.ref (nd + 18)]) (na := 0) (kd := 0) (cm := 97) (fr2 := fr - 1) (lo2 := lo - 25) 156 d_93_153 (ar_hoV (as := [.ref (nd + 20), .int (D 19 3)]) rfl rfl rfl (hF.at 10 rfl)) rfl (by omega) (show lo - 25 + (19 + 6) = lo by omega) (Nat.le_of_ble_eq_true rfl) (Nat.le_of_ble_eq_true rfl) (c_97E (by omega) (by omega) (by omega) (by omega) (hF.at 10 rfl) (hF.at 11 rfl) (hF.at 13 rfl) (hF.at 14 rfl) (hF.at 20 rfl)) ?_
          intro v hh hq
          obtain ⟨y23, rfl, hyE23, hy23, ehh⟩ := hq
          rw [ehh]
          clear ehh
          refine ar_goto 182 d_93_156 (by decide) ?_
          refine ar_putf 185 [.ref (nd + 10), .ref (nd + 19), .ref (nd + 21), .int (D 18 3), .int (D 18 4), .int (D 18 5), .int (D 18 6), .int y10, .int y23, .int 0, .int (D 18 10), .int 0, .int 0, .int (-1), .int (-1)] d_93_182 rfl (ci := 10) (k := 8) rfl rfl (hF.at 18 rfl) (Nat.le_of_ble_eq_true rfl) rfl rfl rfl ?_
          replace hF : ax_hs (ax_put hp_11 (nd + 18) (.inr (10, [.ref (nd + 10), .ref (nd + 19), .ref (nd + 21), .int (D 18 3), .int (D 18 4), .int (D 18 5), .int (D 18 6), .int y10, .int y23, .int 0, .int (D 18 10), .int 0, .int 0, .int (-1), .int (-1)]))) [cNd n nd me D, cDk nd D, cAr nd 2 35840 D, cAr nd 3 4096 D, cAr nd 4 32 D, cAr nd 5 280 D, cAr nd 6 280 D, cLd n nd me D A, cAr nd 8 16 D, cAr nd 9 280 D, cTb nd gg D K, cAr nd 11 48 D, cAr nd 12 48 D, cAr nd 13 48 D, cAr nd 14 2400 D, cAr nd 15 512 D, cAr nd 16 961 D, cAr nd 17 961 D, (nd + 18, .inr (10, [.ref (nd + 10), .ref (nd + 19), .ref (nd + 21), .int (D 18 3), .int (D 18 4), .int (D 18 5), .int (D 18 6), .int y10, .int y23, .int 0, .int (D 18 10), .int 0, .int 0, .int (-1), .int (-1)])), cWa nd D, cAr nd 20 612 D, (nd + 21, .inl (0, 1152, .inl (ax_fill (D 21) 0 1152 0))), cRk n nn gg C, cOr n nn gg f] := hF.put 18 _ rfl rfl
          replace hf := hf.put (a := nd + 18) (c := .inr (10, [.ref (nd + 10), .ref (nd + 19), .ref (nd + 21), .int (D 18 3), .int (D 18 4), .int (D 18 5), .int (D 18 6), .int y10, .int y23, .int 0, .int (D 18 10), .int 0, .int 0, .int (-1), .int (-1)])) (Or.inr (by omega))
          replace hN := hN.put (a := nd + 18) (c := .inr (10, [.ref (nd + 10), .ref (nd + 19), .ref (nd + 21), .int (D 18 3), .int (D 18 4), .int (D 18 5), .int (D 18 6), .int y10, .int y23, .int 0, .int (D 18 10), .int 0, .int 0, .int (-1), .int (-1)])) (by omega)
          replace hn : (ax_put hp_11 (nd + 18) (.inr (10, [.ref (nd + 10), .ref (nd + 19), .ref (nd + 21), .int (D 18 3), .int (D 18 4), .int (D 18 5), .int (D 18 6), .int y10, .int y23, .int 0, .int (D 18 10), .int 0, .int 0, .int (-1), .int (-1)]))).1 = h0.1 := hn
          replace hs : (ax_put hp_11 (nd + 18) (.inr (10, [.ref (nd + 10), .ref (nd + 19), .ref (nd + 21), .int (D 18 3), .int (D 18 4), .int (D 18 5), .int (D 18 6), .int y10, .int y23, .int 0, .int (D 18 10), .int 0, .int 0, .int (-1), .int (-1)]))).2.1 = h0.2.1 := hs
          generalize ax_put hp_11 (nd + 18) (.inr (10, [.ref (nd + 10), .ref (nd + 19), .ref (nd + 21), .int (D 18 3), .int (D 18 4), .int (D 18 5), .int (D 18 6), .int y10, .int y23, .int 0, .int (D 18 10), .int 0, .int 0, .int (-1), .int (-1)])) = hp_24 at hF hf hN hn hs ⊢
          refine ar_aload_n 186 d_93_185 rfl rfl ?_
          refine ar_aload_n 187 d_93_186 rfl rfl ?_
          refine ar_ldc 189 d_93_187 rfl (v := 32768) rfl ?_
          refine ar_aload_n 190 d_93_189 rfl rfl ?_
          refine ar_getf 193 d_93_190 rfl (ci := 10) (k := 0) rfl (hF.at 18 rfl) rfl ?_
          refine ar_call (r := [.int 32768, .ref (nd + 18), .ref (nd + 18)]) (na := 0) (kd := 0) (cm := 98) (fr2 := fr - 1) (lo2 := lo - 22) 196 d_93_193 (ar_hoV (as := []) rfl rfl rfl (hF.at 10 rfl)) rfl (by omega) (show lo - 22 + (19 + 3) = lo by omega) (Nat.le_of_ble_eq_true rfl) (Nat.le_of_ble_eq_true rfl) (c_98 (hF.at 10 rfl) (hF.at 12 rfl)) ?_
          intro v hh hq
          obtain ⟨rfl, ehh⟩ := hq
          rw [ehh]
          clear ehh
          refine ar_isub 197 d_93_196 rfl ?_
          have hz0 : ∀ i, i < 9 → ax_fill (D 21) 0 1152 0 (i * 128) = 0 := fun i hi => if_pos ⟨by omega, by omega⟩
          have hzB : ∀ i, i < 9 → ¬ ax_fill (D 21) 0 1152 0 (i * 128) = 0 → gd Z (ax_fill (D 21) 0 1152 0) (i * 128) := fun i hi z => absurd (hz0 i hi) z
          have hS1 : NS Z n nd nn gg C me f q u b uv h0 hp_24 (va_up (va_up D 18 (upd (upd (upd (upd (upd (upd (upd (D 18) 7 y10) 8 y23) 9 0) 11 0) 12 0) 13 (-1)) 14 (-1))) 21 (ax_fill (D 21) 0 1152 0)) K A Y := ⟨hF, hN, hf, hn, hs, hp0, hu0⟩
          have hI1 : NI Z nn (va_up (va_up D 18 (upd (upd (upd (upd (upd (upd (upd (D 18) 7 y10) 8 y23) 9 0) 11 0) 12 0) 13 (-1)) 14 (-1))) 21 (ax_fill (D 21) 0 1152 0)) := ⟨hI.1, hI.2.1, WI.wait h3 hA ⟨0, by decide, rfl⟩ hop hzB, hI.2.2.2⟩
          refine ar_call (r := [.ref (nd + 18)]) (na := 0) (kd := 0) (cm := 99) (fr2 := fr - 1) (lo2 := lo - 22) 200 d_93_197 (ar_hoV (as := [.int (32768 - (totS (D 12) 48 0 0))]) rfl rfl rfl (hF.at 18 rfl)) rfl (by omega) (show lo - 22 + (19 + 3) = lo by omega) (Nat.le_of_ble_eq_true rfl) (Nat.le_of_ble_eq_true rfl) (s_99 (by omega) (by omega) hC0 hS1 hI1 h3 hy10 hy23 rfl) ?_
          intro v hp_26 hq
          obtain ⟨y25, rfl, D26, K26, A26, Y26, hS2, hI2, hE26, hsm, ha11, han⟩ := hq
          clear hS1 hI1 hF hN hf hn hs hp0 hu0
          obtain ⟨hF, hN, hf, hn, hs, hp0, hu0⟩ := hS2
          replace hF : ax_hs hp_26 [cNd n nd me D26, cDk nd D26, cAr nd 2 35840 D26, cAr nd 3 4096 D26, cAr nd 4 32 D26, cAr nd 5 280 D26, cAr nd 6 280 D26, cLd n nd me D26 A26, cAr nd 8 16 D26, cAr nd 9 280 D26, cTb nd gg D26 K26, cAr nd 11 48 D26, cAr nd 12 48 D26, cAr nd 13 48 D26, cAr nd 14 2400 D26, cAr nd 15 512 D26, cAr nd 16 961 D26, cAr nd 17 961 D26, cWk nd D26, cWa nd D26, cAr nd 20 612 D26, cAr nd 21 1152 D26, cRk n nn gg C, cOr n nn gg f] := hF
          have hI26 := hI2
          clear hI2
          obtain ⟨sm3, sm4, sm7, sm8, sm13, sm14, sm0, sm10, sm11, sm21⟩ := hsm
          refine ar_putf 203 [.ref (nd + 10), .ref (nd + 19), .ref (nd + 21), .int (D26 18 3), .int (D26 18 4), .int y25, .int (D26 18 6), .int (D26 18 7), .int (D26 18 8), .int (D26 18 9), .int (D26 18 10), .int (D26 18 11), .int (D26 18 12), .int (D26 18 13), .int (D26 18 14)] d_93_200 rfl (ci := 10) (k := 5) rfl rfl (hF.at 18 rfl) (Nat.le_of_ble_eq_true rfl) rfl rfl rfl ?_
          replace hF : ax_hs (ax_put hp_26 (nd + 18) (.inr (10, [.ref (nd + 10), .ref (nd + 19), .ref (nd + 21), .int (D26 18 3), .int (D26 18 4), .int y25, .int (D26 18 6), .int (D26 18 7), .int (D26 18 8), .int (D26 18 9), .int (D26 18 10), .int (D26 18 11), .int (D26 18 12), .int (D26 18 13), .int (D26 18 14)]))) [cNd n nd me D26, cDk nd D26, cAr nd 2 35840 D26, cAr nd 3 4096 D26, cAr nd 4 32 D26, cAr nd 5 280 D26, cAr nd 6 280 D26, cLd n nd me D26 A26, cAr nd 8 16 D26, cAr nd 9 280 D26, cTb nd gg D26 K26, cAr nd 11 48 D26, cAr nd 12 48 D26, cAr nd 13 48 D26, cAr nd 14 2400 D26, cAr nd 15 512 D26, cAr nd 16 961 D26, cAr nd 17 961 D26, (nd + 18, .inr (10, [.ref (nd + 10), .ref (nd + 19), .ref (nd + 21), .int (D26 18 3), .int (D26 18 4), .int y25, .int (D26 18 6), .int (D26 18 7), .int (D26 18 8), .int (D26 18 9), .int (D26 18 10), .int (D26 18 11), .int (D26 18 12), .int (D26 18 13), .int (D26 18 14)])), cWa nd D26, cAr nd 20 612 D26, cAr nd 21 1152 D26, cRk n nn gg C, cOr n nn gg f] := hF.put 18 _ rfl rfl
          replace hf := hf.put (a := nd + 18) (c := .inr (10, [.ref (nd + 10), .ref (nd + 19), .ref (nd + 21), .int (D26 18 3), .int (D26 18 4), .int y25, .int (D26 18 6), .int (D26 18 7), .int (D26 18 8), .int (D26 18 9), .int (D26 18 10), .int (D26 18 11), .int (D26 18 12), .int (D26 18 13), .int (D26 18 14)])) (Or.inr (by omega))
          replace hN := hN.put (a := nd + 18) (c := .inr (10, [.ref (nd + 10), .ref (nd + 19), .ref (nd + 21), .int (D26 18 3), .int (D26 18 4), .int y25, .int (D26 18 6), .int (D26 18 7), .int (D26 18 8), .int (D26 18 9), .int (D26 18 10), .int (D26 18 11), .int (D26 18 12), .int (D26 18 13), .int (D26 18 14)])) (by omega)
          replace hn : (ax_put hp_26 (nd + 18) (.inr (10, [.ref (nd + 10), .ref (nd + 19), .ref (nd + 21), .int (D26 18 3), .int (D26 18 4), .int y25, .int (D26 18 6), .int (D26 18 7), .int (D26 18 8), .int (D26 18 9), .int (D26 18 10), .int (D26 18 11), .int (D26 18 12), .int (D26 18 13), .int (D26 18 14)]))).1 = h0.1 := hn
          replace hs : (ax_put hp_26 (nd + 18) (.inr (10, [.ref (nd + 10), .ref (nd + 19), .ref (nd + 21), .int (D26 18 3), .int (D26 18 4), .int y25, .int (D26 18 6), .int (D26 18 7), .int (D26 18 8), .int (D26 18 9), .int (D26 18 10), .int (D26 18 11), .int (D26 18 12), .int (D26 18 13), .int (D26 18 14)]))).2.1 = h0.2.1 := hs
          generalize ax_put hp_26 (nd + 18) (.inr (10, [.ref (nd + 10), .ref (nd + 19), .ref (nd + 21), .int (D26 18 3), .int (D26 18 4), .int y25, .int (D26 18 6), .int (D26 18 7), .int (D26 18 8), .int (D26 18 9), .int (D26 18 10), .int (D26 18 11), .int (D26 18 12), .int (D26 18 13), .int (D26 18 14)])) = hp_27 at hF hf hN hn hs ⊢
          refine ar_aload_n 204 d_93_203 rfl rfl ?_
          refine ar_getf 207 d_93_204 rfl (ci := 10) (k := 5) rfl (hF.at 18 rfl) rfl ?_
          refine ar_if_lt 214 210 d_93_207 (by decide) rfl (fun c7 => ?_) (fun c7 => ?_)
          · have c7 := c7
            refine ar_aload_n 215 d_93_214 rfl rfl ?_
            refine ar_aload_n 216 d_93_215 rfl rfl ?_
            refine ar_getf 219 d_93_216 rfl (ci := 10) (k := 5) rfl (hF.at 18 rfl) rfl ?_
            refine ar_if_lt 246 222 d_93_219 (by decide) rfl (fun _ => ?_) (fun c => absurd (c7) c)
            refine ar_iconst 247 (v := 5) d_93_246 rfl (by decide) ?_
            refine ar_goto 251 d_93_247 (by decide) ?_
            refine ar_putf 254 [.ref (nd + 10), .ref (nd + 19), .ref (nd + 21), .int 5, .int (D26 18 4), .int y25, .int (D26 18 6), .int (D26 18 7), .int (D26 18 8), .int (D26 18 9), .int (D26 18 10), .int (D26 18 11), .int (D26 18 12), .int (D26 18 13), .int (D26 18 14)] d_93_251 rfl (ci := 10) (k := 3) rfl rfl (hF.at 18 rfl) (Nat.le_of_ble_eq_true rfl) rfl rfl rfl ?_
            replace hF : ax_hs (ax_put hp_27 (nd + 18) (.inr (10, [.ref (nd + 10), .ref (nd + 19), .ref (nd + 21), .int 5, .int (D26 18 4), .int y25, .int (D26 18 6), .int (D26 18 7), .int (D26 18 8), .int (D26 18 9), .int (D26 18 10), .int (D26 18 11), .int (D26 18 12), .int (D26 18 13), .int (D26 18 14)]))) [cNd n nd me D26, cDk nd D26, cAr nd 2 35840 D26, cAr nd 3 4096 D26, cAr nd 4 32 D26, cAr nd 5 280 D26, cAr nd 6 280 D26, cLd n nd me D26 A26, cAr nd 8 16 D26, cAr nd 9 280 D26, cTb nd gg D26 K26, cAr nd 11 48 D26, cAr nd 12 48 D26, cAr nd 13 48 D26, cAr nd 14 2400 D26, cAr nd 15 512 D26, cAr nd 16 961 D26, cAr nd 17 961 D26, (nd + 18, .inr (10, [.ref (nd + 10), .ref (nd + 19), .ref (nd + 21), .int 5, .int (D26 18 4), .int y25, .int (D26 18 6), .int (D26 18 7), .int (D26 18 8), .int (D26 18 9), .int (D26 18 10), .int (D26 18 11), .int (D26 18 12), .int (D26 18 13), .int (D26 18 14)])), cWa nd D26, cAr nd 20 612 D26, cAr nd 21 1152 D26, cRk n nn gg C, cOr n nn gg f] := hF.put 18 _ rfl rfl
            replace hf := hf.put (a := nd + 18) (c := .inr (10, [.ref (nd + 10), .ref (nd + 19), .ref (nd + 21), .int 5, .int (D26 18 4), .int y25, .int (D26 18 6), .int (D26 18 7), .int (D26 18 8), .int (D26 18 9), .int (D26 18 10), .int (D26 18 11), .int (D26 18 12), .int (D26 18 13), .int (D26 18 14)])) (Or.inr (by omega))
            replace hN := hN.put (a := nd + 18) (c := .inr (10, [.ref (nd + 10), .ref (nd + 19), .ref (nd + 21), .int 5, .int (D26 18 4), .int y25, .int (D26 18 6), .int (D26 18 7), .int (D26 18 8), .int (D26 18 9), .int (D26 18 10), .int (D26 18 11), .int (D26 18 12), .int (D26 18 13), .int (D26 18 14)])) (by omega)
            replace hn : (ax_put hp_27 (nd + 18) (.inr (10, [.ref (nd + 10), .ref (nd + 19), .ref (nd + 21), .int 5, .int (D26 18 4), .int y25, .int (D26 18 6), .int (D26 18 7), .int (D26 18 8), .int (D26 18 9), .int (D26 18 10), .int (D26 18 11), .int (D26 18 12), .int (D26 18 13), .int (D26 18 14)]))).1 = h0.1 := hn
            replace hs : (ax_put hp_27 (nd + 18) (.inr (10, [.ref (nd + 10), .ref (nd + 19), .ref (nd + 21), .int 5, .int (D26 18 4), .int y25, .int (D26 18 6), .int (D26 18 7), .int (D26 18 8), .int (D26 18 9), .int (D26 18 10), .int (D26 18 11), .int (D26 18 12), .int (D26 18 13), .int (D26 18 14)]))).2.1 = h0.2.1 := hs
            generalize ax_put hp_27 (nd + 18) (.inr (10, [.ref (nd + 10), .ref (nd + 19), .ref (nd + 21), .int 5, .int (D26 18 4), .int y25, .int (D26 18 6), .int (D26 18 7), .int (D26 18 8), .int (D26 18 9), .int (D26 18 10), .int (D26 18 11), .int (D26 18 12), .int (D26 18 13), .int (D26 18 14)])) = hp_28 at hF hf hN hn hs ⊢
            have hS9 : NS Z n nd nn gg C me f q u b uv h0 hp_28 (va_up D26 18 (upd (upd (D26 18) 3 5) 5 y25)) K26 A26 Y26 := ⟨hF, hN, hf, hn, hs, hp0, hu0⟩
            have hI9 : NI Z nn (va_up D26 18 (upd (upd (D26 18) 3 5) 5 y25)) := ⟨hI26.1, hI26.2.1, WI.tell rfl hI26.2.2.1.1 hI26.2.2.1.2.2.1 (hI26.2.2.1.2.2.2.1 (neq (sm3.trans h3) (by decide))) (fun _ => Or.inl c7) hI26.2.2.1.2.2.2.2.2.2.2, hI26.2.2.2⟩
            exact ar_ret d_93_254 rfl (⟨rfl, _, _, _, _, hS9, hI9, eq_ifT cc7 (eq_ifT cc8 (eq_ifF cc9 (bnI_eq hyE10 (eq_ifF cc12 (bnI_eq hyE23 (bnR_eq hE26 (eq_ifT c7 (rfl)))))))), trivial⟩)
          · have han2 := han c7
            obtain ⟨an1, ⟨sp, hsp1, e9, hsp2⟩, an3, an4, an5⟩ := han2
            refine ar_aload_n 211 d_93_210 rfl rfl ?_
            have hS1 : NS Z n nd nn gg C me f q u b uv h0 hp_27 (va_up D26 18 (upd (D26 18) 5 y25)) K26 A26 Y26 := ⟨hF, hN, hf, hn, hs, hp0, hu0⟩
            have hI1 : NI Z nn (va_up D26 18 (upd (D26 18) 5 y25)) := ⟨hI26.1, hI26.2.1, WI.wait (sm3.trans h3) hI26.2.2.1.1 hI26.2.2.1.2.2.1 (hI26.2.2.1.2.2.2.1 (neq (sm3.trans h3) (by decide))) hI26.2.2.1.2.2.2.2.2.2.2, hI26.2.2.2⟩
            refine ar_call (r := []) (na := 0) (kd := 0) (cm := 102) (fr2 := fr - 1) (lo2 := lo - 21) 214 d_93_211 (ar_hoV (as := []) rfl rfl rfl (hF.at 18 rfl)) rfl (by omega) (show lo - 21 + (19 + 2) = lo by omega) (Nat.le_of_ble_eq_true rfl) (Nat.le_of_ble_eq_true rfl) (s_102 (by omega) (by omega) hC0 hS1 hI1 (sm3.trans h3) (by show OKf (D26 11) (D26 18 7); rw [sm11, sm7]; exact hy10) (fun z => by
                have e8 := an4 z
                rcases (show OKf (D 11) y23 from hy23) with e | ⟨p, hp, e, _⟩
                · exact absurd (sm8.trans e) e8
                · exact ⟨p, hp, sm8.trans e⟩) ha11 ⟨sp, hsp1, e9, hsp2⟩) ?_
            intro v hp_29 hq
            obtain ⟨rfl, D29, K29, A29, Y29, hS2, hI2, hE29, hsm2, hans, tm9, tmQ, hspc⟩ := hq
            clear hS1 hI1 hF hN hf hn hs hp0 hu0
            obtain ⟨hF, hN, hf, hn, hs, hp0, hu0⟩ := hS2
            replace hF : ax_hs hp_29 [cNd n nd me D29, cDk nd D29, cAr nd 2 35840 D29, cAr nd 3 4096 D29, cAr nd 4 32 D29, cAr nd 5 280 D29, cAr nd 6 280 D29, cLd n nd me D29 A29, cAr nd 8 16 D29, cAr nd 9 280 D29, cTb nd gg D29 K29, cAr nd 11 48 D29, cAr nd 12 48 D29, cAr nd 13 48 D29, cAr nd 14 2400 D29, cAr nd 15 512 D29, cAr nd 16 961 D29, cAr nd 17 961 D29, cWk nd D29, cWa nd D29, cAr nd 20 612 D29, cAr nd 21 1152 D29, cRk n nn gg C, cOr n nn gg f] := hF
            have hI29 := hI2
            clear hI2
            obtain ⟨tm3, tm4, tm7, tm8, tm13, tm14, tm0, tm10, tm11, tm21⟩ := hsm2
            have hans2 : D29 18 5 = y25 := hans
            refine ar_aload_n 215 d_93_214 rfl rfl ?_
            refine ar_aload_n 216 d_93_215 rfl rfl ?_
            refine ar_getf 219 d_93_216 rfl (ci := 10) (k := 5) rfl (hF.at 18 rfl) rfl ?_
            refine ar_top (x' := y25) (hans2) ?_
            refine ar_if_lt 246 222 d_93_219 (by decide) rfl (fun c => absurd c (c7)) (fun _ => ?_)
            refine ar_aload_n 223 d_93_222 rfl rfl ?_
            refine ar_getf 226 d_93_223 rfl (ci := 10) (k := 1) rfl (hF.at 18 rfl) rfl ?_
            refine ar_getf 229 d_93_226 rfl (ci := 5) (k := 0) rfl (hF.at 19 rfl) rfl ?_
            refine ar_bipush 231 (v := 8) d_93_229 rfl (by decide) ?_
            refine ar_icmp_eq 246 234 d_93_231 (by decide) rfl (fun c8 => ?_) (fun c8 => ?_)
            · have hk8 : D29 19 0 = 8 := c8
              refine ar_iconst 247 (v := 5) d_93_246 rfl (by decide) ?_
              refine ar_goto 251 d_93_247 (by decide) ?_
              refine ar_putf 254 [.ref (nd + 10), .ref (nd + 19), .ref (nd + 21), .int 5, .int (D29 18 4), .int (D29 18 5), .int (D29 18 6), .int (D29 18 7), .int (D29 18 8), .int (D29 18 9), .int (D29 18 10), .int (D29 18 11), .int (D29 18 12), .int (D29 18 13), .int (D29 18 14)] d_93_251 rfl (ci := 10) (k := 3) rfl rfl (hF.at 18 rfl) (Nat.le_of_ble_eq_true rfl) rfl rfl rfl ?_
              replace hF : ax_hs (ax_put hp_29 (nd + 18) (.inr (10, [.ref (nd + 10), .ref (nd + 19), .ref (nd + 21), .int 5, .int (D29 18 4), .int (D29 18 5), .int (D29 18 6), .int (D29 18 7), .int (D29 18 8), .int (D29 18 9), .int (D29 18 10), .int (D29 18 11), .int (D29 18 12), .int (D29 18 13), .int (D29 18 14)]))) [cNd n nd me D29, cDk nd D29, cAr nd 2 35840 D29, cAr nd 3 4096 D29, cAr nd 4 32 D29, cAr nd 5 280 D29, cAr nd 6 280 D29, cLd n nd me D29 A29, cAr nd 8 16 D29, cAr nd 9 280 D29, cTb nd gg D29 K29, cAr nd 11 48 D29, cAr nd 12 48 D29, cAr nd 13 48 D29, cAr nd 14 2400 D29, cAr nd 15 512 D29, cAr nd 16 961 D29, cAr nd 17 961 D29, (nd + 18, .inr (10, [.ref (nd + 10), .ref (nd + 19), .ref (nd + 21), .int 5, .int (D29 18 4), .int (D29 18 5), .int (D29 18 6), .int (D29 18 7), .int (D29 18 8), .int (D29 18 9), .int (D29 18 10), .int (D29 18 11), .int (D29 18 12), .int (D29 18 13), .int (D29 18 14)])), cWa nd D29, cAr nd 20 612 D29, cAr nd 21 1152 D29, cRk n nn gg C, cOr n nn gg f] := hF.put 18 _ rfl rfl
              replace hf := hf.put (a := nd + 18) (c := .inr (10, [.ref (nd + 10), .ref (nd + 19), .ref (nd + 21), .int 5, .int (D29 18 4), .int (D29 18 5), .int (D29 18 6), .int (D29 18 7), .int (D29 18 8), .int (D29 18 9), .int (D29 18 10), .int (D29 18 11), .int (D29 18 12), .int (D29 18 13), .int (D29 18 14)])) (Or.inr (by omega))
              replace hN := hN.put (a := nd + 18) (c := .inr (10, [.ref (nd + 10), .ref (nd + 19), .ref (nd + 21), .int 5, .int (D29 18 4), .int (D29 18 5), .int (D29 18 6), .int (D29 18 7), .int (D29 18 8), .int (D29 18 9), .int (D29 18 10), .int (D29 18 11), .int (D29 18 12), .int (D29 18 13), .int (D29 18 14)])) (by omega)
              replace hn : (ax_put hp_29 (nd + 18) (.inr (10, [.ref (nd + 10), .ref (nd + 19), .ref (nd + 21), .int 5, .int (D29 18 4), .int (D29 18 5), .int (D29 18 6), .int (D29 18 7), .int (D29 18 8), .int (D29 18 9), .int (D29 18 10), .int (D29 18 11), .int (D29 18 12), .int (D29 18 13), .int (D29 18 14)]))).1 = h0.1 := hn
              replace hs : (ax_put hp_29 (nd + 18) (.inr (10, [.ref (nd + 10), .ref (nd + 19), .ref (nd + 21), .int 5, .int (D29 18 4), .int (D29 18 5), .int (D29 18 6), .int (D29 18 7), .int (D29 18 8), .int (D29 18 9), .int (D29 18 10), .int (D29 18 11), .int (D29 18 12), .int (D29 18 13), .int (D29 18 14)]))).2.1 = h0.2.1 := hs
              generalize ax_put hp_29 (nd + 18) (.inr (10, [.ref (nd + 10), .ref (nd + 19), .ref (nd + 21), .int 5, .int (D29 18 4), .int (D29 18 5), .int (D29 18 6), .int (D29 18 7), .int (D29 18 8), .int (D29 18 9), .int (D29 18 10), .int (D29 18 11), .int (D29 18 12), .int (D29 18 13), .int (D29 18 14)])) = hp_30 at hF hf hN hn hs ⊢
              have hS9 : NS Z n nd nn gg C me f q u b uv h0 hp_30 (va_up D29 18 (upd (D29 18) 3 5)) K29 A29 Y29 := ⟨hF, hN, hf, hn, hs, hp0, hu0⟩
              have hI9 : NI Z nn (va_up D29 18 (upd (D29 18) 3 5)) := ⟨hI29.1, hI29.2.1, WI.tell rfl hI29.2.2.1.1 hI29.2.2.1.2.2.1 (hI29.2.2.1.2.2.2.1 (neq ((show D29 18 3 = 1 from tm3.trans (sm3.trans h3))) (by decide))) (fun z => by
                  rcases z with z | z <;> exact absurd (hk8.symm.trans z) (by decide)) hI29.2.2.1.2.2.2.2.2.2.2, hI29.2.2.2⟩
              exact ar_ret d_93_254 rfl (⟨rfl, _, _, _, _, hS9, hI9, eq_ifT cc7 (eq_ifT cc8 (eq_ifF cc9 (bnI_eq hyE10 (eq_ifF cc12 (bnI_eq hyE23 (bnR_eq hE26 (eq_ifF c7 (bnS_eq hE29 (eq_ifT c8 (rfl)))))))))), trivial⟩)
            · refine ar_aload_n 235 d_93_234 rfl rfl ?_
              refine ar_getf 238 d_93_235 rfl (ci := 10) (k := 1) rfl (hF.at 18 rfl) rfl ?_
              refine ar_getf 241 d_93_238 rfl (ci := 5) (k := 0) rfl (hF.at 19 rfl) rfl ?_
              refine ar_bipush 243 (v := 9) d_93_241 rfl (by decide) ?_
              refine ar_icmp_ne 250 246 d_93_243 (by decide) rfl (fun c9 => ?_) (fun c9 => ?_)
              · refine ar_iconst 251 (v := 2) d_93_250 rfl (by decide) ?_
                refine ar_putf 254 [.ref (nd + 10), .ref (nd + 19), .ref (nd + 21), .int 2, .int (D29 18 4), .int (D29 18 5), .int (D29 18 6), .int (D29 18 7), .int (D29 18 8), .int (D29 18 9), .int (D29 18 10), .int (D29 18 11), .int (D29 18 12), .int (D29 18 13), .int (D29 18 14)] d_93_251 rfl (ci := 10) (k := 3) rfl rfl (hF.at 18 rfl) (Nat.le_of_ble_eq_true rfl) rfl rfl rfl ?_
                replace hF : ax_hs (ax_put hp_29 (nd + 18) (.inr (10, [.ref (nd + 10), .ref (nd + 19), .ref (nd + 21), .int 2, .int (D29 18 4), .int (D29 18 5), .int (D29 18 6), .int (D29 18 7), .int (D29 18 8), .int (D29 18 9), .int (D29 18 10), .int (D29 18 11), .int (D29 18 12), .int (D29 18 13), .int (D29 18 14)]))) [cNd n nd me D29, cDk nd D29, cAr nd 2 35840 D29, cAr nd 3 4096 D29, cAr nd 4 32 D29, cAr nd 5 280 D29, cAr nd 6 280 D29, cLd n nd me D29 A29, cAr nd 8 16 D29, cAr nd 9 280 D29, cTb nd gg D29 K29, cAr nd 11 48 D29, cAr nd 12 48 D29, cAr nd 13 48 D29, cAr nd 14 2400 D29, cAr nd 15 512 D29, cAr nd 16 961 D29, cAr nd 17 961 D29, (nd + 18, .inr (10, [.ref (nd + 10), .ref (nd + 19), .ref (nd + 21), .int 2, .int (D29 18 4), .int (D29 18 5), .int (D29 18 6), .int (D29 18 7), .int (D29 18 8), .int (D29 18 9), .int (D29 18 10), .int (D29 18 11), .int (D29 18 12), .int (D29 18 13), .int (D29 18 14)])), cWa nd D29, cAr nd 20 612 D29, cAr nd 21 1152 D29, cRk n nn gg C, cOr n nn gg f] := hF.put 18 _ rfl rfl
                replace hf := hf.put (a := nd + 18) (c := .inr (10, [.ref (nd + 10), .ref (nd + 19), .ref (nd + 21), .int 2, .int (D29 18 4), .int (D29 18 5), .int (D29 18 6), .int (D29 18 7), .int (D29 18 8), .int (D29 18 9), .int (D29 18 10), .int (D29 18 11), .int (D29 18 12), .int (D29 18 13), .int (D29 18 14)])) (Or.inr (by omega))
                replace hN := hN.put (a := nd + 18) (c := .inr (10, [.ref (nd + 10), .ref (nd + 19), .ref (nd + 21), .int 2, .int (D29 18 4), .int (D29 18 5), .int (D29 18 6), .int (D29 18 7), .int (D29 18 8), .int (D29 18 9), .int (D29 18 10), .int (D29 18 11), .int (D29 18 12), .int (D29 18 13), .int (D29 18 14)])) (by omega)
                replace hn : (ax_put hp_29 (nd + 18) (.inr (10, [.ref (nd + 10), .ref (nd + 19), .ref (nd + 21), .int 2, .int (D29 18 4), .int (D29 18 5), .int (D29 18 6), .int (D29 18 7), .int (D29 18 8), .int (D29 18 9), .int (D29 18 10), .int (D29 18 11), .int (D29 18 12), .int (D29 18 13), .int (D29 18 14)]))).1 = h0.1 := hn
                replace hs : (ax_put hp_29 (nd + 18) (.inr (10, [.ref (nd + 10), .ref (nd + 19), .ref (nd + 21), .int 2, .int (D29 18 4), .int (D29 18 5), .int (D29 18 6), .int (D29 18 7), .int (D29 18 8), .int (D29 18 9), .int (D29 18 10), .int (D29 18 11), .int (D29 18 12), .int (D29 18 13), .int (D29 18 14)]))).2.1 = h0.2.1 := hs
                generalize ax_put hp_29 (nd + 18) (.inr (10, [.ref (nd + 10), .ref (nd + 19), .ref (nd + 21), .int 2, .int (D29 18 4), .int (D29 18 5), .int (D29 18 6), .int (D29 18 7), .int (D29 18 8), .int (D29 18 9), .int (D29 18 10), .int (D29 18 11), .int (D29 18 12), .int (D29 18 13), .int (D29 18 14)])) = hp_31 at hF hf hN hn hs ⊢
                have hq0 : D29 19 0 = D26 19 0 := tm0
                have an1b := (an1.resolve_left (fun z => c8 (hq0.trans z))).resolve_left (fun z => c9 (hq0.trans z))
                have f7 : D29 18 7 = y10 := tm7.trans sm7
                have f8 : D29 18 8 = y23 := tm8.trans sm8
                have f11 : D29 11 = D 11 := tm11.trans sm11
                have f10 : D29 10 9 = D26 10 9 := congrFun tm10 9
                have f21 : D29 21 = ax_fill (D 21) 0 1152 0 := tm21.trans sm21
                have f13 : D29 18 13 = -1 := tm13.trans sm13
                have f14 : D29 18 14 = -1 := tm14.trans sm14
                have hFC : FC (D29 10 9) (D29 11) (D29 18) (D29 19) := by
                    refine ⟨?_, ?_, fun z => ?_, ?_, hspc, fun z => ?_, fun z => ?_, fun z => ?_, f13, f14⟩
                    · rcases (show OKf (D 11) y10 from hy10) with e | ⟨p, hp, e, hj⟩
                      · refine Or.inl ⟨f7.trans e, ?_, ?_⟩
                        · have h1 := (an1b.1 (sm7.trans e)).1
                          rw [hq0]
                          exact h1
                        · rw [f10]
                          exact (an1b.1 (sm7.trans e)).2
                      · exact Or.inr ⟨p, hp, f7.trans e, by rw [f11]; exact hj⟩
                    · rcases (show OKf (D 11) y23 from hy23) with e | ⟨p, hp, e, hj⟩
                      · exact Or.inl (f8.trans e)
                      · exact Or.inr ⟨p, hp, f8.trans e, by rw [f11]; exact hj⟩
                    · have h1 := an1b.2.1 (hq0.symm.trans z)
                      exact fun e => h1 (tm8.symm.trans e)
                    · rcases in10 hI29.2.2.1.1.1 with e | e | e | e | e | e | e | e | e | e
                      · exact ⟨0, by decide, e⟩
                      · exact ⟨1, by decide, e⟩
                      · exact ⟨2, by decide, e⟩
                      · exact ⟨3, by decide, e⟩
                      · exact ⟨4, by decide, e⟩
                      · exact ⟨5, by decide, e⟩
                      · exact ⟨6, by decide, e⟩
                      · exact ⟨7, by decide, e⟩
                      · exact absurd e c8
                      · exact absurd e c9
                    · obtain ⟨s, c, s1, s2, s3, s4, s5⟩ := hspc
                      have h1 := an1b.2.2 (hq0.symm.trans z)
                      have h2 : D29 18 9 = D26 18 9 := tm9
                      rw [h2, h1] at s2
                      have h3 : s = 0 := (nI_inj (by decide) (by omega) s2).symm
                      rw [s3, s4 h3]
                      rfl
                    · have h1 := an3 (hq0.symm.trans z)
                      rw [tmQ]
                      exact h1
                    · rw [show D29 18 5 = y25 from hans]
                      exact an5 (Or.inl (hq0.symm.trans z))
                have hS9 : NS Z n nd nn gg C me f q u b uv h0 hp_31 (va_up D29 18 (upd (D29 18) 3 2)) K29 A29 Y29 := ⟨hF, hN, hf, hn, hs, hp0, hu0⟩
                have hI9 : NI Z nn (va_up D29 18 (upd (D29 18) 3 2)) := ⟨hI29.1, hI29.2.1, WI.fetch rfl hI29.2.2.1.1 hI29.2.2.1.2.2.1 (hI29.2.2.1.2.2.2.1 (neq ((show D29 18 3 = 1 from tm3.trans (sm3.trans h3))) (by decide))) hFC (fun i hi z => absurd (show D29 21 (i * 128) = 0 by rw [f21]; exact hz0 i hi) z), hI29.2.2.2⟩
                exact ar_ret d_93_254 rfl (⟨rfl, _, _, _, _, hS9, hI9, eq_ifT cc7 (eq_ifT cc8 (eq_ifF cc9 (bnI_eq hyE10 (eq_ifF cc12 (bnI_eq hyE23 (bnR_eq hE26 (eq_ifF c7 (bnS_eq hE29 (eq_ifF c8 (eq_ifT c9 (rfl))))))))))), trivial⟩)
              · have hk9 : D29 19 0 = 9 := Decidable.not_not.mp c9
                refine ar_iconst 247 (v := 5) d_93_246 rfl (by decide) ?_
                refine ar_goto 251 d_93_247 (by decide) ?_
                refine ar_putf 254 [.ref (nd + 10), .ref (nd + 19), .ref (nd + 21), .int 5, .int (D29 18 4), .int (D29 18 5), .int (D29 18 6), .int (D29 18 7), .int (D29 18 8), .int (D29 18 9), .int (D29 18 10), .int (D29 18 11), .int (D29 18 12), .int (D29 18 13), .int (D29 18 14)] d_93_251 rfl (ci := 10) (k := 3) rfl rfl (hF.at 18 rfl) (Nat.le_of_ble_eq_true rfl) rfl rfl rfl ?_
                replace hF : ax_hs (ax_put hp_29 (nd + 18) (.inr (10, [.ref (nd + 10), .ref (nd + 19), .ref (nd + 21), .int 5, .int (D29 18 4), .int (D29 18 5), .int (D29 18 6), .int (D29 18 7), .int (D29 18 8), .int (D29 18 9), .int (D29 18 10), .int (D29 18 11), .int (D29 18 12), .int (D29 18 13), .int (D29 18 14)]))) [cNd n nd me D29, cDk nd D29, cAr nd 2 35840 D29, cAr nd 3 4096 D29, cAr nd 4 32 D29, cAr nd 5 280 D29, cAr nd 6 280 D29, cLd n nd me D29 A29, cAr nd 8 16 D29, cAr nd 9 280 D29, cTb nd gg D29 K29, cAr nd 11 48 D29, cAr nd 12 48 D29, cAr nd 13 48 D29, cAr nd 14 2400 D29, cAr nd 15 512 D29, cAr nd 16 961 D29, cAr nd 17 961 D29, (nd + 18, .inr (10, [.ref (nd + 10), .ref (nd + 19), .ref (nd + 21), .int 5, .int (D29 18 4), .int (D29 18 5), .int (D29 18 6), .int (D29 18 7), .int (D29 18 8), .int (D29 18 9), .int (D29 18 10), .int (D29 18 11), .int (D29 18 12), .int (D29 18 13), .int (D29 18 14)])), cWa nd D29, cAr nd 20 612 D29, cAr nd 21 1152 D29, cRk n nn gg C, cOr n nn gg f] := hF.put 18 _ rfl rfl
                replace hf := hf.put (a := nd + 18) (c := .inr (10, [.ref (nd + 10), .ref (nd + 19), .ref (nd + 21), .int 5, .int (D29 18 4), .int (D29 18 5), .int (D29 18 6), .int (D29 18 7), .int (D29 18 8), .int (D29 18 9), .int (D29 18 10), .int (D29 18 11), .int (D29 18 12), .int (D29 18 13), .int (D29 18 14)])) (Or.inr (by omega))
                replace hN := hN.put (a := nd + 18) (c := .inr (10, [.ref (nd + 10), .ref (nd + 19), .ref (nd + 21), .int 5, .int (D29 18 4), .int (D29 18 5), .int (D29 18 6), .int (D29 18 7), .int (D29 18 8), .int (D29 18 9), .int (D29 18 10), .int (D29 18 11), .int (D29 18 12), .int (D29 18 13), .int (D29 18 14)])) (by omega)
                replace hn : (ax_put hp_29 (nd + 18) (.inr (10, [.ref (nd + 10), .ref (nd + 19), .ref (nd + 21), .int 5, .int (D29 18 4), .int (D29 18 5), .int (D29 18 6), .int (D29 18 7), .int (D29 18 8), .int (D29 18 9), .int (D29 18 10), .int (D29 18 11), .int (D29 18 12), .int (D29 18 13), .int (D29 18 14)]))).1 = h0.1 := hn
                replace hs : (ax_put hp_29 (nd + 18) (.inr (10, [.ref (nd + 10), .ref (nd + 19), .ref (nd + 21), .int 5, .int (D29 18 4), .int (D29 18 5), .int (D29 18 6), .int (D29 18 7), .int (D29 18 8), .int (D29 18 9), .int (D29 18 10), .int (D29 18 11), .int (D29 18 12), .int (D29 18 13), .int (D29 18 14)]))).2.1 = h0.2.1 := hs
                generalize ax_put hp_29 (nd + 18) (.inr (10, [.ref (nd + 10), .ref (nd + 19), .ref (nd + 21), .int 5, .int (D29 18 4), .int (D29 18 5), .int (D29 18 6), .int (D29 18 7), .int (D29 18 8), .int (D29 18 9), .int (D29 18 10), .int (D29 18 11), .int (D29 18 12), .int (D29 18 13), .int (D29 18 14)])) = hp_32 at hF hf hN hn hs ⊢
                have hS9 : NS Z n nd nn gg C me f q u b uv h0 hp_32 (va_up D29 18 (upd (D29 18) 3 5)) K29 A29 Y29 := ⟨hF, hN, hf, hn, hs, hp0, hu0⟩
                have hI9 : NI Z nn (va_up D29 18 (upd (D29 18) 3 5)) := ⟨hI29.1, hI29.2.1, WI.tell rfl hI29.2.2.1.1 hI29.2.2.1.2.2.1 (hI29.2.2.1.2.2.2.1 (neq ((show D29 18 3 = 1 from tm3.trans (sm3.trans h3))) (by decide))) (fun _ => Or.inr (show inR 2049 (D29 18 5) by rw [show D29 18 5 = y25 from hans]; exact an5 (Or.inr (tm0.symm.trans hk9)))) hI29.2.2.1.2.2.2.2.2.2.2, hI29.2.2.2⟩
                exact ar_ret d_93_254 rfl (⟨rfl, _, _, _, _, hS9, hI9, eq_ifT cc7 (eq_ifT cc8 (eq_ifF cc9 (bnI_eq hyE10 (eq_ifF cc12 (bnI_eq hyE23 (bnR_eq hE26 (eq_ifF c7 (bnS_eq hE29 (eq_ifF c8 (eq_ifF c9 (rfl))))))))))), trivial⟩)
    · refine ar_aload_n 70 d_93_69 rfl rfl ?_
      refine ar_aload_n 71 d_93_70 rfl rfl ?_
      refine ar_getf 74 d_93_71 rfl (ci := 10) (k := 0) rfl (hF.at 18 rfl) rfl ?_
      refine ar_getf 77 d_93_74 rfl (ci := 6) (k := 10) rfl (hF.at 10 rfl) rfl ?_
      refine ar_putf 80 [.ref (nd + 10), .ref (nd + 19), .ref (nd + 21), .int (D 18 3), .int (D 18 4), .int (D 10 10), .int (D 18 6), .int (D 18 7), .int (D 18 8), .int 0, .int (D 18 10), .int 0, .int 0, .int (-1), .int (-1)] d_93_77 rfl (ci := 10) (k := 5) rfl rfl (hF.at 18 rfl) (Nat.le_of_ble_eq_true rfl) rfl rfl rfl ?_
      replace hF : ax_hs (ax_put hp_6 (nd + 18) (.inr (10, [.ref (nd + 10), .ref (nd + 19), .ref (nd + 21), .int (D 18 3), .int (D 18 4), .int (D 10 10), .int (D 18 6), .int (D 18 7), .int (D 18 8), .int 0, .int (D 18 10), .int 0, .int 0, .int (-1), .int (-1)]))) [cNd n nd me D, cDk nd D, cAr nd 2 35840 D, cAr nd 3 4096 D, cAr nd 4 32 D, cAr nd 5 280 D, cAr nd 6 280 D, cLd n nd me D A, cAr nd 8 16 D, cAr nd 9 280 D, cTb nd gg D K, cAr nd 11 48 D, cAr nd 12 48 D, cAr nd 13 48 D, cAr nd 14 2400 D, cAr nd 15 512 D, cAr nd 16 961 D, cAr nd 17 961 D, (nd + 18, .inr (10, [.ref (nd + 10), .ref (nd + 19), .ref (nd + 21), .int (D 18 3), .int (D 18 4), .int (D 10 10), .int (D 18 6), .int (D 18 7), .int (D 18 8), .int 0, .int (D 18 10), .int 0, .int 0, .int (-1), .int (-1)])), cWa nd D, cAr nd 20 612 D, (nd + 21, .inl (0, 1152, .inl (ax_fill (D 21) 0 1152 0))), cRk n nn gg C, cOr n nn gg f] := hF.put 18 _ rfl rfl
      replace hf := hf.put (a := nd + 18) (c := .inr (10, [.ref (nd + 10), .ref (nd + 19), .ref (nd + 21), .int (D 18 3), .int (D 18 4), .int (D 10 10), .int (D 18 6), .int (D 18 7), .int (D 18 8), .int 0, .int (D 18 10), .int 0, .int 0, .int (-1), .int (-1)])) (Or.inr (by omega))
      replace hN := hN.put (a := nd + 18) (c := .inr (10, [.ref (nd + 10), .ref (nd + 19), .ref (nd + 21), .int (D 18 3), .int (D 18 4), .int (D 10 10), .int (D 18 6), .int (D 18 7), .int (D 18 8), .int 0, .int (D 18 10), .int 0, .int 0, .int (-1), .int (-1)])) (by omega)
      replace hn : (ax_put hp_6 (nd + 18) (.inr (10, [.ref (nd + 10), .ref (nd + 19), .ref (nd + 21), .int (D 18 3), .int (D 18 4), .int (D 10 10), .int (D 18 6), .int (D 18 7), .int (D 18 8), .int 0, .int (D 18 10), .int 0, .int 0, .int (-1), .int (-1)]))).1 = h0.1 := hn
      replace hs : (ax_put hp_6 (nd + 18) (.inr (10, [.ref (nd + 10), .ref (nd + 19), .ref (nd + 21), .int (D 18 3), .int (D 18 4), .int (D 10 10), .int (D 18 6), .int (D 18 7), .int (D 18 8), .int 0, .int (D 18 10), .int 0, .int 0, .int (-1), .int (-1)]))).2.1 = h0.2.1 := hs
      generalize ax_put hp_6 (nd + 18) (.inr (10, [.ref (nd + 10), .ref (nd + 19), .ref (nd + 21), .int (D 18 3), .int (D 18 4), .int (D 10 10), .int (D 18 6), .int (D 18 7), .int (D 18 8), .int 0, .int (D 18 10), .int 0, .int 0, .int (-1), .int (-1)])) = hp_33 at hF hf hN hn hs ⊢
      refine ar_aload_n 81 d_93_80 rfl rfl ?_
      refine ar_iconst 82 (v := 3) d_93_81 rfl (by decide) ?_
      refine ar_putf 85 [.ref (nd + 10), .ref (nd + 19), .ref (nd + 21), .int 3, .int (D 18 4), .int (D 10 10), .int (D 18 6), .int (D 18 7), .int (D 18 8), .int 0, .int (D 18 10), .int 0, .int 0, .int (-1), .int (-1)] d_93_82 rfl (ci := 10) (k := 3) rfl rfl (hF.at 18 rfl) (Nat.le_of_ble_eq_true rfl) rfl rfl rfl ?_
      replace hF : ax_hs (ax_put hp_33 (nd + 18) (.inr (10, [.ref (nd + 10), .ref (nd + 19), .ref (nd + 21), .int 3, .int (D 18 4), .int (D 10 10), .int (D 18 6), .int (D 18 7), .int (D 18 8), .int 0, .int (D 18 10), .int 0, .int 0, .int (-1), .int (-1)]))) [cNd n nd me D, cDk nd D, cAr nd 2 35840 D, cAr nd 3 4096 D, cAr nd 4 32 D, cAr nd 5 280 D, cAr nd 6 280 D, cLd n nd me D A, cAr nd 8 16 D, cAr nd 9 280 D, cTb nd gg D K, cAr nd 11 48 D, cAr nd 12 48 D, cAr nd 13 48 D, cAr nd 14 2400 D, cAr nd 15 512 D, cAr nd 16 961 D, cAr nd 17 961 D, (nd + 18, .inr (10, [.ref (nd + 10), .ref (nd + 19), .ref (nd + 21), .int 3, .int (D 18 4), .int (D 10 10), .int (D 18 6), .int (D 18 7), .int (D 18 8), .int 0, .int (D 18 10), .int 0, .int 0, .int (-1), .int (-1)])), cWa nd D, cAr nd 20 612 D, (nd + 21, .inl (0, 1152, .inl (ax_fill (D 21) 0 1152 0))), cRk n nn gg C, cOr n nn gg f] := hF.put 18 _ rfl rfl
      replace hf := hf.put (a := nd + 18) (c := .inr (10, [.ref (nd + 10), .ref (nd + 19), .ref (nd + 21), .int 3, .int (D 18 4), .int (D 10 10), .int (D 18 6), .int (D 18 7), .int (D 18 8), .int 0, .int (D 18 10), .int 0, .int 0, .int (-1), .int (-1)])) (Or.inr (by omega))
      replace hN := hN.put (a := nd + 18) (c := .inr (10, [.ref (nd + 10), .ref (nd + 19), .ref (nd + 21), .int 3, .int (D 18 4), .int (D 10 10), .int (D 18 6), .int (D 18 7), .int (D 18 8), .int 0, .int (D 18 10), .int 0, .int 0, .int (-1), .int (-1)])) (by omega)
      replace hn : (ax_put hp_33 (nd + 18) (.inr (10, [.ref (nd + 10), .ref (nd + 19), .ref (nd + 21), .int 3, .int (D 18 4), .int (D 10 10), .int (D 18 6), .int (D 18 7), .int (D 18 8), .int 0, .int (D 18 10), .int 0, .int 0, .int (-1), .int (-1)]))).1 = h0.1 := hn
      replace hs : (ax_put hp_33 (nd + 18) (.inr (10, [.ref (nd + 10), .ref (nd + 19), .ref (nd + 21), .int 3, .int (D 18 4), .int (D 10 10), .int (D 18 6), .int (D 18 7), .int (D 18 8), .int 0, .int (D 18 10), .int 0, .int 0, .int (-1), .int (-1)]))).2.1 = h0.2.1 := hs
      generalize ax_put hp_33 (nd + 18) (.inr (10, [.ref (nd + 10), .ref (nd + 19), .ref (nd + 21), .int 3, .int (D 18 4), .int (D 10 10), .int (D 18 6), .int (D 18 7), .int (D 18 8), .int 0, .int (D 18 10), .int 0, .int 0, .int (-1), .int (-1)])) = hp_34 at hF hf hN hn hs ⊢
      refine ar_goto 254 d_93_85 (by decide) ?_
      have hz0 : ∀ i, i < 9 → ax_fill (D 21) 0 1152 0 (i * 128) = 0 := fun i hi => if_pos ⟨by omega, by omega⟩
      have hzB : ∀ i, i < 9 → ¬ ax_fill (D 21) 0 1152 0 (i * 128) = 0 → gd Z (ax_fill (D 21) 0 1152 0) (i * 128) := fun i hi z => absurd (hz0 i hi) z
      obtain ⟨o, ho, eo, hoz⟩ := hop
      have hro : D 16 960 = nI o := by
        have e := Decidable.not_not.mp cc8
        rw [← eo]
        exact e
      have hS9 : NS Z n nd nn gg C me f q u b uv h0 hp_34 (va_up (va_up D 18 (upd (upd (upd (upd (upd (upd (upd (D 18) 3 3) 5 (D 10 10)) 9 0) 11 0) 12 0) 13 (-1)) 14 (-1))) 21 (ax_fill (D 21) 0 1152 0)) K A Y := ⟨hF, hN, hf, hn, hs, hp0, hu0⟩
      have hI9 : NI Z nn (va_up (va_up D 18 (upd (upd (upd (upd (upd (upd (upd (D 18) 3 3) 5 (D 10 10)) 9 0) 11 0) 12 0) 13 (-1)) 14 (-1))) 21 (ax_fill (D 21) 0 1152 0)) := ⟨hI.1, hI.2.1, WI.store (Or.inl rfl) hA ⟨0, by decide, rfl⟩ ⟨o, ho, eo, hoz⟩ ⟨o, ho, eo, hI.2.1.2.2.2.2.2 o ho hro⟩ hzB, hI.2.2.2⟩
      exact ar_ret d_93_254 rfl (⟨rfl, _, _, _, _, hS9, hI9, eq_ifT cc7 (eq_ifF cc8 (rfl)), trivial⟩)
  · refine ar_aload_n 54 d_93_53 rfl rfl ?_
    refine ar_iconst 55 (v := 0) d_93_54 rfl (by decide) ?_
    refine ar_putf 58 [.ref (nd + 10), .ref (nd + 19), .ref (nd + 21), .int 0, .int (D 18 4), .int (D 18 5), .int (D 18 6), .int (D 18 7), .int (D 18 8), .int 0, .int (D 18 10), .int 0, .int 0, .int (-1), .int (-1)] d_93_55 rfl (ci := 10) (k := 3) rfl rfl (hF.at 18 rfl) (Nat.le_of_ble_eq_true rfl) rfl rfl rfl ?_
    replace hF : ax_hs (ax_put hp_6 (nd + 18) (.inr (10, [.ref (nd + 10), .ref (nd + 19), .ref (nd + 21), .int 0, .int (D 18 4), .int (D 18 5), .int (D 18 6), .int (D 18 7), .int (D 18 8), .int 0, .int (D 18 10), .int 0, .int 0, .int (-1), .int (-1)]))) [cNd n nd me D, cDk nd D, cAr nd 2 35840 D, cAr nd 3 4096 D, cAr nd 4 32 D, cAr nd 5 280 D, cAr nd 6 280 D, cLd n nd me D A, cAr nd 8 16 D, cAr nd 9 280 D, cTb nd gg D K, cAr nd 11 48 D, cAr nd 12 48 D, cAr nd 13 48 D, cAr nd 14 2400 D, cAr nd 15 512 D, cAr nd 16 961 D, cAr nd 17 961 D, (nd + 18, .inr (10, [.ref (nd + 10), .ref (nd + 19), .ref (nd + 21), .int 0, .int (D 18 4), .int (D 18 5), .int (D 18 6), .int (D 18 7), .int (D 18 8), .int 0, .int (D 18 10), .int 0, .int 0, .int (-1), .int (-1)])), cWa nd D, cAr nd 20 612 D, (nd + 21, .inl (0, 1152, .inl (ax_fill (D 21) 0 1152 0))), cRk n nn gg C, cOr n nn gg f] := hF.put 18 _ rfl rfl
    replace hf := hf.put (a := nd + 18) (c := .inr (10, [.ref (nd + 10), .ref (nd + 19), .ref (nd + 21), .int 0, .int (D 18 4), .int (D 18 5), .int (D 18 6), .int (D 18 7), .int (D 18 8), .int 0, .int (D 18 10), .int 0, .int 0, .int (-1), .int (-1)])) (Or.inr (by omega))
    replace hN := hN.put (a := nd + 18) (c := .inr (10, [.ref (nd + 10), .ref (nd + 19), .ref (nd + 21), .int 0, .int (D 18 4), .int (D 18 5), .int (D 18 6), .int (D 18 7), .int (D 18 8), .int 0, .int (D 18 10), .int 0, .int 0, .int (-1), .int (-1)])) (by omega)
    replace hn : (ax_put hp_6 (nd + 18) (.inr (10, [.ref (nd + 10), .ref (nd + 19), .ref (nd + 21), .int 0, .int (D 18 4), .int (D 18 5), .int (D 18 6), .int (D 18 7), .int (D 18 8), .int 0, .int (D 18 10), .int 0, .int 0, .int (-1), .int (-1)]))).1 = h0.1 := hn
    replace hs : (ax_put hp_6 (nd + 18) (.inr (10, [.ref (nd + 10), .ref (nd + 19), .ref (nd + 21), .int 0, .int (D 18 4), .int (D 18 5), .int (D 18 6), .int (D 18 7), .int (D 18 8), .int 0, .int (D 18 10), .int 0, .int 0, .int (-1), .int (-1)]))).2.1 = h0.2.1 := hs
    generalize ax_put hp_6 (nd + 18) (.inr (10, [.ref (nd + 10), .ref (nd + 19), .ref (nd + 21), .int 0, .int (D 18 4), .int (D 18 5), .int (D 18 6), .int (D 18 7), .int (D 18 8), .int 0, .int (D 18 10), .int 0, .int 0, .int (-1), .int (-1)])) = hp_35 at hF hf hN hn hs ⊢
    refine ar_goto 254 d_93_58 (by decide) ?_
    have hz0 : ∀ i, i < 9 → ax_fill (D 21) 0 1152 0 (i * 128) = 0 := fun i hi => if_pos ⟨by omega, by omega⟩
    have hzB : ∀ i, i < 9 → ¬ ax_fill (D 21) 0 1152 0 (i * 128) = 0 → gd Z (ax_fill (D 21) 0 1152 0) (i * 128) := fun i hi z => absurd (hz0 i hi) z
    have hS9 : NS Z n nd nn gg C me f q u b uv h0 hp_35 (va_up (va_up D 18 (upd (upd (upd (upd (upd (upd (D 18) 3 0) 9 0) 11 0) 12 0) 13 (-1)) 14 (-1))) 21 (ax_fill (D 21) 0 1152 0)) K A Y := ⟨hF, hN, hf, hn, hs, hp0, hu0⟩
    have hI9 : NI Z nn (va_up (va_up D 18 (upd (upd (upd (upd (upd (upd (D 18) 3 0) 9 0) 11 0) 12 0) 13 (-1)) 14 (-1))) 21 (ax_fill (D 21) 0 1152 0)) := ⟨hI.1, hI.2.1, WI.idle rfl hA ⟨0, by decide, rfl⟩ hzB, hI.2.2.2⟩
    exact ar_ret d_93_254 rfl (⟨rfl, _, _, _, _, hS9, hI9, eq_ifF cc7 (rfl), trivial⟩)

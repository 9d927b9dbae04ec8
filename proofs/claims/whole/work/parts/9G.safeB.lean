/-! Work: sealItems, sealRoot for every state -/
theorem d_114_0 : decode (axt_b 114) 0 = .ok (.aload_n 0, 1) := by decide +kernel
theorem d_114_1 : decode (axt_b 114) 1 = .ok (.getfield 35, 3) := by decide +kernel
theorem d_114_4 : decode (axt_b 114) 4 = .ok (.iconst 3, 1) := by decide +kernel
theorem d_114_5 : decode (axt_b 114) 5 = .ok (.if_icmp .eq 4, 3) := by decide +kernel
theorem d_114_8 : decode (axt_b 114) 8 = .ok (.return_, 1) := by decide +kernel
theorem d_114_9 : decode (axt_b 114) 9 = .ok (.iconst 0, 1) := by decide +kernel
theorem d_114_10 : decode (axt_b 114) 10 = .ok (.istore_n 1, 1) := by decide +kernel
theorem d_114_11 : decode (axt_b 114) 11 = .ok (.iload_n 1, 1) := by decide +kernel
theorem d_114_12 : decode (axt_b 114) 12 = .ok (.aload_n 0, 1) := by decide +kernel
theorem d_114_13 : decode (axt_b 114) 13 = .ok (.getfield 65, 3) := by decide +kernel
theorem d_114_16 : decode (axt_b 114) 16 = .ok (.if_icmp .ge 56, 3) := by decide +kernel
theorem d_114_19 : decode (axt_b 114) 19 = .ok (.aload_n 0, 1) := by decide +kernel
theorem d_114_20 : decode (axt_b 114) 20 = .ok (.getfield 88, 3) := by decide +kernel
theorem d_114_23 : decode (axt_b 114) 23 = .ok (.bipush 20, 2) := by decide +kernel
theorem d_114_25 : decode (axt_b 114) 25 = .ok (.imul, 1) := by decide +kernel
theorem d_114_26 : decode (axt_b 114) 26 = .ok (.aload_n 0, 1) := by decide +kernel
theorem d_114_27 : decode (axt_b 114) 27 = .ok (.getfield 153, 3) := by decide +kernel
theorem d_114_30 : decode (axt_b 114) 30 = .ok (.iadd, 1) := by decide +kernel
theorem d_114_31 : decode (axt_b 114) 31 = .ok (.iload_n 1, 1) := by decide +kernel
theorem d_114_32 : decode (axt_b 114) 32 = .ok (.iadd, 1) := by decide +kernel
theorem d_114_33 : decode (axt_b 114) 33 = .ok (.istore_n 2, 1) := by decide +kernel
theorem d_114_34 : decode (axt_b 114) 34 = .ok (.aload_n 0, 1) := by decide +kernel
theorem d_114_35 : decode (axt_b 114) 35 = .ok (.getfield 26, 3) := by decide +kernel
theorem d_114_38 : decode (axt_b 114) 38 = .ok (.iload_n 2, 1) := by decide +kernel
theorem d_114_39 : decode (axt_b 114) 39 = .ok (.aload_n 0, 1) := by decide +kernel
theorem d_114_40 : decode (axt_b 114) 40 = .ok (.getfield 22, 3) := by decide +kernel
theorem d_114_43 : decode (axt_b 114) 43 = .ok (.invokevirtual 205, 3) := by decide +kernel
theorem d_114_46 : decode (axt_b 114) 46 = .ok (.aload_n 0, 1) := by decide +kernel
theorem d_114_47 : decode (axt_b 114) 47 = .ok (.getfield 18, 3) := by decide +kernel
theorem d_114_50 : decode (axt_b 114) 50 = .ok (.iload_n 1, 1) := by decide +kernel
theorem d_114_51 : decode (axt_b 114) 51 = .ok (.sipush 128, 3) := by decide +kernel
theorem d_114_54 : decode (axt_b 114) 54 = .ok (.imul, 1) := by decide +kernel
theorem d_114_55 : decode (axt_b 114) 55 = .ok (.aload_n 0, 1) := by decide +kernel
theorem d_114_56 : decode (axt_b 114) 56 = .ok (.getfield 26, 3) := by decide +kernel
theorem d_114_59 : decode (axt_b 114) 59 = .ok (.iload_n 2, 1) := by decide +kernel
theorem d_114_60 : decode (axt_b 114) 60 = .ok (.invokevirtual 209, 3) := by decide +kernel
theorem d_114_63 : decode (axt_b 114) 63 = .ok (.invokestatic 212, 3) := by decide +kernel
theorem d_114_66 : decode (axt_b 114) 66 = .ok (.iinc 1 1, 3) := by decide +kernel
theorem d_114_69 : decode (axt_b 114) 69 = .ok (.goto (-58), 3) := by decide +kernel
theorem d_114_72 : decode (axt_b 114) 72 = .ok (.bipush 6, 2) := by decide +kernel
theorem d_114_74 : decode (axt_b 114) 74 = .ok (.istore_n 1, 1) := by decide +kernel
theorem d_114_75 : decode (axt_b 114) 75 = .ok (.iload_n 1, 1) := by decide +kernel
theorem d_114_76 : decode (axt_b 114) 76 = .ok (.bipush 8, 2) := by decide +kernel
theorem d_114_78 : decode (axt_b 114) 78 = .ok (.if_icmp .ge 92, 3) := by decide +kernel
theorem d_114_81 : decode (axt_b 114) 81 = .ok (.iload_n 1, 1) := by decide +kernel
theorem d_114_82 : decode (axt_b 114) 82 = .ok (.bipush 6, 2) := by decide +kernel
theorem d_114_84 : decode (axt_b 114) 84 = .ok (.if_icmp .ne 10, 3) := by decide +kernel
theorem d_114_87 : decode (axt_b 114) 87 = .ok (.aload_n 0, 1) := by decide +kernel
theorem d_114_88 : decode (axt_b 114) 88 = .ok (.getfield 68, 3) := by decide +kernel
theorem d_114_91 : decode (axt_b 114) 91 = .ok (.goto 7, 3) := by decide +kernel
theorem d_114_94 : decode (axt_b 114) 94 = .ok (.aload_n 0, 1) := by decide +kernel
theorem d_114_95 : decode (axt_b 114) 95 = .ok (.getfield 71, 3) := by decide +kernel
theorem d_114_98 : decode (axt_b 114) 98 = .ok (.istore_n 2, 1) := by decide +kernel
theorem d_114_99 : decode (axt_b 114) 99 = .ok (.iload_n 2, 1) := by decide +kernel
theorem d_114_100 : decode (axt_b 114) 100 = .ok (.ifCond .lt 64, 3) := by decide +kernel
theorem d_114_103 : decode (axt_b 114) 103 = .ok (.aload_n 0, 1) := by decide +kernel
theorem d_114_104 : decode (axt_b 114) 104 = .ok (.getfield 26, 3) := by decide +kernel
theorem d_114_107 : decode (axt_b 114) 107 = .ok (.iload_n 2, 1) := by decide +kernel
theorem d_114_108 : decode (axt_b 114) 108 = .ok (.bipush 20, 2) := by decide +kernel
theorem d_114_110 : decode (axt_b 114) 110 = .ok (.imul, 1) := by decide +kernel
theorem d_114_111 : decode (axt_b 114) 111 = .ok (.bipush 19, 2) := by decide +kernel
theorem d_114_113 : decode (axt_b 114) 113 = .ok (.iadd, 1) := by decide +kernel
theorem d_114_114 : decode (axt_b 114) 114 = .ok (.aload_n 0, 1) := by decide +kernel
theorem d_114_115 : decode (axt_b 114) 115 = .ok (.getfield 22, 3) := by decide +kernel
theorem d_114_118 : decode (axt_b 114) 118 = .ok (.invokevirtual 205, 3) := by decide +kernel
theorem d_114_121 : decode (axt_b 114) 121 = .ok (.aload_n 0, 1) := by decide +kernel
theorem d_114_122 : decode (axt_b 114) 122 = .ok (.getfield 26, 3) := by decide +kernel
theorem d_114_125 : decode (axt_b 114) 125 = .ok (.iload_n 2, 1) := by decide +kernel
theorem d_114_126 : decode (axt_b 114) 126 = .ok (.aload_n 0, 1) := by decide +kernel
theorem d_114_127 : decode (axt_b 114) 127 = .ok (.getfield 18, 3) := by decide +kernel
theorem d_114_130 : decode (axt_b 114) 130 = .ok (.iload_n 1, 1) := by decide +kernel
theorem d_114_131 : decode (axt_b 114) 131 = .ok (.sipush 128, 3) := by decide +kernel
theorem d_114_134 : decode (axt_b 114) 134 = .ok (.imul, 1) := by decide +kernel
theorem d_114_135 : decode (axt_b 114) 135 = .ok (.invokevirtual 217, 3) := by decide +kernel
theorem d_114_138 : decode (axt_b 114) 138 = .ok (.aload_n 0, 1) := by decide +kernel
theorem d_114_139 : decode (axt_b 114) 139 = .ok (.getfield 18, 3) := by decide +kernel
theorem d_114_142 : decode (axt_b 114) 142 = .ok (.iload_n 1, 1) := by decide +kernel
theorem d_114_143 : decode (axt_b 114) 143 = .ok (.sipush 128, 3) := by decide +kernel
theorem d_114_146 : decode (axt_b 114) 146 = .ok (.imul, 1) := by decide +kernel
theorem d_114_147 : decode (axt_b 114) 147 = .ok (.aload_n 0, 1) := by decide +kernel
theorem d_114_148 : decode (axt_b 114) 148 = .ok (.getfield 26, 3) := by decide +kernel
theorem d_114_151 : decode (axt_b 114) 151 = .ok (.iload_n 2, 1) := by decide +kernel
theorem d_114_152 : decode (axt_b 114) 152 = .ok (.bipush 20, 2) := by decide +kernel
theorem d_114_154 : decode (axt_b 114) 154 = .ok (.imul, 1) := by decide +kernel
theorem d_114_155 : decode (axt_b 114) 155 = .ok (.bipush 19, 2) := by decide +kernel
theorem d_114_157 : decode (axt_b 114) 157 = .ok (.iadd, 1) := by decide +kernel
theorem d_114_158 : decode (axt_b 114) 158 = .ok (.invokevirtual 209, 3) := by decide +kernel
theorem d_114_161 : decode (axt_b 114) 161 = .ok (.invokestatic 212, 3) := by decide +kernel
theorem d_114_164 : decode (axt_b 114) 164 = .ok (.iinc 1 1, 3) := by decide +kernel
theorem d_114_167 : decode (axt_b 114) 167 = .ok (.goto (-92), 3) := by decide +kernel
theorem d_114_170 : decode (axt_b 114) 170 = .ok (.return_, 1) := by decide +kernel
theorem d_121_0 : decode (axt_b 121) 0 = .ok (.aload_n 0, 1) := by decide +kernel
theorem d_121_1 : decode (axt_b 121) 1 = .ok (.getfield 26, 3) := by decide +kernel
theorem d_121_4 : decode (axt_b 121) 4 = .ok (.getfield 48, 3) := by decide +kernel
theorem d_121_7 : decode (axt_b 121) 7 = .ok (.sipush 960, 3) := by decide +kernel
theorem d_121_10 : decode (axt_b 121) 10 = .ok (.iaload, 1) := by decide +kernel
theorem d_121_11 : decode (axt_b 121) 11 = .ok (.aload_n 0, 1) := by decide +kernel
theorem d_121_12 : decode (axt_b 121) 12 = .ok (.getfield 22, 3) := by decide +kernel
theorem d_121_15 : decode (axt_b 121) 15 = .ok (.if_icmp .eq 28, 3) := by decide +kernel
theorem d_121_18 : decode (axt_b 121) 18 = .ok (.aload_n 0, 1) := by decide +kernel
theorem d_121_19 : decode (axt_b 121) 19 = .ok (.getfield 26, 3) := by decide +kernel
theorem d_121_22 : decode (axt_b 121) 22 = .ok (.sipush 960, 3) := by decide +kernel
theorem d_121_25 : decode (axt_b 121) 25 = .ok (.aload_n 0, 1) := by decide +kernel
theorem d_121_26 : decode (axt_b 121) 26 = .ok (.getfield 22, 3) := by decide +kernel
theorem d_121_29 : decode (axt_b 121) 29 = .ok (.invokevirtual 205, 3) := by decide +kernel
theorem d_121_32 : decode (axt_b 121) 32 = .ok (.aload_n 0, 1) := by decide +kernel
theorem d_121_33 : decode (axt_b 121) 33 = .ok (.getfield 26, 3) := by decide +kernel
theorem d_121_36 : decode (axt_b 121) 36 = .ok (.aload_n 0, 1) := by decide +kernel
theorem d_121_37 : decode (axt_b 121) 37 = .ok (.getfield 77, 3) := by decide +kernel
theorem d_121_40 : decode (axt_b 121) 40 = .ok (.putfield 74, 3) := by decide +kernel
theorem d_121_43 : decode (axt_b 121) 43 = .ok (.aload_n 0, 1) := by decide +kernel
theorem d_121_44 : decode (axt_b 121) 44 = .ok (.getfield 26, 3) := by decide +kernel
theorem d_121_47 : decode (axt_b 121) 47 = .ok (.aload_n 0, 1) := by decide +kernel
theorem d_121_48 : decode (axt_b 121) 48 = .ok (.getfield 18, 3) := by decide +kernel
theorem d_121_51 : decode (axt_b 121) 51 = .ok (.sipush 1024, 3) := by decide +kernel
theorem d_121_54 : decode (axt_b 121) 54 = .ok (.invokevirtual 220, 3) := by decide +kernel
theorem d_121_57 : decode (axt_b 121) 57 = .ok (.aload_n 0, 1) := by decide +kernel
theorem d_121_58 : decode (axt_b 121) 58 = .ok (.getfield 18, 3) := by decide +kernel
theorem d_121_61 : decode (axt_b 121) 61 = .ok (.sipush 1024, 3) := by decide +kernel
theorem d_121_64 : decode (axt_b 121) 64 = .ok (.aload_n 0, 1) := by decide +kernel
theorem d_121_65 : decode (axt_b 121) 65 = .ok (.getfield 26, 3) := by decide +kernel
theorem d_121_68 : decode (axt_b 121) 68 = .ok (.sipush 960, 3) := by decide +kernel
theorem d_121_71 : decode (axt_b 121) 71 = .ok (.invokevirtual 209, 3) := by decide +kernel
theorem d_121_74 : decode (axt_b 121) 74 = .ok (.invokestatic 212, 3) := by decide +kernel
theorem d_121_77 : decode (axt_b 121) 77 = .ok (.aload_n 0, 1) := by decide +kernel
theorem d_121_78 : decode (axt_b 121) 78 = .ok (.iconst 4, 1) := by decide +kernel
theorem d_121_79 : decode (axt_b 121) 79 = .ok (.putfield 35, 3) := by decide +kernel
theorem d_121_82 : decode (axt_b 121) 82 = .ok (.return_, 1) := by decide +kernel
def GB (Z : ZT) (B : Nat → Int32) : Prop := ∀ i, i < 9 → ¬ B (i * 128) = 0 → gd Z B (i * 128)
theorem WI.cg {Z : ZT} {fl fl' : Int32} {jf jf' W W' Q B B' : Nat → Int32} (hW : WI Z fl jf W Q B) (h3 : ¬ W 3 = 2) (e3 : W' 3 = W 3) (e4 : W' 4 = W 4) (e5 : W' 5 = W 5) (e11 : W' 11 = W 11) (hB : GB Z B') : WI Z fl' jf' W' Q B' := by
  obtain ⟨w1, w2, w3, w4, w5, w6, w7, w8⟩ := hW
  refine ⟨w1, by rw [e3]; exact w2, by rw [e11]; exact w3, fun z => ?_, fun z => absurd (e3.symm.trans z) h3, fun z => ?_, fun z => ?_, hB⟩
  · rw [e4]
    exact w4 (by rw [← e3]; exact z)
  · rw [e4]
    exact w6 (by rw [← e3]; exact z)
  · rw [e5]
    exact w7 (e3.symm.trans z)
theorem GB.set {Z : ZT} {B B' : Nat → Int32} {i : Nat} (hB : GB Z B) (hag : ∀ j, j < 9 → j ≠ i → ∀ x, x < 128 → B' (j * 128 + x) = B (j * 128 + x)) (hi : gd Z B' (i * 128)) : GB Z B' := fun j hj z => by
  by_cases e : j = i
  · rw [e]
    exact hi
  · have h := hag j hj e
    have h00 : B' (j * 128) = B (j * 128) := h 0 (by omega)
    have h2 := hB j hj (by rw [← h00]; exact z)
    intro k hk ek
    rw [h 1 (by omega)] at ek
    rw [h 15 (by omega), h 16 (by omega)]
    exact h2 k hk ek
theorem seald_x {B : Nat → Int32} {p x : Nat} {t : Int32} (h1 : x ≠ p) (h2 : x ≠ p + 1) (h3 : x ≠ p + 127) : seald B p t x = B x := by
  unfold seald stmp
  rw [pk_un h3, pk_un h1, pk_un h2]
theorem seald_1 {B : Nat → Int32} {p : Nat} {t : Int32} : seald B p t (p + 1) = t := by
  unfold seald stmp
  rw [pk_un (by omega), pk_un (by omega), pk_us]
theorem wrD_x {zf nf mf vf B : Nat → Int32} {f p x : Nat} (h : x < p + 15 ∨ p + 86 ≤ x) : wrD zf nf mf vf B f p x = B x := by
  unfold wrD
  rw [pk_cpy_out (by omega), pk_cpy_out (by omega), pk_un (by omega), pk_un (by omega)]
theorem wrD_15 {zf nf mf vf B : Nat → Int32} {f p : Nat} : wrD zf nf mf vf B f p (p + 15) = zf f ∧ wrD zf nf mf vf B f p (p + 16) = nf f := by
  unfold wrD
  rw [pk_cpy_out (by omega), pk_cpy_out (by omega), pk_un (by omega), pk_us, pk_cpy_out (by omega), pk_cpy_out (by omega), pk_us]
  exact ⟨rfl, rfl⟩
theorem wrR_x {fo vf : Nat → Int32} {p : Nat} : ∀ (k i m : Nat) (B : Nat → Int32) (x : Nat), (x < p + 17 ∨ p + 127 ≤ x) → wrR fo vf p k i m B x = B x
  | 0, _, _, _, _, _ => rfl
  | k + 1, i, m, B, x, h => by
    unfold wrR
    split
    · rfl
    · split
      · exact wrR_x k (i + 1) m B x h
      · rw [wrR_x k (i + 1) (m + 1) _ x h, pk_un (by omega), pk_un (by omega)]
theorem tg_val {jf vf : Nat → Int32} {f pt d o : Nat} (hf : f < 48) (hp : pt < 20) (hj : jf f = nI d) (hv : vf (f * 20 + pt) = nI o) : tgA jf vf (f * 20 + pt) = nI ((d * 20 + pt) * 512 + o) := by
  unfold tgA
  rw [if_neg (by omega), show (f * 20 + pt) / 20 = f by omega, show (f * 20 + pt) % 20 = pt by omega, hj, hv]
  show (nI d * nI 20 + nI pt) * nI 512 + nI o = _
  rw [pk_mul, nI_add, pk_mul, nI_add]
theorem tg_root {jf vf : Nat → Int32} {o : Nat} (hv : vf 960 = nI o) : tgA jf vf 960 = nI (5242880 + o) := by
  unfold tgA
  rw [if_pos rfl, hv]
  show nI 10240 * nI 512 + nI o = _
  rw [pk_mul, nI_add]
def H_114 (nn gg : Nat) (C me : Int32) (f u b : Nat → Int32)  : Nat → Nat → (Nat → Nat → Int32) → Int64 → Int64 → List Mg → St
  | 0, j, D1, K, A, Y =>
    (D1, K, A, Y)
  | k + 1, j, D1, K, A, Y =>
    bnN ((D1 18 4).toNatClampNeg) (fun o =>
      if ¬ (nI j) = 6 then
        if D1 18 14 = -1 then
          H_114 nn gg C me f u b k (j + 1) D1 K A Y
        else
          bnN ((D1 18 14).toNatClampNeg) (fun fi =>
            H_114 nn gg C me f u b k (j + 1) (va_up (va_up (va_up D1 16 (upd (D1 16) (fi * 20 + 19) (nI o))) 17 (upd (D1 17) (fi * 20 + 19) 0)) 21 (seald (wrD (D1 12) (D1 13) (D1 14) (upd (D1 16) (fi * 20 + 19) (nI o)) (D1 21) fi (j * 128)) (j * 128) (tgA (D1 11) (upd (D1 16) (fi * 20 + 19) (nI o)) (fi * 20 + 19)))) K A Y)
      else
        if D1 18 13 = -1 then
          H_114 nn gg C me f u b k (j + 1) D1 K A Y
        else
          bnN ((D1 18 13).toNatClampNeg) (fun fi =>
            H_114 nn gg C me f u b k (j + 1) (va_up (va_up (va_up D1 16 (upd (D1 16) (fi * 20 + 19) (nI o))) 17 (upd (D1 17) (fi * 20 + 19) 0)) 21 (seald (wrD (D1 12) (D1 13) (D1 14) (upd (D1 16) (fi * 20 + 19) (nI o)) (D1 21) fi (j * 128)) (j * 128) (tgA (D1 11) (upd (D1 16) (fi * 20 + 19) (nI o)) (fi * 20 + 19)))) K A Y))
def G_114 (nn gg : Nat) (C me : Int32) (f u b : Nat → Int32)  : Nat → Nat → (Nat → Nat → Int32) → Int64 → Int64 → List Mg → St
  | 0, i, D1, K, A, Y =>
    H_114 nn gg C me f u b 2 6 D1 K A Y
  | k + 1, i, D1, K, A, Y =>
    bnN ((D1 18 4).toNatClampNeg) (fun o =>
      bnN ((D1 18 10).toNatClampNeg) (fun q0 =>
        bnN ((D1 18 7).toNatClampNeg) (fun fi =>
          G_114 nn gg C me f u b k (i + 1) (va_up (va_up (va_up D1 16 (upd (D1 16) (fi * 20 + (q0 + i)) (nI o))) 17 (upd (D1 17) (fi * 20 + (q0 + i)) 0)) 21 (seald (D1 21) (i * 128) (tgA (D1 11) (upd (D1 16) (fi * 20 + (q0 + i)) (nI o)) (fi * 20 + (q0 + i))))) K A Y)))
def F_114 (nn gg : Nat) (C me : Int32) (f u b : Nat → Int32) (D : Nat → Nat → Int32) (K A : Int64) (Y : List Mg)  : St :=
  if (D 18 3) = 3 then
    bnN ((D 18 11).toNatClampNeg) (fun c =>
      G_114 nn gg C me f u b c 0 D K A Y)
  else
    (D, K, A, Y)
set_option maxRecDepth 100000 in
theorem s_114 {L : Nat} {xs : Nat → Int32} {fr lo : Nat} {Z : ZT} {n nd nn gg : Nat} {C me : Int32} {f : Nat → Int32} {q : Nat} {u b : Nat → Int32} {uv : Int32} {h0 h : ax_H} {D : Nat → Nat → Int32} {K A : Int64} {Y : List Mg}  (hfr : 4 ≤ fr) (hlo : 100 ≤ lo) (hC : CS n nd nn gg f) (hS : NS Z n nd nn gg C me f q u b uv h0 h D K A Y) (hI : NI Z nn D) (h5 : D 18 3 = 3 ∨ D 18 3 = 5) (hX : SI D) : ax_M L xs 114 fr lo [.ref (nd + 18)] h (fun r h' => r = none ∧ PS Z n nd nn gg C me f q u b uv h0 h' (fun D' K' A' Y' => (D', K', A', Y') = F_114 nn gg C me f u b D K A Y ∧ True)) := by
  have hC0 := hC
  have key2 : ∀ (k j : Nat) (h : ax_H) (D1 : Nat → Nat → Int32) (K A : Int64) (Y : List Mg), j + k = 8 → 6 ≤ j → NS Z n nd nn gg C me f q u b uv h0 h D1 K A Y → NI Z nn D1 → D1 18 3 = 3 → OKf (D1 11) (D1 18 13) → OKf (D1 11) (D1 18 14) → ax_A (ax_step L xs) ((114, 75, fr, lo), [(0, .ref (nd + 18)), (1, .int (nI j))], [], h) (fun r h' => r = none ∧ PS Z n nd nn gg C me f q u b uv h0 h' (fun D' K' A' Y' => (D', K', A', Y') = H_114 nn gg C me f u b k j D1 K A Y ∧ True)) := by
    intro k
    induction k with
    | zero =>
      intro j h D1 K A Y hj hj6 hS hI e3 x13 x14
      have e0 : j = 8 := by omega
      subst e0
      obtain ⟨hnd, hn0, hnn3, hnn, hgg1, hgg, hRg⟩ := hC
      obtain ⟨hF, hN, hf, hn, hs, hp0, hu0⟩ := hS
      replace hF : ax_hs h [cNd n nd me D1, cDk nd D1, cAr nd 2 35840 D1, cAr nd 3 4096 D1, cAr nd 4 32 D1, cAr nd 5 280 D1, cAr nd 6 280 D1, cLd n nd me D1 A, cAr nd 8 16 D1, cAr nd 9 280 D1, cTb nd gg D1 K, cAr nd 11 48 D1, cAr nd 12 48 D1, cAr nd 13 48 D1, cAr nd 14 2400 D1, cAr nd 15 512 D1, cAr nd 16 961 D1, cAr nd 17 961 D1, cWk nd D1, cWa nd D1, cAr nd 20 612 D1, cAr nd 21 1152 D1, cRk n nn gg C, cOr n nn gg f] := hF
      refine ar_iload_n 76 d_114_75 rfl rfl ?_
      refine ar_bipush 78 (v := 8) d_114_76 rfl (by decide) ?_
      refine ar_icmp_ge 170 81 d_114_78 (by decide) rfl (fun _ => ?_) (fun c => absurd (Int32.le_refl _) c)
      have hS9 : NS Z n nd nn gg C me f q u b uv h0 h D1 K A Y := ⟨hF, hN, hf, hn, hs, hp0, hu0⟩
      have hI9 : NI Z nn D1 := hI
      exact ar_ret d_114_170 rfl (⟨rfl, _, _, _, _, hS9, hI9, rfl, trivial⟩)
    | succ k ih =>
      intro j h D1 K A Y hj hj6 hS hI e3 x13 x14
      have hjc : j < 8 := by omega
      obtain ⟨o, ho, eo, -⟩ := hI.2.2.1.2.2.2.1 (neq e3 (by decide))
      obtain ⟨hnd, hn0, hnn3, hnn, hgg1, hgg, hRg⟩ := hC
      obtain ⟨hF, hN, hf, hn, hs, hp0, hu0⟩ := hS
      replace hF : ax_hs h [cNd n nd me D1, cDk nd D1, cAr nd 2 35840 D1, cAr nd 3 4096 D1, cAr nd 4 32 D1, cAr nd 5 280 D1, cAr nd 6 280 D1, cLd n nd me D1 A, cAr nd 8 16 D1, cAr nd 9 280 D1, cTb nd gg D1 K, cAr nd 11 48 D1, cAr nd 12 48 D1, cAr nd 13 48 D1, cAr nd 14 2400 D1, cAr nd 15 512 D1, cAr nd 16 961 D1, cAr nd 17 961 D1, cWk nd D1, cWa nd D1, cAr nd 20 612 D1, cAr nd 21 1152 D1, cRk n nn gg C, cOr n nn gg f] := hF
      refine ar_iload_n 76 d_114_75 rfl rfl ?_
      refine ar_bipush 78 (v := 8) d_114_76 rfl (by decide) ?_
      refine ar_icmp_ge 170 81 d_114_78 (by decide) rfl (fun c => absurd c (nI_ge hjc (by decide))) (fun _ => ?_)
      refine ar_iload_n 82 d_114_81 rfl rfl ?_
      refine ar_bipush 84 (v := 6) d_114_82 rfl (by decide) ?_
      refine ar_icmp_ne 94 87 d_114_84 (by decide) rfl (fun c6 => ?_) (fun c6 => ?_)
      · have xc : D1 18 14 = -1 ∨ ∃ p : Nat, p < 48 ∧ D1 18 14 = nI p ∧ ¬ D1 11 p < 0 := x14
        rcases xc with ex | ⟨fi, hfi, ex, hfj⟩
        · refine ar_aload_n 95 d_114_94 rfl rfl ?_
          refine ar_getf 98 d_114_95 rfl (ci := 10) (k := 14) rfl (hF.at 18 rfl) rfl ?_
          refine ar_top (x' := -1) (ex) ?_
          refine ar_istore_n 99 [(0, .ref (nd + 18)), (1, .int (nI j)), (2, .int (-1))] d_114_98 rfl (by decide) rfl ?_
          refine ar_iload_n 100 d_114_99 rfl rfl ?_
          refine ar_if_lt 164 103 d_114_100 (by decide) rfl (fun _ => ?_) (fun c => absurd (by decide) c)
          refine ar_iinc 167 [(0, .ref (nd + 18)), (1, .int (nI (j + 1))), (2, .int (-1))] d_114_164 rfl rfl (nI_1 j) (by decide) rfl ?_
          refine ar_goto 75 d_114_167 (by decide) ?_
          refine ar_wk [0, 1] rfl (by simp) ?_
          have hS1 : NS Z n nd nn gg C me f q u b uv h0 h D1 K A Y := ⟨hF, hN, hf, hn, hs, hp0, hu0⟩
          have hI1 : NI Z nn D1 := hI
          rw [← show H_114 nn gg C me f u b k (j + 1) D1 K A Y = H_114 nn gg C me f u b (k + 1) j D1 K A Y from bnN_eq (cl_eq ho eo) (eq_ifT c6 (eq_ifT ex (rfl)))]
          exact ih (j + 1) h D1 K A Y (by omega) (by omega) hS1 hI1 e3 x13 x14
        · refine ar_aload_n 95 d_114_94 rfl rfl ?_
          refine ar_getf 98 d_114_95 rfl (ci := 10) (k := 14) rfl (hF.at 18 rfl) rfl ?_
          refine ar_top (x' := nI fi) (ex) ?_
          refine ar_istore_n 99 [(0, .ref (nd + 18)), (1, .int (nI j)), (2, .int (nI fi))] d_114_98 rfl (by decide) rfl ?_
          refine ar_iload_n 100 d_114_99 rfl rfl ?_
          refine ar_if_lt 164 103 d_114_100 (by decide) rfl (fun c => absurd c (nI_pos (by omega))) (fun _ => ?_)
          refine ar_aload_n 104 d_114_103 rfl rfl ?_
          refine ar_getf 107 d_114_104 rfl (ci := 10) (k := 0) rfl (hF.at 18 rfl) rfl ?_
          refine ar_iload_n 108 d_114_107 rfl rfl ?_
          refine ar_bipush 110 (v := 20) d_114_108 rfl (by decide) ?_
          refine ar_imul 111 d_114_110 rfl ?_
          refine ar_top (x' := nI (fi * 20)) (pk_mul _ 20) ?_
          refine ar_bipush 113 (v := 19) d_114_111 rfl (by decide) ?_
          refine ar_iadd 114 d_114_113 rfl ?_
          refine ar_top (x' := nI (fi * 20 + 19)) (nI_add _ 19) ?_
          refine ar_aload_n 115 d_114_114 rfl rfl ?_
          refine ar_getf 118 d_114_115 rfl (ci := 10) (k := 4) rfl (hF.at 18 rfl) rfl ?_
          refine ar_top (x' := nI o) (eo) ?_
          refine ar_call (r := []) (na := 0) (kd := 0) (cm := 115) (fr2 := fr - 1) (lo2 := lo - 22) 121 d_114_118 (ar_hoV (as := [.int (nI (fi * 20 + 19)), .int (nI o)]) rfl rfl rfl (hF.at 10 rfl)) rfl (by omega) (show lo - 22 + (19 + 3) = lo by omega) (Nat.le_of_ble_eq_true rfl) (Nat.le_of_ble_eq_true rfl) (c_115 (a := fi * 20 + 19) (by omega) (hF.sub (F' := [cTb nd gg D1 K, cAr nd 16 961 D1, cAr nd 17 961 D1]) [10, 16, 17] rfl rfl) rfl rfl (by omega)) ?_
          intro v hp_1 hq
          obtain ⟨rfl, qF, qn, qs, qf⟩ := hq
          have qF : ax_hs hp_1 [cTb nd gg D1 K, (nd + 16, .inl (0, 961, .inl (upd (D1 16) (fi * 20 + 19) (nI o)))), (nd + 17, .inl (0, 961, .inl (upd (D1 17) (fi * 20 + 19) 0)))] := qF
          replace hF : ax_hs hp_1 [cNd n nd me D1, cDk nd D1, cAr nd 2 35840 D1, cAr nd 3 4096 D1, cAr nd 4 32 D1, cAr nd 5 280 D1, cAr nd 6 280 D1, cLd n nd me D1 A, cAr nd 8 16 D1, cAr nd 9 280 D1, cAr nd 11 48 D1, cAr nd 12 48 D1, cAr nd 13 48 D1, cAr nd 14 2400 D1, cAr nd 15 512 D1, cWk nd D1, cWa nd D1, cAr nd 20 612 D1, cAr nd 21 1152 D1, cRk n nn gg C, cOr n nn gg f, cTb nd gg D1 K, (nd + 16, .inl (0, 961, .inl (upd (D1 16) (fi * 20 + 19) (nI o)))), (nd + 17, .inl (0, 961, .inl (upd (D1 17) (fi * 20 + 19) 0)))] := ax_hs.call (rest := [cNd n nd me D1, cDk nd D1, cAr nd 2 35840 D1, cAr nd 3 4096 D1, cAr nd 4 32 D1, cAr nd 5 280 D1, cAr nd 6 280 D1, cLd n nd me D1 A, cAr nd 8 16 D1, cAr nd 9 280 D1, cAr nd 11 48 D1, cAr nd 12 48 D1, cAr nd 13 48 D1, cAr nd 14 2400 D1, cAr nd 15 512 D1, cWk nd D1, cWa nd D1, cAr nd 20 612 D1, cAr nd 21 1152 D1, cRk n nn gg C, cOr n nn gg f]) [10, 16, 17] [0, 1, 2, 3, 4, 5, 6, 7, 8, 9, 11, 12, 13, 14, 15, 18, 19, 20, 21, 22, 23] hF qf qF rfl rfl rfl [16, 17] rfl rfl [10, 16, 17] (news := []) rfl rfl (fun _ z => absurd z List.not_mem_nil) rfl
          replace hF := hF.sub (F' := [cNd n nd me D1, cDk nd D1, cAr nd 2 35840 D1, cAr nd 3 4096 D1, cAr nd 4 32 D1, cAr nd 5 280 D1, cAr nd 6 280 D1, cLd n nd me D1 A, cAr nd 8 16 D1, cAr nd 9 280 D1, cTb nd gg D1 K, cAr nd 11 48 D1, cAr nd 12 48 D1, cAr nd 13 48 D1, cAr nd 14 2400 D1, cAr nd 15 512 D1, (nd + 16, .inl (0, 961, .inl (upd (D1 16) (fi * 20 + 19) (nI o)))), (nd + 17, .inl (0, 961, .inl (upd (D1 17) (fi * 20 + 19) 0))), cWk nd D1, cWa nd D1, cAr nd 20 612 D1, cAr nd 21 1152 D1, cRk n nn gg C, cOr n nn gg f]) [0, 1, 2, 3, 4, 5, 6, 7, 8, 9, 21, 10, 11, 12, 13, 14, 22, 23, 15, 16, 17, 18, 19, 20] rfl rfl
          replace hN := hN.fr qf (fun x hx z => by simp only [List.mem_cons, List.not_mem_nil, or_false] at z; unfold NTA at hx; omega)
          replace hf := hf.trC qf (fun x _ z => Or.inr (by simp only [List.mem_cons, List.not_mem_nil, or_false] at z; omega))
          replace hn : hp_1.1 = h0.1 := by omega
          replace hs : hp_1.2.1 = h0.2.1 := by omega
          clear qF qn qs qf
          refine ar_aload_n 122 d_114_121 rfl rfl ?_
          refine ar_getf 125 d_114_122 rfl (ci := 10) (k := 0) rfl (hF.at 18 rfl) rfl ?_
          refine ar_iload_n 126 d_114_125 rfl rfl ?_
          refine ar_aload_n 127 d_114_126 rfl rfl ?_
          refine ar_getf 130 d_114_127 rfl (ci := 10) (k := 2) rfl (hF.at 18 rfl) rfl ?_
          refine ar_iload_n 131 d_114_130 rfl rfl ?_
          refine ar_sipush 134 (v := 128) d_114_131 rfl (by decide) ?_
          refine ar_imul 135 d_114_134 rfl ?_
          refine ar_top (x' := nI (j * 128)) (pk_mul _ 128) ?_
          refine ar_call (r := []) (na := 0) (kd := 0) (cm := 118) (fr2 := fr - 1) (lo2 := lo - 24) 138 d_114_135 (ar_hoV (as := [.int (nI fi), .ref (nd + 21), .int (nI (j * 128))]) rfl rfl rfl (hF.at 10 rfl)) rfl (by omega) (show lo - 24 + (19 + 5) = lo by omega) (Nat.le_of_ble_eq_true rfl) (Nat.le_of_ble_eq_true rfl) (c_118 (p := j * 128) (by omega) (by omega) (by decide) (by omega) hfi (hF.sub (F' := [cTb nd gg D1 K, cAr nd 12 48 D1, cAr nd 13 48 D1, cAr nd 14 2400 D1, (nd + 16, .inl (0, 961, .inl (upd (D1 16) (fi * 20 + 19) (nI o)))), cAr nd 21 1152 D1]) [10, 12, 13, 14, 16, 21] rfl rfl) rfl rfl (by omega)) ?_
          intro v hp_2 hq
          obtain ⟨rfl, qF, qn, qs, qf⟩ := hq
          have qF : ax_hs hp_2 [cTb nd gg D1 K, cAr nd 12 48 D1, cAr nd 13 48 D1, cAr nd 14 2400 D1, (nd + 16, .inl (0, 961, .inl (upd (D1 16) (fi * 20 + 19) (nI o)))), (nd + 21, .inl (0, 1152, .inl (wrD (D1 12) (D1 13) (D1 14) (upd (D1 16) (fi * 20 + 19) (nI o)) (D1 21) fi (j * 128))))] := qF
          replace hF : ax_hs hp_2 [cNd n nd me D1, cDk nd D1, cAr nd 2 35840 D1, cAr nd 3 4096 D1, cAr nd 4 32 D1, cAr nd 5 280 D1, cAr nd 6 280 D1, cLd n nd me D1 A, cAr nd 8 16 D1, cAr nd 9 280 D1, cAr nd 11 48 D1, cAr nd 15 512 D1, (nd + 17, .inl (0, 961, .inl (upd (D1 17) (fi * 20 + 19) 0))), cWk nd D1, cWa nd D1, cAr nd 20 612 D1, cRk n nn gg C, cOr n nn gg f, cTb nd gg D1 K, cAr nd 12 48 D1, cAr nd 13 48 D1, cAr nd 14 2400 D1, (nd + 16, .inl (0, 961, .inl (upd (D1 16) (fi * 20 + 19) (nI o)))), (nd + 21, .inl (0, 1152, .inl (wrD (D1 12) (D1 13) (D1 14) (upd (D1 16) (fi * 20 + 19) (nI o)) (D1 21) fi (j * 128))))] := ax_hs.call (rest := [cNd n nd me D1, cDk nd D1, cAr nd 2 35840 D1, cAr nd 3 4096 D1, cAr nd 4 32 D1, cAr nd 5 280 D1, cAr nd 6 280 D1, cLd n nd me D1 A, cAr nd 8 16 D1, cAr nd 9 280 D1, cAr nd 11 48 D1, cAr nd 15 512 D1, (nd + 17, .inl (0, 961, .inl (upd (D1 17) (fi * 20 + 19) 0))), cWk nd D1, cWa nd D1, cAr nd 20 612 D1, cRk n nn gg C, cOr n nn gg f]) [10, 12, 13, 14, 16, 21] [0, 1, 2, 3, 4, 5, 6, 7, 8, 9, 11, 15, 17, 18, 19, 20, 22, 23] hF qf qF rfl rfl rfl [21] rfl rfl [10, 12, 13, 14, 16, 21] (news := []) rfl rfl (fun _ z => absurd z List.not_mem_nil) rfl
          replace hF := hF.sub (F' := [cNd n nd me D1, cDk nd D1, cAr nd 2 35840 D1, cAr nd 3 4096 D1, cAr nd 4 32 D1, cAr nd 5 280 D1, cAr nd 6 280 D1, cLd n nd me D1 A, cAr nd 8 16 D1, cAr nd 9 280 D1, cTb nd gg D1 K, cAr nd 11 48 D1, cAr nd 12 48 D1, cAr nd 13 48 D1, cAr nd 14 2400 D1, cAr nd 15 512 D1, (nd + 16, .inl (0, 961, .inl (upd (D1 16) (fi * 20 + 19) (nI o)))), (nd + 17, .inl (0, 961, .inl (upd (D1 17) (fi * 20 + 19) 0))), cWk nd D1, cWa nd D1, cAr nd 20 612 D1, (nd + 21, .inl (0, 1152, .inl (wrD (D1 12) (D1 13) (D1 14) (upd (D1 16) (fi * 20 + 19) (nI o)) (D1 21) fi (j * 128)))), cRk n nn gg C, cOr n nn gg f]) [0, 1, 2, 3, 4, 5, 6, 7, 8, 9, 18, 10, 19, 20, 21, 11, 22, 12, 13, 14, 15, 23, 16, 17] rfl rfl
          replace hN := hN.fr qf (fun x hx z => by simp only [List.mem_cons, List.not_mem_nil, or_false] at z; unfold NTA at hx; omega)
          replace hf := hf.trC qf (fun x _ z => Or.inr (by simp only [List.mem_cons, List.not_mem_nil, or_false] at z; omega))
          replace hn : hp_2.1 = h0.1 := by omega
          replace hs : hp_2.2.1 = h0.2.1 := by omega
          clear qF qn qs qf
          refine ar_aload_n 139 d_114_138 rfl rfl ?_
          refine ar_getf 142 d_114_139 rfl (ci := 10) (k := 2) rfl (hF.at 18 rfl) rfl ?_
          refine ar_iload_n 143 d_114_142 rfl rfl ?_
          refine ar_sipush 146 (v := 128) d_114_143 rfl (by decide) ?_
          refine ar_imul 147 d_114_146 rfl ?_
          refine ar_top (x' := nI (j * 128)) (pk_mul _ 128) ?_
          refine ar_aload_n 148 d_114_147 rfl rfl ?_
          refine ar_getf 151 d_114_148 rfl (ci := 10) (k := 0) rfl (hF.at 18 rfl) rfl ?_
          refine ar_iload_n 152 d_114_151 rfl rfl ?_
          refine ar_bipush 154 (v := 20) d_114_152 rfl (by decide) ?_
          refine ar_imul 155 d_114_154 rfl ?_
          refine ar_top (x' := nI (fi * 20)) (pk_mul _ 20) ?_
          refine ar_bipush 157 (v := 19) d_114_155 rfl (by decide) ?_
          refine ar_iadd 158 d_114_157 rfl ?_
          refine ar_top (x' := nI (fi * 20 + 19)) (nI_add _ 19) ?_
          refine ar_call (r := [.int (nI (j * 128)), .ref (nd + 21)]) (na := 0) (kd := 0) (cm := 116) (fr2 := fr - 1) (lo2 := lo - 22) 161 d_114_158 (ar_hoV (as := [.int (nI (fi * 20 + 19))]) rfl rfl rfl (hF.at 10 rfl)) rfl (by omega) (show lo - 22 + (19 + 3) = lo by omega) (Nat.le_of_ble_eq_true rfl) (Nat.le_of_ble_eq_true rfl) (c_116 (a := (fi * 20 + 19)) (by omega) (hF.at 10 rfl) (hF.at 11 rfl) (hF.at 16 rfl)) ?_
          intro v hh hq
          obtain ⟨rfl, ehh⟩ := hq
          rw [ehh]
          clear ehh
          refine ar_call (r := []) (na := 0) (kd := 0) (cm := 117) (fr2 := fr - 1) (lo2 := lo - 22) 164 d_114_161 (ar_hoS (as := [.ref (nd + 21), .int (nI (j * 128)), .int (tgA (D1 11) (upd (D1 16) (fi * 20 + 19) (nI o)) (fi * 20 + 19))]) rfl rfl rfl) rfl (by omega) (show lo - 22 + (19 + 3) = lo by omega) (Nat.le_of_ble_eq_true rfl) (Nat.le_of_ble_eq_true rfl) (c_117 (i := j * 128) (by omega) (by omega) (by decide) (by omega) (ax_hs.one (hF.at 21 rfl))) ?_
          intro v hh hq
          obtain ⟨rfl, rfl⟩ := hq
          replace hF : ax_hs (ax_put hp_2 (nd + 21) (.inl (0, 1152, .inl (seald (wrD (D1 12) (D1 13) (D1 14) (upd (D1 16) (fi * 20 + 19) (nI o)) (D1 21) fi (j * 128)) (j * 128) (tgA (D1 11) (upd (D1 16) (fi * 20 + 19) (nI o)) (fi * 20 + 19)))))) [cNd n nd me D1, cDk nd D1, cAr nd 2 35840 D1, cAr nd 3 4096 D1, cAr nd 4 32 D1, cAr nd 5 280 D1, cAr nd 6 280 D1, cLd n nd me D1 A, cAr nd 8 16 D1, cAr nd 9 280 D1, cTb nd gg D1 K, cAr nd 11 48 D1, cAr nd 12 48 D1, cAr nd 13 48 D1, cAr nd 14 2400 D1, cAr nd 15 512 D1, (nd + 16, .inl (0, 961, .inl (upd (D1 16) (fi * 20 + 19) (nI o)))), (nd + 17, .inl (0, 961, .inl (upd (D1 17) (fi * 20 + 19) 0))), cWk nd D1, cWa nd D1, cAr nd 20 612 D1, (nd + 21, .inl (0, 1152, .inl (seald (wrD (D1 12) (D1 13) (D1 14) (upd (D1 16) (fi * 20 + 19) (nI o)) (D1 21) fi (j * 128)) (j * 128) (tgA (D1 11) (upd (D1 16) (fi * 20 + 19) (nI o)) (fi * 20 + 19))))), cRk n nn gg C, cOr n nn gg f] := hF.put 21 _ rfl rfl
          replace hf := hf.put (a := nd + 21) (c := .inl (0, 1152, .inl (seald (wrD (D1 12) (D1 13) (D1 14) (upd (D1 16) (fi * 20 + 19) (nI o)) (D1 21) fi (j * 128)) (j * 128) (tgA (D1 11) (upd (D1 16) (fi * 20 + 19) (nI o)) (fi * 20 + 19))))) (Or.inr (by omega))
          replace hN := hN.put (a := nd + 21) (c := .inl (0, 1152, .inl (seald (wrD (D1 12) (D1 13) (D1 14) (upd (D1 16) (fi * 20 + 19) (nI o)) (D1 21) fi (j * 128)) (j * 128) (tgA (D1 11) (upd (D1 16) (fi * 20 + 19) (nI o)) (fi * 20 + 19))))) (by omega)
          replace hn : (ax_put hp_2 (nd + 21) (.inl (0, 1152, .inl (seald (wrD (D1 12) (D1 13) (D1 14) (upd (D1 16) (fi * 20 + 19) (nI o)) (D1 21) fi (j * 128)) (j * 128) (tgA (D1 11) (upd (D1 16) (fi * 20 + 19) (nI o)) (fi * 20 + 19)))))).1 = h0.1 := hn
          replace hs : (ax_put hp_2 (nd + 21) (.inl (0, 1152, .inl (seald (wrD (D1 12) (D1 13) (D1 14) (upd (D1 16) (fi * 20 + 19) (nI o)) (D1 21) fi (j * 128)) (j * 128) (tgA (D1 11) (upd (D1 16) (fi * 20 + 19) (nI o)) (fi * 20 + 19)))))).2.1 = h0.2.1 := hs
          generalize ax_put hp_2 (nd + 21) (.inl (0, 1152, .inl (seald (wrD (D1 12) (D1 13) (D1 14) (upd (D1 16) (fi * 20 + 19) (nI o)) (D1 21) fi (j * 128)) (j * 128) (tgA (D1 11) (upd (D1 16) (fi * 20 + 19) (nI o)) (fi * 20 + 19))))) = hp_3 at hF hf hN hn hs ⊢
          obtain ⟨d, hd, ed⟩ := hI.2.1.jn hfi hfj
          have hB : GB Z (seald (wrD (D1 12) (D1 13) (D1 14) (upd (D1 16) (fi * 20 + 19) (nI o)) (D1 21) fi (j * 128)) (j * 128) (tgA (D1 11) (upd (D1 16) (fi * 20 + 19) (nI o)) (fi * 20 + 19))) := by
            refine GB.set (i := j) hI.2.2.1.2.2.2.2.2.2.2 (fun b hb hbj x hx => ?_) (fun k hk ek => ?_)
            · rw [seald_x (by omega) (by omega) (by omega), wrD_x (by omega)]
            · rw [seald_1, tg_val (f := fi) (pt := 19) hfi (by decide) ed pk_us] at ek
              have e := nI_inj (by omega) hk ek
              refine ⟨fun z => by omega, fun _ _ => ?_⟩
              rw [seald_x (by omega) (by omega) (by omega), seald_x (by omega) (by omega) (by omega), wrD_15.1, wrD_15.2]
              exact hI.2.1.2.2.2.1 fi hfi
          refine ar_iinc 167 [(0, .ref (nd + 18)), (1, .int (nI (j + 1))), (2, .int (nI fi))] d_114_164 rfl rfl (nI_1 j) (by decide) rfl ?_
          refine ar_goto 75 d_114_167 (by decide) ?_
          refine ar_wk [0, 1] rfl (by simp) ?_
          have hS1 : NS Z n nd nn gg C me f q u b uv h0 hp_3 (va_up (va_up (va_up D1 16 (upd (D1 16) (fi * 20 + 19) (nI o))) 17 (upd (D1 17) (fi * 20 + 19) 0)) 21 (seald (wrD (D1 12) (D1 13) (D1 14) (upd (D1 16) (fi * 20 + 19) (nI o)) (D1 21) fi (j * 128)) (j * 128) (tgA (D1 11) (upd (D1 16) (fi * 20 + 19) (nI o)) (fi * 20 + 19)))) K A Y := ⟨hF, hN, hf, hn, hs, hp0, hu0⟩
          have hI1 : NI Z nn (va_up (va_up (va_up D1 16 (upd (D1 16) (fi * 20 + 19) (nI o))) 17 (upd (D1 17) (fi * 20 + 19) 0)) 21 (seald (wrD (D1 12) (D1 13) (D1 14) (upd (D1 16) (fi * 20 + 19) (nI o)) (D1 21) fi (j * 128)) (j * 128) (tgA (D1 11) (upd (D1 16) (fi * 20 + 19) (nI o)) (fi * 20 + 19)))) := ⟨hI.1, hI.2.1.renew (by omega) ho (fun _ => by rw [show (fi * 20 + 19) / 20 = fi by omega]; exact hfj) (fun z => by omega), hI.2.2.1.cg (neq e3 (by decide)) rfl rfl rfl rfl hB, hI.2.2.2⟩
          rw [← show H_114 nn gg C me f u b k (j + 1) (va_up (va_up (va_up D1 16 (upd (D1 16) (fi * 20 + 19) (nI o))) 17 (upd (D1 17) (fi * 20 + 19) 0)) 21 (seald (wrD (D1 12) (D1 13) (D1 14) (upd (D1 16) (fi * 20 + 19) (nI o)) (D1 21) fi (j * 128)) (j * 128) (tgA (D1 11) (upd (D1 16) (fi * 20 + 19) (nI o)) (fi * 20 + 19)))) K A Y = H_114 nn gg C me f u b (k + 1) j D1 K A Y from bnN_eq (cl_eq ho eo) (eq_ifT c6 (eq_ifF (nI_ne1 hfi ex) (bnN_eq (cl_eq hfi ex) (rfl))))]
          exact ih (j + 1) hp_3 (va_up (va_up (va_up D1 16 (upd (D1 16) (fi * 20 + 19) (nI o))) 17 (upd (D1 17) (fi * 20 + 19) 0)) 21 (seald (wrD (D1 12) (D1 13) (D1 14) (upd (D1 16) (fi * 20 + 19) (nI o)) (D1 21) fi (j * 128)) (j * 128) (tgA (D1 11) (upd (D1 16) (fi * 20 + 19) (nI o)) (fi * 20 + 19)))) K A Y (by omega) (by omega) hS1 hI1 e3 x13 x14
      · have xc : D1 18 13 = -1 ∨ ∃ p : Nat, p < 48 ∧ D1 18 13 = nI p ∧ ¬ D1 11 p < 0 := x13
        rcases xc with ex | ⟨fi, hfi, ex, hfj⟩
        · refine ar_aload_n 88 d_114_87 rfl rfl ?_
          refine ar_getf 91 d_114_88 rfl (ci := 10) (k := 13) rfl (hF.at 18 rfl) rfl ?_
          refine ar_top (x' := -1) (ex) ?_
          refine ar_goto 98 d_114_91 (by decide) ?_
          refine ar_istore_n 99 [(0, .ref (nd + 18)), (1, .int (nI j)), (2, .int (-1))] d_114_98 rfl (by decide) rfl ?_
          refine ar_iload_n 100 d_114_99 rfl rfl ?_
          refine ar_if_lt 164 103 d_114_100 (by decide) rfl (fun _ => ?_) (fun c => absurd (by decide) c)
          refine ar_iinc 167 [(0, .ref (nd + 18)), (1, .int (nI (j + 1))), (2, .int (-1))] d_114_164 rfl rfl (nI_1 j) (by decide) rfl ?_
          refine ar_goto 75 d_114_167 (by decide) ?_
          refine ar_wk [0, 1] rfl (by simp) ?_
          have hS1 : NS Z n nd nn gg C me f q u b uv h0 h D1 K A Y := ⟨hF, hN, hf, hn, hs, hp0, hu0⟩
          have hI1 : NI Z nn D1 := hI
          rw [← show H_114 nn gg C me f u b k (j + 1) D1 K A Y = H_114 nn gg C me f u b (k + 1) j D1 K A Y from bnN_eq (cl_eq ho eo) (eq_ifF c6 (eq_ifT ex (rfl)))]
          exact ih (j + 1) h D1 K A Y (by omega) (by omega) hS1 hI1 e3 x13 x14
        · refine ar_aload_n 88 d_114_87 rfl rfl ?_
          refine ar_getf 91 d_114_88 rfl (ci := 10) (k := 13) rfl (hF.at 18 rfl) rfl ?_
          refine ar_top (x' := nI fi) (ex) ?_
          refine ar_goto 98 d_114_91 (by decide) ?_
          refine ar_istore_n 99 [(0, .ref (nd + 18)), (1, .int (nI j)), (2, .int (nI fi))] d_114_98 rfl (by decide) rfl ?_
          refine ar_iload_n 100 d_114_99 rfl rfl ?_
          refine ar_if_lt 164 103 d_114_100 (by decide) rfl (fun c => absurd c (nI_pos (by omega))) (fun _ => ?_)
          refine ar_aload_n 104 d_114_103 rfl rfl ?_
          refine ar_getf 107 d_114_104 rfl (ci := 10) (k := 0) rfl (hF.at 18 rfl) rfl ?_
          refine ar_iload_n 108 d_114_107 rfl rfl ?_
          refine ar_bipush 110 (v := 20) d_114_108 rfl (by decide) ?_
          refine ar_imul 111 d_114_110 rfl ?_
          refine ar_top (x' := nI (fi * 20)) (pk_mul _ 20) ?_
          refine ar_bipush 113 (v := 19) d_114_111 rfl (by decide) ?_
          refine ar_iadd 114 d_114_113 rfl ?_
          refine ar_top (x' := nI (fi * 20 + 19)) (nI_add _ 19) ?_
          refine ar_aload_n 115 d_114_114 rfl rfl ?_
          refine ar_getf 118 d_114_115 rfl (ci := 10) (k := 4) rfl (hF.at 18 rfl) rfl ?_
          refine ar_top (x' := nI o) (eo) ?_
          refine ar_call (r := []) (na := 0) (kd := 0) (cm := 115) (fr2 := fr - 1) (lo2 := lo - 22) 121 d_114_118 (ar_hoV (as := [.int (nI (fi * 20 + 19)), .int (nI o)]) rfl rfl rfl (hF.at 10 rfl)) rfl (by omega) (show lo - 22 + (19 + 3) = lo by omega) (Nat.le_of_ble_eq_true rfl) (Nat.le_of_ble_eq_true rfl) (c_115 (a := fi * 20 + 19) (by omega) (hF.sub (F' := [cTb nd gg D1 K, cAr nd 16 961 D1, cAr nd 17 961 D1]) [10, 16, 17] rfl rfl) rfl rfl (by omega)) ?_
          intro v hp_4 hq
          obtain ⟨rfl, qF, qn, qs, qf⟩ := hq
          have qF : ax_hs hp_4 [cTb nd gg D1 K, (nd + 16, .inl (0, 961, .inl (upd (D1 16) (fi * 20 + 19) (nI o)))), (nd + 17, .inl (0, 961, .inl (upd (D1 17) (fi * 20 + 19) 0)))] := qF
          replace hF : ax_hs hp_4 [cNd n nd me D1, cDk nd D1, cAr nd 2 35840 D1, cAr nd 3 4096 D1, cAr nd 4 32 D1, cAr nd 5 280 D1, cAr nd 6 280 D1, cLd n nd me D1 A, cAr nd 8 16 D1, cAr nd 9 280 D1, cAr nd 11 48 D1, cAr nd 12 48 D1, cAr nd 13 48 D1, cAr nd 14 2400 D1, cAr nd 15 512 D1, cWk nd D1, cWa nd D1, cAr nd 20 612 D1, cAr nd 21 1152 D1, cRk n nn gg C, cOr n nn gg f, cTb nd gg D1 K, (nd + 16, .inl (0, 961, .inl (upd (D1 16) (fi * 20 + 19) (nI o)))), (nd + 17, .inl (0, 961, .inl (upd (D1 17) (fi * 20 + 19) 0)))] := ax_hs.call (rest := [cNd n nd me D1, cDk nd D1, cAr nd 2 35840 D1, cAr nd 3 4096 D1, cAr nd 4 32 D1, cAr nd 5 280 D1, cAr nd 6 280 D1, cLd n nd me D1 A, cAr nd 8 16 D1, cAr nd 9 280 D1, cAr nd 11 48 D1, cAr nd 12 48 D1, cAr nd 13 48 D1, cAr nd 14 2400 D1, cAr nd 15 512 D1, cWk nd D1, cWa nd D1, cAr nd 20 612 D1, cAr nd 21 1152 D1, cRk n nn gg C, cOr n nn gg f]) [10, 16, 17] [0, 1, 2, 3, 4, 5, 6, 7, 8, 9, 11, 12, 13, 14, 15, 18, 19, 20, 21, 22, 23] hF qf qF rfl rfl rfl [16, 17] rfl rfl [10, 16, 17] (news := []) rfl rfl (fun _ z => absurd z List.not_mem_nil) rfl
          replace hF := hF.sub (F' := [cNd n nd me D1, cDk nd D1, cAr nd 2 35840 D1, cAr nd 3 4096 D1, cAr nd 4 32 D1, cAr nd 5 280 D1, cAr nd 6 280 D1, cLd n nd me D1 A, cAr nd 8 16 D1, cAr nd 9 280 D1, cTb nd gg D1 K, cAr nd 11 48 D1, cAr nd 12 48 D1, cAr nd 13 48 D1, cAr nd 14 2400 D1, cAr nd 15 512 D1, (nd + 16, .inl (0, 961, .inl (upd (D1 16) (fi * 20 + 19) (nI o)))), (nd + 17, .inl (0, 961, .inl (upd (D1 17) (fi * 20 + 19) 0))), cWk nd D1, cWa nd D1, cAr nd 20 612 D1, cAr nd 21 1152 D1, cRk n nn gg C, cOr n nn gg f]) [0, 1, 2, 3, 4, 5, 6, 7, 8, 9, 21, 10, 11, 12, 13, 14, 22, 23, 15, 16, 17, 18, 19, 20] rfl rfl
          replace hN := hN.fr qf (fun x hx z => by simp only [List.mem_cons, List.not_mem_nil, or_false] at z; unfold NTA at hx; omega)
          replace hf := hf.trC qf (fun x _ z => Or.inr (by simp only [List.mem_cons, List.not_mem_nil, or_false] at z; omega))
          replace hn : hp_4.1 = h0.1 := by omega
          replace hs : hp_4.2.1 = h0.2.1 := by omega
          clear qF qn qs qf
          refine ar_aload_n 122 d_114_121 rfl rfl ?_
          refine ar_getf 125 d_114_122 rfl (ci := 10) (k := 0) rfl (hF.at 18 rfl) rfl ?_
          refine ar_iload_n 126 d_114_125 rfl rfl ?_
          refine ar_aload_n 127 d_114_126 rfl rfl ?_
          refine ar_getf 130 d_114_127 rfl (ci := 10) (k := 2) rfl (hF.at 18 rfl) rfl ?_
          refine ar_iload_n 131 d_114_130 rfl rfl ?_
          refine ar_sipush 134 (v := 128) d_114_131 rfl (by decide) ?_
          refine ar_imul 135 d_114_134 rfl ?_
          refine ar_top (x' := nI (j * 128)) (pk_mul _ 128) ?_
          refine ar_call (r := []) (na := 0) (kd := 0) (cm := 118) (fr2 := fr - 1) (lo2 := lo - 24) 138 d_114_135 (ar_hoV (as := [.int (nI fi), .ref (nd + 21), .int (nI (j * 128))]) rfl rfl rfl (hF.at 10 rfl)) rfl (by omega) (show lo - 24 + (19 + 5) = lo by omega) (Nat.le_of_ble_eq_true rfl) (Nat.le_of_ble_eq_true rfl) (c_118 (p := j * 128) (by omega) (by omega) (by decide) (by omega) hfi (hF.sub (F' := [cTb nd gg D1 K, cAr nd 12 48 D1, cAr nd 13 48 D1, cAr nd 14 2400 D1, (nd + 16, .inl (0, 961, .inl (upd (D1 16) (fi * 20 + 19) (nI o)))), cAr nd 21 1152 D1]) [10, 12, 13, 14, 16, 21] rfl rfl) rfl rfl (by omega)) ?_
          intro v hp_5 hq
          obtain ⟨rfl, qF, qn, qs, qf⟩ := hq
          have qF : ax_hs hp_5 [cTb nd gg D1 K, cAr nd 12 48 D1, cAr nd 13 48 D1, cAr nd 14 2400 D1, (nd + 16, .inl (0, 961, .inl (upd (D1 16) (fi * 20 + 19) (nI o)))), (nd + 21, .inl (0, 1152, .inl (wrD (D1 12) (D1 13) (D1 14) (upd (D1 16) (fi * 20 + 19) (nI o)) (D1 21) fi (j * 128))))] := qF
          replace hF : ax_hs hp_5 [cNd n nd me D1, cDk nd D1, cAr nd 2 35840 D1, cAr nd 3 4096 D1, cAr nd 4 32 D1, cAr nd 5 280 D1, cAr nd 6 280 D1, cLd n nd me D1 A, cAr nd 8 16 D1, cAr nd 9 280 D1, cAr nd 11 48 D1, cAr nd 15 512 D1, (nd + 17, .inl (0, 961, .inl (upd (D1 17) (fi * 20 + 19) 0))), cWk nd D1, cWa nd D1, cAr nd 20 612 D1, cRk n nn gg C, cOr n nn gg f, cTb nd gg D1 K, cAr nd 12 48 D1, cAr nd 13 48 D1, cAr nd 14 2400 D1, (nd + 16, .inl (0, 961, .inl (upd (D1 16) (fi * 20 + 19) (nI o)))), (nd + 21, .inl (0, 1152, .inl (wrD (D1 12) (D1 13) (D1 14) (upd (D1 16) (fi * 20 + 19) (nI o)) (D1 21) fi (j * 128))))] := ax_hs.call (rest := [cNd n nd me D1, cDk nd D1, cAr nd 2 35840 D1, cAr nd 3 4096 D1, cAr nd 4 32 D1, cAr nd 5 280 D1, cAr nd 6 280 D1, cLd n nd me D1 A, cAr nd 8 16 D1, cAr nd 9 280 D1, cAr nd 11 48 D1, cAr nd 15 512 D1, (nd + 17, .inl (0, 961, .inl (upd (D1 17) (fi * 20 + 19) 0))), cWk nd D1, cWa nd D1, cAr nd 20 612 D1, cRk n nn gg C, cOr n nn gg f]) [10, 12, 13, 14, 16, 21] [0, 1, 2, 3, 4, 5, 6, 7, 8, 9, 11, 15, 17, 18, 19, 20, 22, 23] hF qf qF rfl rfl rfl [21] rfl rfl [10, 12, 13, 14, 16, 21] (news := []) rfl rfl (fun _ z => absurd z List.not_mem_nil) rfl
          replace hF := hF.sub (F' := [cNd n nd me D1, cDk nd D1, cAr nd 2 35840 D1, cAr nd 3 4096 D1, cAr nd 4 32 D1, cAr nd 5 280 D1, cAr nd 6 280 D1, cLd n nd me D1 A, cAr nd 8 16 D1, cAr nd 9 280 D1, cTb nd gg D1 K, cAr nd 11 48 D1, cAr nd 12 48 D1, cAr nd 13 48 D1, cAr nd 14 2400 D1, cAr nd 15 512 D1, (nd + 16, .inl (0, 961, .inl (upd (D1 16) (fi * 20 + 19) (nI o)))), (nd + 17, .inl (0, 961, .inl (upd (D1 17) (fi * 20 + 19) 0))), cWk nd D1, cWa nd D1, cAr nd 20 612 D1, (nd + 21, .inl (0, 1152, .inl (wrD (D1 12) (D1 13) (D1 14) (upd (D1 16) (fi * 20 + 19) (nI o)) (D1 21) fi (j * 128)))), cRk n nn gg C, cOr n nn gg f]) [0, 1, 2, 3, 4, 5, 6, 7, 8, 9, 18, 10, 19, 20, 21, 11, 22, 12, 13, 14, 15, 23, 16, 17] rfl rfl
          replace hN := hN.fr qf (fun x hx z => by simp only [List.mem_cons, List.not_mem_nil, or_false] at z; unfold NTA at hx; omega)
          replace hf := hf.trC qf (fun x _ z => Or.inr (by simp only [List.mem_cons, List.not_mem_nil, or_false] at z; omega))
          replace hn : hp_5.1 = h0.1 := by omega
          replace hs : hp_5.2.1 = h0.2.1 := by omega
          clear qF qn qs qf
          refine ar_aload_n 139 d_114_138 rfl rfl ?_
          refine ar_getf 142 d_114_139 rfl (ci := 10) (k := 2) rfl (hF.at 18 rfl) rfl ?_
          refine ar_iload_n 143 d_114_142 rfl rfl ?_
          refine ar_sipush 146 (v := 128) d_114_143 rfl (by decide) ?_
          refine ar_imul 147 d_114_146 rfl ?_
          refine ar_top (x' := nI (j * 128)) (pk_mul _ 128) ?_
          refine ar_aload_n 148 d_114_147 rfl rfl ?_
          refine ar_getf 151 d_114_148 rfl (ci := 10) (k := 0) rfl (hF.at 18 rfl) rfl ?_
          refine ar_iload_n 152 d_114_151 rfl rfl ?_
          refine ar_bipush 154 (v := 20) d_114_152 rfl (by decide) ?_
          refine ar_imul 155 d_114_154 rfl ?_
          refine ar_top (x' := nI (fi * 20)) (pk_mul _ 20) ?_
          refine ar_bipush 157 (v := 19) d_114_155 rfl (by decide) ?_
          refine ar_iadd 158 d_114_157 rfl ?_
          refine ar_top (x' := nI (fi * 20 + 19)) (nI_add _ 19) ?_
          refine ar_call (r := [.int (nI (j * 128)), .ref (nd + 21)]) (na := 0) (kd := 0) (cm := 116) (fr2 := fr - 1) (lo2 := lo - 22) 161 d_114_158 (ar_hoV (as := [.int (nI (fi * 20 + 19))]) rfl rfl rfl (hF.at 10 rfl)) rfl (by omega) (show lo - 22 + (19 + 3) = lo by omega) (Nat.le_of_ble_eq_true rfl) (Nat.le_of_ble_eq_true rfl) (c_116 (a := (fi * 20 + 19)) (by omega) (hF.at 10 rfl) (hF.at 11 rfl) (hF.at 16 rfl)) ?_
          intro v hh hq
          obtain ⟨rfl, ehh⟩ := hq
          rw [ehh]
          clear ehh
          refine ar_call (r := []) (na := 0) (kd := 0) (cm := 117) (fr2 := fr - 1) (lo2 := lo - 22) 164 d_114_161 (ar_hoS (as := [.ref (nd + 21), .int (nI (j * 128)), .int (tgA (D1 11) (upd (D1 16) (fi * 20 + 19) (nI o)) (fi * 20 + 19))]) rfl rfl rfl) rfl (by omega) (show lo - 22 + (19 + 3) = lo by omega) (Nat.le_of_ble_eq_true rfl) (Nat.le_of_ble_eq_true rfl) (c_117 (i := j * 128) (by omega) (by omega) (by decide) (by omega) (ax_hs.one (hF.at 21 rfl))) ?_
          intro v hh hq
          obtain ⟨rfl, rfl⟩ := hq
          replace hF : ax_hs (ax_put hp_5 (nd + 21) (.inl (0, 1152, .inl (seald (wrD (D1 12) (D1 13) (D1 14) (upd (D1 16) (fi * 20 + 19) (nI o)) (D1 21) fi (j * 128)) (j * 128) (tgA (D1 11) (upd (D1 16) (fi * 20 + 19) (nI o)) (fi * 20 + 19)))))) [cNd n nd me D1, cDk nd D1, cAr nd 2 35840 D1, cAr nd 3 4096 D1, cAr nd 4 32 D1, cAr nd 5 280 D1, cAr nd 6 280 D1, cLd n nd me D1 A, cAr nd 8 16 D1, cAr nd 9 280 D1, cTb nd gg D1 K, cAr nd 11 48 D1, cAr nd 12 48 D1, cAr nd 13 48 D1, cAr nd 14 2400 D1, cAr nd 15 512 D1, (nd + 16, .inl (0, 961, .inl (upd (D1 16) (fi * 20 + 19) (nI o)))), (nd + 17, .inl (0, 961, .inl (upd (D1 17) (fi * 20 + 19) 0))), cWk nd D1, cWa nd D1, cAr nd 20 612 D1, (nd + 21, .inl (0, 1152, .inl (seald (wrD (D1 12) (D1 13) (D1 14) (upd (D1 16) (fi * 20 + 19) (nI o)) (D1 21) fi (j * 128)) (j * 128) (tgA (D1 11) (upd (D1 16) (fi * 20 + 19) (nI o)) (fi * 20 + 19))))), cRk n nn gg C, cOr n nn gg f] := hF.put 21 _ rfl rfl
          replace hf := hf.put (a := nd + 21) (c := .inl (0, 1152, .inl (seald (wrD (D1 12) (D1 13) (D1 14) (upd (D1 16) (fi * 20 + 19) (nI o)) (D1 21) fi (j * 128)) (j * 128) (tgA (D1 11) (upd (D1 16) (fi * 20 + 19) (nI o)) (fi * 20 + 19))))) (Or.inr (by omega))
          replace hN := hN.put (a := nd + 21) (c := .inl (0, 1152, .inl (seald (wrD (D1 12) (D1 13) (D1 14) (upd (D1 16) (fi * 20 + 19) (nI o)) (D1 21) fi (j * 128)) (j * 128) (tgA (D1 11) (upd (D1 16) (fi * 20 + 19) (nI o)) (fi * 20 + 19))))) (by omega)
          replace hn : (ax_put hp_5 (nd + 21) (.inl (0, 1152, .inl (seald (wrD (D1 12) (D1 13) (D1 14) (upd (D1 16) (fi * 20 + 19) (nI o)) (D1 21) fi (j * 128)) (j * 128) (tgA (D1 11) (upd (D1 16) (fi * 20 + 19) (nI o)) (fi * 20 + 19)))))).1 = h0.1 := hn
          replace hs : (ax_put hp_5 (nd + 21) (.inl (0, 1152, .inl (seald (wrD (D1 12) (D1 13) (D1 14) (upd (D1 16) (fi * 20 + 19) (nI o)) (D1 21) fi (j * 128)) (j * 128) (tgA (D1 11) (upd (D1 16) (fi * 20 + 19) (nI o)) (fi * 20 + 19)))))).2.1 = h0.2.1 := hs
          generalize ax_put hp_5 (nd + 21) (.inl (0, 1152, .inl (seald (wrD (D1 12) (D1 13) (D1 14) (upd (D1 16) (fi * 20 + 19) (nI o)) (D1 21) fi (j * 128)) (j * 128) (tgA (D1 11) (upd (D1 16) (fi * 20 + 19) (nI o)) (fi * 20 + 19))))) = hp_6 at hF hf hN hn hs ⊢
          obtain ⟨d, hd, ed⟩ := hI.2.1.jn hfi hfj
          have hB : GB Z (seald (wrD (D1 12) (D1 13) (D1 14) (upd (D1 16) (fi * 20 + 19) (nI o)) (D1 21) fi (j * 128)) (j * 128) (tgA (D1 11) (upd (D1 16) (fi * 20 + 19) (nI o)) (fi * 20 + 19))) := by
            refine GB.set (i := j) hI.2.2.1.2.2.2.2.2.2.2 (fun b hb hbj x hx => ?_) (fun k hk ek => ?_)
            · rw [seald_x (by omega) (by omega) (by omega), wrD_x (by omega)]
            · rw [seald_1, tg_val (f := fi) (pt := 19) hfi (by decide) ed pk_us] at ek
              have e := nI_inj (by omega) hk ek
              refine ⟨fun z => by omega, fun _ _ => ?_⟩
              rw [seald_x (by omega) (by omega) (by omega), seald_x (by omega) (by omega) (by omega), wrD_15.1, wrD_15.2]
              exact hI.2.1.2.2.2.1 fi hfi
          refine ar_iinc 167 [(0, .ref (nd + 18)), (1, .int (nI (j + 1))), (2, .int (nI fi))] d_114_164 rfl rfl (nI_1 j) (by decide) rfl ?_
          refine ar_goto 75 d_114_167 (by decide) ?_
          refine ar_wk [0, 1] rfl (by simp) ?_
          have hS1 : NS Z n nd nn gg C me f q u b uv h0 hp_6 (va_up (va_up (va_up D1 16 (upd (D1 16) (fi * 20 + 19) (nI o))) 17 (upd (D1 17) (fi * 20 + 19) 0)) 21 (seald (wrD (D1 12) (D1 13) (D1 14) (upd (D1 16) (fi * 20 + 19) (nI o)) (D1 21) fi (j * 128)) (j * 128) (tgA (D1 11) (upd (D1 16) (fi * 20 + 19) (nI o)) (fi * 20 + 19)))) K A Y := ⟨hF, hN, hf, hn, hs, hp0, hu0⟩
          have hI1 : NI Z nn (va_up (va_up (va_up D1 16 (upd (D1 16) (fi * 20 + 19) (nI o))) 17 (upd (D1 17) (fi * 20 + 19) 0)) 21 (seald (wrD (D1 12) (D1 13) (D1 14) (upd (D1 16) (fi * 20 + 19) (nI o)) (D1 21) fi (j * 128)) (j * 128) (tgA (D1 11) (upd (D1 16) (fi * 20 + 19) (nI o)) (fi * 20 + 19)))) := ⟨hI.1, hI.2.1.renew (by omega) ho (fun _ => by rw [show (fi * 20 + 19) / 20 = fi by omega]; exact hfj) (fun z => by omega), hI.2.2.1.cg (neq e3 (by decide)) rfl rfl rfl rfl hB, hI.2.2.2⟩
          rw [← show H_114 nn gg C me f u b k (j + 1) (va_up (va_up (va_up D1 16 (upd (D1 16) (fi * 20 + 19) (nI o))) 17 (upd (D1 17) (fi * 20 + 19) 0)) 21 (seald (wrD (D1 12) (D1 13) (D1 14) (upd (D1 16) (fi * 20 + 19) (nI o)) (D1 21) fi (j * 128)) (j * 128) (tgA (D1 11) (upd (D1 16) (fi * 20 + 19) (nI o)) (fi * 20 + 19)))) K A Y = H_114 nn gg C me f u b (k + 1) j D1 K A Y from bnN_eq (cl_eq ho eo) (eq_ifF c6 (eq_ifF (nI_ne1 hfi ex) (bnN_eq (cl_eq hfi ex) (rfl))))]
          exact ih (j + 1) hp_6 (va_up (va_up (va_up D1 16 (upd (D1 16) (fi * 20 + 19) (nI o))) 17 (upd (D1 17) (fi * 20 + 19) 0)) 21 (seald (wrD (D1 12) (D1 13) (D1 14) (upd (D1 16) (fi * 20 + 19) (nI o)) (D1 21) fi (j * 128)) (j * 128) (tgA (D1 11) (upd (D1 16) (fi * 20 + 19) (nI o)) (fi * 20 + 19)))) K A Y (by omega) (by omega) hS1 hI1 e3 x13 x14
  obtain ⟨⟨sp, c, hsp, e9, e11, hs0, hs1⟩, y13, y14, hfi0, -⟩ := hX
  have hc7 : c < 7 := by
    rcases Nat.eq_zero_or_pos sp with e | e
    · have := hs0 e
      omega
    · obtain ⟨a, _, ha, _, ec⟩ := hs1 e
      omega
  have key : ∀ (k i : Nat) (h : ax_H) (D1 : Nat → Nat → Int32) (K A : Int64) (Y : List Mg), i + k = c → NS Z n nd nn gg C me f q u b uv h0 h D1 K A Y → NI Z nn D1 → D1 18 3 = 3 → OKf (D1 11) (D1 18 13) → OKf (D1 11) (D1 18 14) → D1 18 = D 18 → D1 11 = D 11 → ax_A (ax_step L xs) ((114, 11, fr, lo), [(0, .ref (nd + 18)), (1, .int (nI i))], [], h) (fun r h' => r = none ∧ PS Z n nd nn gg C me f q u b uv h0 h' (fun D' K' A' Y' => (D', K', A', Y') = G_114 nn gg C me f u b k i D1 K A Y ∧ True)) := by
    intro k
    induction k with
    | zero =>
      intro i h D1 K A Y hi hS hI e3 x13 x14 e18 e_11
      have e0 : i = c := by omega
      subst e0
      obtain ⟨hnd, hn0, hnn3, hnn, hgg1, hgg, hRg⟩ := hC
      obtain ⟨hF, hN, hf, hn, hs, hp0, hu0⟩ := hS
      replace hF : ax_hs h [cNd n nd me D1, cDk nd D1, cAr nd 2 35840 D1, cAr nd 3 4096 D1, cAr nd 4 32 D1, cAr nd 5 280 D1, cAr nd 6 280 D1, cLd n nd me D1 A, cAr nd 8 16 D1, cAr nd 9 280 D1, cTb nd gg D1 K, cAr nd 11 48 D1, cAr nd 12 48 D1, cAr nd 13 48 D1, cAr nd 14 2400 D1, cAr nd 15 512 D1, cAr nd 16 961 D1, cAr nd 17 961 D1, cWk nd D1, cWa nd D1, cAr nd 20 612 D1, cAr nd 21 1152 D1, cRk n nn gg C, cOr n nn gg f] := hF
      refine ar_iload_n 12 d_114_11 rfl rfl ?_
      refine ar_aload_n 13 d_114_12 rfl rfl ?_
      refine ar_getf 16 d_114_13 rfl (ci := 10) (k := 11) rfl (hF.at 18 rfl) rfl ?_
      refine ar_icmp_ge 72 19 d_114_16 (by decide) rfl (fun _ => ?_) (fun c => absurd (by rw [e18, e11]; exact Int32.le_refl _) c)
      refine ar_bipush 74 (v := 6) d_114_72 rfl (by decide) ?_
      refine ar_top (x' := nI 6) (rfl) ?_
      refine ar_istore_n 75 [(0, .ref (nd + 18)), (1, .int (nI 6))] d_114_74 rfl (by decide) rfl ?_
      have hS1 : NS Z n nd nn gg C me f q u b uv h0 h D1 K A Y := ⟨hF, hN, hf, hn, hs, hp0, hu0⟩
      have hI1 : NI Z nn D1 := hI
      rw [← show H_114 nn gg C me f u b 2 6 D1 K A Y = G_114 nn gg C me f u b 0 i D1 K A Y from rfl]
      exact key2 2 6 h D1 K A Y (by omega) (by omega) hS1 hI1 e3 x13 x14
    | succ k ih =>
      intro i h D1 K A Y hi hS hI e3 x13 x14 e18 e_11
      have hic : i < c := by omega
      have hsp0 : 0 < sp := Nat.pos_of_ne_zero (fun z => by have := hs0 z; omega)
      obtain ⟨a, ea, ha, e10, ec⟩ := hs1 hsp0
      have hc6 : c ≤ 6 := by omega
      obtain ⟨q0, hq0⟩ : ∃ q0, q0 = a / 448 := ⟨_, rfl⟩
      have hp19 : q0 + i < 19 := by omega
      obtain ⟨fi, hfi, e7, hfj⟩ := hfi0.resolve_left (fun z => by
        rw [e11] at z
        exact nI_nz9 (by omega) (by omega) z)
      obtain ⟨o, ho, eo, -⟩ := hI.2.2.1.2.2.2.1 (neq e3 (by decide))
      obtain ⟨hnd, hn0, hnn3, hnn, hgg1, hgg, hRg⟩ := hC
      obtain ⟨hF, hN, hf, hn, hs, hp0, hu0⟩ := hS
      replace hF : ax_hs h [cNd n nd me D1, cDk nd D1, cAr nd 2 35840 D1, cAr nd 3 4096 D1, cAr nd 4 32 D1, cAr nd 5 280 D1, cAr nd 6 280 D1, cLd n nd me D1 A, cAr nd 8 16 D1, cAr nd 9 280 D1, cTb nd gg D1 K, cAr nd 11 48 D1, cAr nd 12 48 D1, cAr nd 13 48 D1, cAr nd 14 2400 D1, cAr nd 15 512 D1, cAr nd 16 961 D1, cAr nd 17 961 D1, cWk nd D1, cWa nd D1, cAr nd 20 612 D1, cAr nd 21 1152 D1, cRk n nn gg C, cOr n nn gg f] := hF
      refine ar_iload_n 12 d_114_11 rfl rfl ?_
      refine ar_aload_n 13 d_114_12 rfl rfl ?_
      refine ar_getf 16 d_114_13 rfl (ci := 10) (k := 11) rfl (hF.at 18 rfl) rfl ?_
      refine ar_icmp_ge 72 19 d_114_16 (by decide) rfl (fun c => absurd c (by rw [e18, e11]; exact nI_ge hic (by omega))) (fun _ => ?_)
      refine ar_aload_n 20 d_114_19 rfl rfl ?_
      refine ar_getf 23 d_114_20 rfl (ci := 10) (k := 7) rfl (hF.at 18 rfl) rfl ?_
      refine ar_top (x' := nI fi) (by rw [e18]; exact e7) ?_
      refine ar_bipush 25 (v := 20) d_114_23 rfl (by decide) ?_
      refine ar_imul 26 d_114_25 rfl ?_
      refine ar_top (x' := nI (fi * 20)) (pk_mul _ 20) ?_
      refine ar_aload_n 27 d_114_26 rfl rfl ?_
      refine ar_getf 30 d_114_27 rfl (ci := 10) (k := 10) rfl (hF.at 18 rfl) rfl ?_
      refine ar_top (x' := nI q0) (by rw [e18, hq0]; exact e10) ?_
      refine ar_iadd 31 d_114_30 rfl ?_
      refine ar_top (x' := nI (fi * 20 + q0)) (nI_add _ _) ?_
      refine ar_iload_n 32 d_114_31 rfl rfl ?_
      refine ar_iadd 33 d_114_32 rfl ?_
      refine ar_top (x' := nI (fi * 20 + (q0 + i))) (by rw [nI_add, Nat.add_assoc]) ?_
      refine ar_istore_n 34 [(0, .ref (nd + 18)), (1, .int (nI i)), (2, .int (nI (fi * 20 + (q0 + i))))] d_114_33 rfl (by decide) rfl ?_
      refine ar_aload_n 35 d_114_34 rfl rfl ?_
      refine ar_getf 38 d_114_35 rfl (ci := 10) (k := 0) rfl (hF.at 18 rfl) rfl ?_
      refine ar_iload_n 39 d_114_38 rfl rfl ?_
      refine ar_aload_n 40 d_114_39 rfl rfl ?_
      refine ar_getf 43 d_114_40 rfl (ci := 10) (k := 4) rfl (hF.at 18 rfl) rfl ?_
      refine ar_top (x' := nI o) (eo) ?_
      refine ar_call (r := []) (na := 0) (kd := 0) (cm := 115) (fr2 := fr - 1) (lo2 := lo - 22) 46 d_114_43 (ar_hoV (as := [.int (nI (fi * 20 + (q0 + i))), .int (nI o)]) rfl rfl rfl (hF.at 10 rfl)) rfl (by omega) (show lo - 22 + (19 + 3) = lo by omega) (Nat.le_of_ble_eq_true rfl) (Nat.le_of_ble_eq_true rfl) (c_115 (a := (fi * 20 + (q0 + i))) (by omega) (hF.sub (F' := [cTb nd gg D1 K, cAr nd 16 961 D1, cAr nd 17 961 D1]) [10, 16, 17] rfl rfl) rfl rfl (by omega)) ?_
      intro v hp_1 hq
      obtain ⟨rfl, qF, qn, qs, qf⟩ := hq
      have qF : ax_hs hp_1 [cTb nd gg D1 K, (nd + 16, .inl (0, 961, .inl (upd (D1 16) (fi * 20 + (q0 + i)) (nI o)))), (nd + 17, .inl (0, 961, .inl (upd (D1 17) (fi * 20 + (q0 + i)) 0)))] := qF
      replace hF : ax_hs hp_1 [cNd n nd me D1, cDk nd D1, cAr nd 2 35840 D1, cAr nd 3 4096 D1, cAr nd 4 32 D1, cAr nd 5 280 D1, cAr nd 6 280 D1, cLd n nd me D1 A, cAr nd 8 16 D1, cAr nd 9 280 D1, cAr nd 11 48 D1, cAr nd 12 48 D1, cAr nd 13 48 D1, cAr nd 14 2400 D1, cAr nd 15 512 D1, cWk nd D1, cWa nd D1, cAr nd 20 612 D1, cAr nd 21 1152 D1, cRk n nn gg C, cOr n nn gg f, cTb nd gg D1 K, (nd + 16, .inl (0, 961, .inl (upd (D1 16) (fi * 20 + (q0 + i)) (nI o)))), (nd + 17, .inl (0, 961, .inl (upd (D1 17) (fi * 20 + (q0 + i)) 0)))] := ax_hs.call (rest := [cNd n nd me D1, cDk nd D1, cAr nd 2 35840 D1, cAr nd 3 4096 D1, cAr nd 4 32 D1, cAr nd 5 280 D1, cAr nd 6 280 D1, cLd n nd me D1 A, cAr nd 8 16 D1, cAr nd 9 280 D1, cAr nd 11 48 D1, cAr nd 12 48 D1, cAr nd 13 48 D1, cAr nd 14 2400 D1, cAr nd 15 512 D1, cWk nd D1, cWa nd D1, cAr nd 20 612 D1, cAr nd 21 1152 D1, cRk n nn gg C, cOr n nn gg f]) [10, 16, 17] [0, 1, 2, 3, 4, 5, 6, 7, 8, 9, 11, 12, 13, 14, 15, 18, 19, 20, 21, 22, 23] hF qf qF rfl rfl rfl [16, 17] rfl rfl [10, 16, 17] (news := []) rfl rfl (fun _ z => absurd z List.not_mem_nil) rfl
      replace hF := hF.sub (F' := [cNd n nd me D1, cDk nd D1, cAr nd 2 35840 D1, cAr nd 3 4096 D1, cAr nd 4 32 D1, cAr nd 5 280 D1, cAr nd 6 280 D1, cLd n nd me D1 A, cAr nd 8 16 D1, cAr nd 9 280 D1, cTb nd gg D1 K, cAr nd 11 48 D1, cAr nd 12 48 D1, cAr nd 13 48 D1, cAr nd 14 2400 D1, cAr nd 15 512 D1, (nd + 16, .inl (0, 961, .inl (upd (D1 16) (fi * 20 + (q0 + i)) (nI o)))), (nd + 17, .inl (0, 961, .inl (upd (D1 17) (fi * 20 + (q0 + i)) 0))), cWk nd D1, cWa nd D1, cAr nd 20 612 D1, cAr nd 21 1152 D1, cRk n nn gg C, cOr n nn gg f]) [0, 1, 2, 3, 4, 5, 6, 7, 8, 9, 21, 10, 11, 12, 13, 14, 22, 23, 15, 16, 17, 18, 19, 20] rfl rfl
      replace hN := hN.fr qf (fun x hx z => by simp only [List.mem_cons, List.not_mem_nil, or_false] at z; unfold NTA at hx; omega)
      replace hf := hf.trC qf (fun x _ z => Or.inr (by simp only [List.mem_cons, List.not_mem_nil, or_false] at z; omega))
      replace hn : hp_1.1 = h0.1 := by omega
      replace hs : hp_1.2.1 = h0.2.1 := by omega
      clear qF qn qs qf
      refine ar_aload_n 47 d_114_46 rfl rfl ?_
      refine ar_getf 50 d_114_47 rfl (ci := 10) (k := 2) rfl (hF.at 18 rfl) rfl ?_
      refine ar_iload_n 51 d_114_50 rfl rfl ?_
      refine ar_sipush 54 (v := 128) d_114_51 rfl (by decide) ?_
      refine ar_imul 55 d_114_54 rfl ?_
      refine ar_top (x' := nI (i * 128)) (pk_mul _ 128) ?_
      refine ar_aload_n 56 d_114_55 rfl rfl ?_
      refine ar_getf 59 d_114_56 rfl (ci := 10) (k := 0) rfl (hF.at 18 rfl) rfl ?_
      refine ar_iload_n 60 d_114_59 rfl rfl ?_
      refine ar_call (r := [.int (nI (i * 128)), .ref (nd + 21)]) (na := 0) (kd := 0) (cm := 116) (fr2 := fr - 1) (lo2 := lo - 22) 63 d_114_60 (ar_hoV (as := [.int (nI (fi * 20 + (q0 + i)))]) rfl rfl rfl (hF.at 10 rfl)) rfl (by omega) (show lo - 22 + (19 + 3) = lo by omega) (Nat.le_of_ble_eq_true rfl) (Nat.le_of_ble_eq_true rfl) (c_116 (a := (fi * 20 + (q0 + i))) (by omega) (hF.at 10 rfl) (hF.at 11 rfl) (hF.at 16 rfl)) ?_
      intro v hh hq
      obtain ⟨rfl, ehh⟩ := hq
      rw [ehh]
      clear ehh
      refine ar_call (r := []) (na := 0) (kd := 0) (cm := 117) (fr2 := fr - 1) (lo2 := lo - 22) 66 d_114_63 (ar_hoS (as := [.ref (nd + 21), .int (nI (i * 128)), .int (tgA (D1 11) (upd (D1 16) (fi * 20 + (q0 + i)) (nI o)) (fi * 20 + (q0 + i)))]) rfl rfl rfl) rfl (by omega) (show lo - 22 + (19 + 3) = lo by omega) (Nat.le_of_ble_eq_true rfl) (Nat.le_of_ble_eq_true rfl) (c_117 (i := i * 128) (by omega) (by omega) (by decide) (by omega) (ax_hs.one (hF.at 21 rfl))) ?_
      intro v hh hq
      obtain ⟨rfl, rfl⟩ := hq
      replace hF : ax_hs (ax_put hp_1 (nd + 21) (.inl (0, 1152, .inl (seald (D1 21) (i * 128) (tgA (D1 11) (upd (D1 16) (fi * 20 + (q0 + i)) (nI o)) (fi * 20 + (q0 + i))))))) [cNd n nd me D1, cDk nd D1, cAr nd 2 35840 D1, cAr nd 3 4096 D1, cAr nd 4 32 D1, cAr nd 5 280 D1, cAr nd 6 280 D1, cLd n nd me D1 A, cAr nd 8 16 D1, cAr nd 9 280 D1, cTb nd gg D1 K, cAr nd 11 48 D1, cAr nd 12 48 D1, cAr nd 13 48 D1, cAr nd 14 2400 D1, cAr nd 15 512 D1, (nd + 16, .inl (0, 961, .inl (upd (D1 16) (fi * 20 + (q0 + i)) (nI o)))), (nd + 17, .inl (0, 961, .inl (upd (D1 17) (fi * 20 + (q0 + i)) 0))), cWk nd D1, cWa nd D1, cAr nd 20 612 D1, (nd + 21, .inl (0, 1152, .inl (seald (D1 21) (i * 128) (tgA (D1 11) (upd (D1 16) (fi * 20 + (q0 + i)) (nI o)) (fi * 20 + (q0 + i)))))), cRk n nn gg C, cOr n nn gg f] := hF.put 21 _ rfl rfl
      replace hf := hf.put (a := nd + 21) (c := .inl (0, 1152, .inl (seald (D1 21) (i * 128) (tgA (D1 11) (upd (D1 16) (fi * 20 + (q0 + i)) (nI o)) (fi * 20 + (q0 + i)))))) (Or.inr (by omega))
      replace hN := hN.put (a := nd + 21) (c := .inl (0, 1152, .inl (seald (D1 21) (i * 128) (tgA (D1 11) (upd (D1 16) (fi * 20 + (q0 + i)) (nI o)) (fi * 20 + (q0 + i)))))) (by omega)
      replace hn : (ax_put hp_1 (nd + 21) (.inl (0, 1152, .inl (seald (D1 21) (i * 128) (tgA (D1 11) (upd (D1 16) (fi * 20 + (q0 + i)) (nI o)) (fi * 20 + (q0 + i))))))).1 = h0.1 := hn
      replace hs : (ax_put hp_1 (nd + 21) (.inl (0, 1152, .inl (seald (D1 21) (i * 128) (tgA (D1 11) (upd (D1 16) (fi * 20 + (q0 + i)) (nI o)) (fi * 20 + (q0 + i))))))).2.1 = h0.2.1 := hs
      generalize ax_put hp_1 (nd + 21) (.inl (0, 1152, .inl (seald (D1 21) (i * 128) (tgA (D1 11) (upd (D1 16) (fi * 20 + (q0 + i)) (nI o)) (fi * 20 + (q0 + i)))))) = hp_2 at hF hf hN hn hs ⊢
      have hfj1 : ¬ D1 11 fi < 0 := by rw [e_11]; exact hfj
      obtain ⟨d, hd, ed⟩ := hI.2.1.jn hfi hfj1
      have hB : GB Z (seald (D1 21) (i * 128) (tgA (D1 11) (upd (D1 16) (fi * 20 + (q0 + i)) (nI o)) (fi * 20 + (q0 + i)))) := by
        refine GB.set (i := i) hI.2.2.1.2.2.2.2.2.2.2 (fun b hb hbj x hx => ?_) (fun k hk ek => ?_)
        · exact seald_x (by omega) (by omega) (by omega)
        · rw [seald_1, tg_val (f := fi) (pt := q0 + i) hfi (by omega) ed pk_us] at ek
          have e := nI_inj (by omega) hk ek
          exact ⟨fun z => by omega, fun z => by omega⟩
      refine ar_iinc 69 [(0, .ref (nd + 18)), (1, .int (nI (i + 1))), (2, .int (nI (fi * 20 + (q0 + i))))] d_114_66 rfl rfl (nI_1 i) (by decide) rfl ?_
      refine ar_goto 11 d_114_69 (by decide) ?_
      refine ar_wk [0, 1] rfl (by simp) ?_
      have hS1 : NS Z n nd nn gg C me f q u b uv h0 hp_2 (va_up (va_up (va_up D1 16 (upd (D1 16) (fi * 20 + (q0 + i)) (nI o))) 17 (upd (D1 17) (fi * 20 + (q0 + i)) 0)) 21 (seald (D1 21) (i * 128) (tgA (D1 11) (upd (D1 16) (fi * 20 + (q0 + i)) (nI o)) (fi * 20 + (q0 + i))))) K A Y := ⟨hF, hN, hf, hn, hs, hp0, hu0⟩
      have hI1 : NI Z nn (va_up (va_up (va_up D1 16 (upd (D1 16) (fi * 20 + (q0 + i)) (nI o))) 17 (upd (D1 17) (fi * 20 + (q0 + i)) 0)) 21 (seald (D1 21) (i * 128) (tgA (D1 11) (upd (D1 16) (fi * 20 + (q0 + i)) (nI o)) (fi * 20 + (q0 + i))))) := ⟨hI.1, hI.2.1.renew (by omega) ho (fun _ => by rw [show (fi * 20 + (q0 + i)) / 20 = fi by omega]; exact hfj1) (fun z => by omega), hI.2.2.1.cg (neq e3 (by decide)) rfl rfl rfl rfl hB, hI.2.2.2⟩
      rw [← show G_114 nn gg C me f u b k (i + 1) (va_up (va_up (va_up D1 16 (upd (D1 16) (fi * 20 + (q0 + i)) (nI o))) 17 (upd (D1 17) (fi * 20 + (q0 + i)) 0)) 21 (seald (D1 21) (i * 128) (tgA (D1 11) (upd (D1 16) (fi * 20 + (q0 + i)) (nI o)) (fi * 20 + (q0 + i))))) K A Y = G_114 nn gg C me f u b (k + 1) i D1 K A Y from bnN_eq (cl_eq ho eo) (bnN_eq (cl_eq (show q0 < 19 by omega) (by rw [e18, hq0]; exact e10)) (bnN_eq (cl_eq hfi (by rw [e18]; exact e7)) (rfl)))]
      exact ih (i + 1) hp_2 (va_up (va_up (va_up D1 16 (upd (D1 16) (fi * 20 + (q0 + i)) (nI o))) 17 (upd (D1 17) (fi * 20 + (q0 + i)) 0)) 21 (seald (D1 21) (i * 128) (tgA (D1 11) (upd (D1 16) (fi * 20 + (q0 + i)) (nI o)) (fi * 20 + (q0 + i))))) K A Y (by omega) hS1 hI1 e3 x13 x14 e18 e_11
  show ax_A (ax_step L xs) ((114, 0, fr, lo), [(0, .ref (nd + 18))], [], h) _
  have hS0 := hS
  obtain ⟨hnd, hn0, hnn3, hnn, hgg1, hgg, hRg⟩ := hC
  obtain ⟨hF, hN, hf, hn, hs, hp0, hu0⟩ := hS
  replace hF : ax_hs h [cNd n nd me D, cDk nd D, cAr nd 2 35840 D, cAr nd 3 4096 D, cAr nd 4 32 D, cAr nd 5 280 D, cAr nd 6 280 D, cLd n nd me D A, cAr nd 8 16 D, cAr nd 9 280 D, cTb nd gg D K, cAr nd 11 48 D, cAr nd 12 48 D, cAr nd 13 48 D, cAr nd 14 2400 D, cAr nd 15 512 D, cAr nd 16 961 D, cAr nd 17 961 D, cWk nd D, cWa nd D, cAr nd 20 612 D, cAr nd 21 1152 D, cRk n nn gg C, cOr n nn gg f] := hF
  refine ar_aload_n 1 d_114_0 rfl rfl ?_
  refine ar_getf 4 d_114_1 rfl (ci := 10) (k := 3) rfl (hF.at 18 rfl) rfl ?_
  refine ar_iconst 5 (v := 3) d_114_4 rfl (by decide) ?_
  refine ar_icmp_eq 9 8 d_114_5 (by decide) rfl (fun c1 => ?_) (fun c1 => ?_)
  · have c1 : D 18 3 = 3 := c1
    refine ar_iconst 10 (v := 0) d_114_9 rfl (by decide) ?_
    refine ar_istore_n 11 [(0, .ref (nd + 18)), (1, .int 0)] d_114_10 rfl (by decide) rfl ?_
    rw [← show G_114 nn gg C me f u b c 0 D K A Y = F_114 nn gg C me f u b D K A Y from eq_ifT c1 (bnN_eq (cl_eq hc7 e11) (rfl))]
    exact key c 0 h D K A Y (by omega) hS0 hI c1 y13 y14 rfl rfl
  · have hS9 : NS Z n nd nn gg C me f q u b uv h0 h D K A Y := ⟨hF, hN, hf, hn, hs, hp0, hu0⟩
    have hI9 : NI Z nn D := hI
    exact ar_ret d_114_8 rfl (⟨rfl, _, _, _, _, hS9, hI9, eq_ifF c1 (rfl), trivial⟩)
def F_121 (nn gg : Nat) (C me : Int32) (f u b : Nat → Int32) (D : Nat → Nat → Int32) (K A : Int64) (Y : List Mg)  : St :=
  bnN ((D 18 4).toNatClampNeg) (fun o =>
    if ((D 16) 960) = (nI o) then
      (va_up (va_up D 18 (upd (D 18) 3 4)) 21 (seald (wrR (D 15) (D 16) 1024 512 0 0 (upd (upd (D 21) (1024 + 15) (D 10 9)) (1024 + 16) (D 10 10))) 1024 (tgA (D 11) (D 16) 960)), K, A, Y)
    else
      (va_up (va_up (va_up (va_up (va_up D 10 (upd (D 10) 10 (D 18 5))) 16 (upd (D 16) 960 (nI o))) 17 (upd (D 17) 960 0)) 18 (upd (D 18) 3 4)) 21 (seald (wrR (D 15) (upd (D 16) 960 (nI o)) 1024 512 0 0 (upd (upd (D 21) (1024 + 15) (D 10 9)) (1024 + 16) (D 18 5))) 1024 (tgA (D 11) (upd (D 16) 960 (nI o)) 960)), K, A, Y))
set_option maxRecDepth 100000 in
theorem s_121 {L : Nat} {xs : Nat → Int32} {fr lo : Nat} {Z : ZT} {n nd nn gg : Nat} {C me : Int32} {f : Nat → Int32} {q : Nat} {u b : Nat → Int32} {uv : Int32} {h0 h : ax_H} {D : Nat → Nat → Int32} {K A : Int64} {Y : List Mg}  (hfr : 4 ≤ fr) (hlo : 100 ≤ lo) (hC : CS n nd nn gg f) (hS : NS Z n nd nn gg C me f q u b uv h0 h D K A Y) (hI : NI Z nn D) (h3 : D 18 3 = 3) : ax_M L xs 121 fr lo [.ref (nd + 18)] h (fun r h' => r = none ∧ PS Z n nd nn gg C me f q u b uv h0 h' (fun D' K' A' Y' => (D', K', A', Y') = F_121 nn gg C me f u b D K A Y ∧ True)) := by
  have hC0 := hC
  show ax_A (ax_step L xs) ((121, 0, fr, lo), [(0, .ref (nd + 18))], [], h) _
  obtain ⟨hnd, hn0, hnn3, hnn, hgg1, hgg, hRg⟩ := hC
  obtain ⟨hF, hN, hf, hn, hs, hp0, hu0⟩ := hS
  replace hF : ax_hs h [cNd n nd me D, cDk nd D, cAr nd 2 35840 D, cAr nd 3 4096 D, cAr nd 4 32 D, cAr nd 5 280 D, cAr nd 6 280 D, cLd n nd me D A, cAr nd 8 16 D, cAr nd 9 280 D, cTb nd gg D K, cAr nd 11 48 D, cAr nd 12 48 D, cAr nd 13 48 D, cAr nd 14 2400 D, cAr nd 15 512 D, cAr nd 16 961 D, cAr nd 17 961 D, cWk nd D, cWa nd D, cAr nd 20 612 D, cAr nd 21 1152 D, cRk n nn gg C, cOr n nn gg f] := hF
  obtain ⟨o, ho, eo, hZo⟩ := hI.2.2.1.2.2.2.2.2.1 (Or.inl h3)
  refine ar_aload_n 1 d_121_0 rfl rfl ?_
  refine ar_getf 4 d_121_1 rfl (ci := 10) (k := 0) rfl (hF.at 18 rfl) rfl ?_
  refine ar_getf 7 d_121_4 rfl (ci := 6) (k := 6) rfl (hF.at 10 rfl) rfl ?_
  refine ar_sipush 10 (v := 960) d_121_7 rfl (by decide) ?_
  refine ar_ialdN 11 (e := 960) d_121_10 rfl (hF.at 16 rfl) (by omega) (by omega) ?_
  refine ar_aload_n 12 d_121_11 rfl rfl ?_
  refine ar_getf 15 d_121_12 rfl (ci := 10) (k := 4) rfl (hF.at 18 rfl) rfl ?_
  refine ar_top (x' := nI o) (eo) ?_
  refine ar_icmp_eq 43 18 d_121_15 (by decide) rfl (fun c1 => ?_) (fun c1 => ?_)
  · have c1 : D 16 960 = nI o := c1
    refine ar_aload_n 44 d_121_43 rfl rfl ?_
    refine ar_getf 47 d_121_44 rfl (ci := 10) (k := 0) rfl (hF.at 18 rfl) rfl ?_
    refine ar_aload_n 48 d_121_47 rfl rfl ?_
    refine ar_getf 51 d_121_48 rfl (ci := 10) (k := 2) rfl (hF.at 18 rfl) rfl ?_
    refine ar_sipush 54 (v := 1024) d_121_51 rfl (by decide) ?_
    refine ar_top (x' := nI 1024) (rfl) ?_
    refine ar_call (r := []) (na := 0) (kd := 0) (cm := 122) (fr2 := fr - 1) (lo2 := lo - 25) 57 d_121_54 (ar_hoV (as := [.ref (nd + 21), .int (nI 1024)]) rfl rfl rfl (hF.at 10 rfl)) rfl (by omega) (show lo - 25 + (19 + 6) = lo by omega) (Nat.le_of_ble_eq_true rfl) (Nat.le_of_ble_eq_true rfl) (c_122 (p := 1024) (by decide) (by omega) hI.2.1.fo (hF.sub (F' := [cTb nd gg D K, cAr nd 15 512 D, cAr nd 16 961 D, cAr nd 21 1152 D]) [10, 15, 16, 21] rfl rfl) rfl rfl (by omega)) ?_
    intro v hp_1 hq
    obtain ⟨rfl, qF, qn, qs, qf⟩ := hq
    have qF : ax_hs hp_1 [cTb nd gg D K, cAr nd 15 512 D, cAr nd 16 961 D, (nd + 21, .inl (0, 1152, .inl (wrR (D 15) (D 16) 1024 512 0 0 (upd (upd (D 21) (1024 + 15) (D 10 9)) (1024 + 16) (D 10 10)))))] := qF
    replace hF : ax_hs hp_1 [cNd n nd me D, cDk nd D, cAr nd 2 35840 D, cAr nd 3 4096 D, cAr nd 4 32 D, cAr nd 5 280 D, cAr nd 6 280 D, cLd n nd me D A, cAr nd 8 16 D, cAr nd 9 280 D, cAr nd 11 48 D, cAr nd 12 48 D, cAr nd 13 48 D, cAr nd 14 2400 D, cAr nd 17 961 D, cWk nd D, cWa nd D, cAr nd 20 612 D, cRk n nn gg C, cOr n nn gg f, cTb nd gg D K, cAr nd 15 512 D, cAr nd 16 961 D, (nd + 21, .inl (0, 1152, .inl (wrR (D 15) (D 16) 1024 512 0 0 (upd (upd (D 21) (1024 + 15) (D 10 9)) (1024 + 16) (D 10 10)))))] := ax_hs.call (rest := [cNd n nd me D, cDk nd D, cAr nd 2 35840 D, cAr nd 3 4096 D, cAr nd 4 32 D, cAr nd 5 280 D, cAr nd 6 280 D, cLd n nd me D A, cAr nd 8 16 D, cAr nd 9 280 D, cAr nd 11 48 D, cAr nd 12 48 D, cAr nd 13 48 D, cAr nd 14 2400 D, cAr nd 17 961 D, cWk nd D, cWa nd D, cAr nd 20 612 D, cRk n nn gg C, cOr n nn gg f]) [10, 15, 16, 21] [0, 1, 2, 3, 4, 5, 6, 7, 8, 9, 11, 12, 13, 14, 17, 18, 19, 20, 22, 23] hF qf qF rfl rfl rfl [21] rfl rfl [10, 15, 16, 21] (news := []) rfl rfl (fun _ z => absurd z List.not_mem_nil) rfl
    replace hF := hF.sub (F' := [cNd n nd me D, cDk nd D, cAr nd 2 35840 D, cAr nd 3 4096 D, cAr nd 4 32 D, cAr nd 5 280 D, cAr nd 6 280 D, cLd n nd me D A, cAr nd 8 16 D, cAr nd 9 280 D, cTb nd gg D K, cAr nd 11 48 D, cAr nd 12 48 D, cAr nd 13 48 D, cAr nd 14 2400 D, cAr nd 15 512 D, cAr nd 16 961 D, cAr nd 17 961 D, cWk nd D, cWa nd D, cAr nd 20 612 D, (nd + 21, .inl (0, 1152, .inl (wrR (D 15) (D 16) 1024 512 0 0 (upd (upd (D 21) (1024 + 15) (D 10 9)) (1024 + 16) (D 10 10))))), cRk n nn gg C, cOr n nn gg f]) [0, 1, 2, 3, 4, 5, 6, 7, 8, 9, 20, 10, 11, 12, 13, 21, 22, 14, 15, 16, 17, 23, 18, 19] rfl rfl
    replace hN := hN.fr qf (fun x hx z => by simp only [List.mem_cons, List.not_mem_nil, or_false] at z; unfold NTA at hx; omega)
    replace hf := hf.trC qf (fun x _ z => Or.inr (by simp only [List.mem_cons, List.not_mem_nil, or_false] at z; omega))
    replace hn : hp_1.1 = h0.1 := by omega
    replace hs : hp_1.2.1 = h0.2.1 := by omega
    clear qF qn qs qf
    refine ar_aload_n 58 d_121_57 rfl rfl ?_
    refine ar_getf 61 d_121_58 rfl (ci := 10) (k := 2) rfl (hF.at 18 rfl) rfl ?_
    refine ar_sipush 64 (v := 1024) d_121_61 rfl (by decide) ?_
    refine ar_top (x' := nI 1024) (rfl) ?_
    refine ar_aload_n 65 d_121_64 rfl rfl ?_
    refine ar_getf 68 d_121_65 rfl (ci := 10) (k := 0) rfl (hF.at 18 rfl) rfl ?_
    refine ar_sipush 71 (v := 960) d_121_68 rfl (by decide) ?_
    refine ar_top (x' := nI 960) (rfl) ?_
    refine ar_call (r := [.int (nI 1024), .ref (nd + 21)]) (na := 0) (kd := 0) (cm := 116) (fr2 := fr - 1) (lo2 := lo - 22) 74 d_121_71 (ar_hoV (as := [.int (nI 960)]) rfl rfl rfl (hF.at 10 rfl)) rfl (by omega) (show lo - 22 + (19 + 3) = lo by omega) (Nat.le_of_ble_eq_true rfl) (Nat.le_of_ble_eq_true rfl) (c_116 (a := 960) (by omega) (hF.at 10 rfl) (hF.at 11 rfl) (hF.at 16 rfl)) ?_
    intro v hh hq
    obtain ⟨rfl, ehh⟩ := hq
    rw [ehh]
    clear ehh
    refine ar_call (r := []) (na := 0) (kd := 0) (cm := 117) (fr2 := fr - 1) (lo2 := lo - 22) 77 d_121_74 (ar_hoS (as := [.ref (nd + 21), .int (nI 1024), .int (tgA (D 11) (D 16) 960)]) rfl rfl rfl) rfl (by omega) (show lo - 22 + (19 + 3) = lo by omega) (Nat.le_of_ble_eq_true rfl) (Nat.le_of_ble_eq_true rfl) (c_117 (i := 1024) (by omega) (by omega) (by decide) (by omega) (ax_hs.one (hF.at 21 rfl))) ?_
    intro v hh hq
    obtain ⟨rfl, rfl⟩ := hq
    replace hF : ax_hs (ax_put hp_1 (nd + 21) (.inl (0, 1152, .inl (seald (wrR (D 15) (D 16) 1024 512 0 0 (upd (upd (D 21) (1024 + 15) (D 10 9)) (1024 + 16) (D 10 10))) 1024 (tgA (D 11) (D 16) 960))))) [cNd n nd me D, cDk nd D, cAr nd 2 35840 D, cAr nd 3 4096 D, cAr nd 4 32 D, cAr nd 5 280 D, cAr nd 6 280 D, cLd n nd me D A, cAr nd 8 16 D, cAr nd 9 280 D, cTb nd gg D K, cAr nd 11 48 D, cAr nd 12 48 D, cAr nd 13 48 D, cAr nd 14 2400 D, cAr nd 15 512 D, cAr nd 16 961 D, cAr nd 17 961 D, cWk nd D, cWa nd D, cAr nd 20 612 D, (nd + 21, .inl (0, 1152, .inl (seald (wrR (D 15) (D 16) 1024 512 0 0 (upd (upd (D 21) (1024 + 15) (D 10 9)) (1024 + 16) (D 10 10))) 1024 (tgA (D 11) (D 16) 960)))), cRk n nn gg C, cOr n nn gg f] := hF.put 21 _ rfl rfl
    replace hf := hf.put (a := nd + 21) (c := .inl (0, 1152, .inl (seald (wrR (D 15) (D 16) 1024 512 0 0 (upd (upd (D 21) (1024 + 15) (D 10 9)) (1024 + 16) (D 10 10))) 1024 (tgA (D 11) (D 16) 960)))) (Or.inr (by omega))
    replace hN := hN.put (a := nd + 21) (c := .inl (0, 1152, .inl (seald (wrR (D 15) (D 16) 1024 512 0 0 (upd (upd (D 21) (1024 + 15) (D 10 9)) (1024 + 16) (D 10 10))) 1024 (tgA (D 11) (D 16) 960)))) (by omega)
    replace hn : (ax_put hp_1 (nd + 21) (.inl (0, 1152, .inl (seald (wrR (D 15) (D 16) 1024 512 0 0 (upd (upd (D 21) (1024 + 15) (D 10 9)) (1024 + 16) (D 10 10))) 1024 (tgA (D 11) (D 16) 960))))).1 = h0.1 := hn
    replace hs : (ax_put hp_1 (nd + 21) (.inl (0, 1152, .inl (seald (wrR (D 15) (D 16) 1024 512 0 0 (upd (upd (D 21) (1024 + 15) (D 10 9)) (1024 + 16) (D 10 10))) 1024 (tgA (D 11) (D 16) 960))))).2.1 = h0.2.1 := hs
    generalize ax_put hp_1 (nd + 21) (.inl (0, 1152, .inl (seald (wrR (D 15) (D 16) 1024 512 0 0 (upd (upd (D 21) (1024 + 15) (D 10 9)) (1024 + 16) (D 10 10))) 1024 (tgA (D 11) (D 16) 960)))) = hp_2 at hF hf hN hn hs ⊢
    have hB : GB Z (seald (wrR (D 15) (D 16) 1024 512 0 0 (upd (upd (D 21) (1024 + 15) (D 10 9)) (1024 + 16) (D 10 10))) 1024 (tgA (D 11) (D 16) 960)) := by
      refine GB.set (i := 8) hI.2.2.1.2.2.2.2.2.2.2 (fun b hb hbj x hx => ?_) (fun k hk ek => ?_)
      · rw [seald_x (by omega) (by omega) (by omega), wrR_x _ _ _ _ _ (by omega), pk_un (by omega), pk_un (by omega)]
      · rw [show (8 : Nat) * 128 + 1 = 1024 + 1 from rfl, seald_1, tg_root (o := o) c1] at ek
        have e := nI_inj (by omega) hk ek
        refine ⟨fun _ => ?_, fun z => by omega⟩
        rw [show k % 512 = o by omega]
        exact hZo
    refine ar_aload_n 78 d_121_77 rfl rfl ?_
    refine ar_iconst 79 (v := 4) d_121_78 rfl (by decide) ?_
    refine ar_putf 82 [.ref (nd + 10), .ref (nd + 19), .ref (nd + 21), .int 4, .int (D 18 4), .int (D 18 5), .int (D 18 6), .int (D 18 7), .int (D 18 8), .int (D 18 9), .int (D 18 10), .int (D 18 11), .int (D 18 12), .int (D 18 13), .int (D 18 14)] d_121_79 rfl (ci := 10) (k := 3) rfl rfl (hF.at 18 rfl) (Nat.le_of_ble_eq_true rfl) rfl rfl rfl ?_
    replace hF : ax_hs (ax_put hp_2 (nd + 18) (.inr (10, [.ref (nd + 10), .ref (nd + 19), .ref (nd + 21), .int 4, .int (D 18 4), .int (D 18 5), .int (D 18 6), .int (D 18 7), .int (D 18 8), .int (D 18 9), .int (D 18 10), .int (D 18 11), .int (D 18 12), .int (D 18 13), .int (D 18 14)]))) [cNd n nd me D, cDk nd D, cAr nd 2 35840 D, cAr nd 3 4096 D, cAr nd 4 32 D, cAr nd 5 280 D, cAr nd 6 280 D, cLd n nd me D A, cAr nd 8 16 D, cAr nd 9 280 D, cTb nd gg D K, cAr nd 11 48 D, cAr nd 12 48 D, cAr nd 13 48 D, cAr nd 14 2400 D, cAr nd 15 512 D, cAr nd 16 961 D, cAr nd 17 961 D, (nd + 18, .inr (10, [.ref (nd + 10), .ref (nd + 19), .ref (nd + 21), .int 4, .int (D 18 4), .int (D 18 5), .int (D 18 6), .int (D 18 7), .int (D 18 8), .int (D 18 9), .int (D 18 10), .int (D 18 11), .int (D 18 12), .int (D 18 13), .int (D 18 14)])), cWa nd D, cAr nd 20 612 D, (nd + 21, .inl (0, 1152, .inl (seald (wrR (D 15) (D 16) 1024 512 0 0 (upd (upd (D 21) (1024 + 15) (D 10 9)) (1024 + 16) (D 10 10))) 1024 (tgA (D 11) (D 16) 960)))), cRk n nn gg C, cOr n nn gg f] := hF.put 18 _ rfl rfl
    replace hf := hf.put (a := nd + 18) (c := .inr (10, [.ref (nd + 10), .ref (nd + 19), .ref (nd + 21), .int 4, .int (D 18 4), .int (D 18 5), .int (D 18 6), .int (D 18 7), .int (D 18 8), .int (D 18 9), .int (D 18 10), .int (D 18 11), .int (D 18 12), .int (D 18 13), .int (D 18 14)])) (Or.inr (by omega))
    replace hN := hN.put (a := nd + 18) (c := .inr (10, [.ref (nd + 10), .ref (nd + 19), .ref (nd + 21), .int 4, .int (D 18 4), .int (D 18 5), .int (D 18 6), .int (D 18 7), .int (D 18 8), .int (D 18 9), .int (D 18 10), .int (D 18 11), .int (D 18 12), .int (D 18 13), .int (D 18 14)])) (by omega)
    replace hn : (ax_put hp_2 (nd + 18) (.inr (10, [.ref (nd + 10), .ref (nd + 19), .ref (nd + 21), .int 4, .int (D 18 4), .int (D 18 5), .int (D 18 6), .int (D 18 7), .int (D 18 8), .int (D 18 9), .int (D 18 10), .int (D 18 11), .int (D 18 12), .int (D 18 13), .int (D 18 14)]))).1 = h0.1 := hn
    replace hs : (ax_put hp_2 (nd + 18) (.inr (10, [.ref (nd + 10), .ref (nd + 19), .ref (nd + 21), .int 4, .int (D 18 4), .int (D 18 5), .int (D 18 6), .int (D 18 7), .int (D 18 8), .int (D 18 9), .int (D 18 10), .int (D 18 11), .int (D 18 12), .int (D 18 13), .int (D 18 14)]))).2.1 = h0.2.1 := hs
    generalize ax_put hp_2 (nd + 18) (.inr (10, [.ref (nd + 10), .ref (nd + 19), .ref (nd + 21), .int 4, .int (D 18 4), .int (D 18 5), .int (D 18 6), .int (D 18 7), .int (D 18 8), .int (D 18 9), .int (D 18 10), .int (D 18 11), .int (D 18 12), .int (D 18 13), .int (D 18 14)])) = hp_3 at hF hf hN hn hs ⊢
    have hS9 : NS Z n nd nn gg C me f q u b uv h0 hp_3 (va_up (va_up D 18 (upd (D 18) 3 4)) 21 (seald (wrR (D 15) (D 16) 1024 512 0 0 (upd (upd (D 21) (1024 + 15) (D 10 9)) (1024 + 16) (D 10 10))) 1024 (tgA (D 11) (D 16) 960))) K A Y := ⟨hF, hN, hf, hn, hs, hp0, hu0⟩
    have hI9 : NI Z nn (va_up (va_up D 18 (upd (D 18) 3 4)) 21 (seald (wrR (D 15) (D 16) 1024 512 0 0 (upd (upd (D 21) (1024 + 15) (D 10 9)) (1024 + 16) (D 10 10))) 1024 (tgA (D 11) (D 16) 960))) := ⟨hI.1, hI.2.1, WI.store (Or.inr rfl) hI.2.2.1.1 hI.2.2.1.2.2.1 (hI.2.2.1.2.2.2.1 (neq h3 (by decide))) ⟨o, ho, eo, hZo⟩ hB, hI.2.2.2⟩
    exact ar_ret d_121_82 rfl (⟨rfl, _, _, _, _, hS9, hI9, bnN_eq (cl_eq ho eo) (eq_ifT c1 (rfl)), trivial⟩)
  · refine ar_aload_n 19 d_121_18 rfl rfl ?_
    refine ar_getf 22 d_121_19 rfl (ci := 10) (k := 0) rfl (hF.at 18 rfl) rfl ?_
    refine ar_sipush 25 (v := 960) d_121_22 rfl (by decide) ?_
    refine ar_top (x' := nI 960) (rfl) ?_
    refine ar_aload_n 26 d_121_25 rfl rfl ?_
    refine ar_getf 29 d_121_26 rfl (ci := 10) (k := 4) rfl (hF.at 18 rfl) rfl ?_
    refine ar_top (x' := nI o) (eo) ?_
    refine ar_call (r := []) (na := 0) (kd := 0) (cm := 115) (fr2 := fr - 1) (lo2 := lo - 22) 32 d_121_29 (ar_hoV (as := [.int (nI 960), .int (nI o)]) rfl rfl rfl (hF.at 10 rfl)) rfl (by omega) (show lo - 22 + (19 + 3) = lo by omega) (Nat.le_of_ble_eq_true rfl) (Nat.le_of_ble_eq_true rfl) (c_115 (a := 960) (by omega) (hF.sub (F' := [cTb nd gg D K, cAr nd 16 961 D, cAr nd 17 961 D]) [10, 16, 17] rfl rfl) rfl rfl (by omega)) ?_
    intro v hp_4 hq
    obtain ⟨rfl, qF, qn, qs, qf⟩ := hq
    have qF : ax_hs hp_4 [cTb nd gg D K, (nd + 16, .inl (0, 961, .inl (upd (D 16) 960 (nI o)))), (nd + 17, .inl (0, 961, .inl (upd (D 17) 960 0)))] := qF
    replace hF : ax_hs hp_4 [cNd n nd me D, cDk nd D, cAr nd 2 35840 D, cAr nd 3 4096 D, cAr nd 4 32 D, cAr nd 5 280 D, cAr nd 6 280 D, cLd n nd me D A, cAr nd 8 16 D, cAr nd 9 280 D, cAr nd 11 48 D, cAr nd 12 48 D, cAr nd 13 48 D, cAr nd 14 2400 D, cAr nd 15 512 D, cWk nd D, cWa nd D, cAr nd 20 612 D, cAr nd 21 1152 D, cRk n nn gg C, cOr n nn gg f, cTb nd gg D K, (nd + 16, .inl (0, 961, .inl (upd (D 16) 960 (nI o)))), (nd + 17, .inl (0, 961, .inl (upd (D 17) 960 0)))] := ax_hs.call (rest := [cNd n nd me D, cDk nd D, cAr nd 2 35840 D, cAr nd 3 4096 D, cAr nd 4 32 D, cAr nd 5 280 D, cAr nd 6 280 D, cLd n nd me D A, cAr nd 8 16 D, cAr nd 9 280 D, cAr nd 11 48 D, cAr nd 12 48 D, cAr nd 13 48 D, cAr nd 14 2400 D, cAr nd 15 512 D, cWk nd D, cWa nd D, cAr nd 20 612 D, cAr nd 21 1152 D, cRk n nn gg C, cOr n nn gg f]) [10, 16, 17] [0, 1, 2, 3, 4, 5, 6, 7, 8, 9, 11, 12, 13, 14, 15, 18, 19, 20, 21, 22, 23] hF qf qF rfl rfl rfl [16, 17] rfl rfl [10, 16, 17] (news := []) rfl rfl (fun _ z => absurd z List.not_mem_nil) rfl
    replace hF := hF.sub (F' := [cNd n nd me D, cDk nd D, cAr nd 2 35840 D, cAr nd 3 4096 D, cAr nd 4 32 D, cAr nd 5 280 D, cAr nd 6 280 D, cLd n nd me D A, cAr nd 8 16 D, cAr nd 9 280 D, cTb nd gg D K, cAr nd 11 48 D, cAr nd 12 48 D, cAr nd 13 48 D, cAr nd 14 2400 D, cAr nd 15 512 D, (nd + 16, .inl (0, 961, .inl (upd (D 16) 960 (nI o)))), (nd + 17, .inl (0, 961, .inl (upd (D 17) 960 0))), cWk nd D, cWa nd D, cAr nd 20 612 D, cAr nd 21 1152 D, cRk n nn gg C, cOr n nn gg f]) [0, 1, 2, 3, 4, 5, 6, 7, 8, 9, 21, 10, 11, 12, 13, 14, 22, 23, 15, 16, 17, 18, 19, 20] rfl rfl
    replace hN := hN.fr qf (fun x hx z => by simp only [List.mem_cons, List.not_mem_nil, or_false] at z; unfold NTA at hx; omega)
    replace hf := hf.trC qf (fun x _ z => Or.inr (by simp only [List.mem_cons, List.not_mem_nil, or_false] at z; omega))
    replace hn : hp_4.1 = h0.1 := by omega
    replace hs : hp_4.2.1 = h0.2.1 := by omega
    clear qF qn qs qf
    refine ar_aload_n 33 d_121_32 rfl rfl ?_
    refine ar_getf 36 d_121_33 rfl (ci := 10) (k := 0) rfl (hF.at 18 rfl) rfl ?_
    refine ar_aload_n 37 d_121_36 rfl rfl ?_
    refine ar_getf 40 d_121_37 rfl (ci := 10) (k := 5) rfl (hF.at 18 rfl) rfl ?_
    refine ar_putf 43 [.int (nI gg), .ref (nd + 11), .ref (nd + 12), .ref (nd + 13), .ref (nd + 14), .ref (nd + 15), .ref (nd + 16), .ref (nd + 17), .long K, .int (D 10 9), .int (D 18 5)] d_121_40 rfl (ci := 6) (k := 10) rfl rfl (hF.at 10 rfl) (Nat.le_of_ble_eq_true rfl) rfl rfl rfl ?_
    replace hF : ax_hs (ax_put hp_4 (nd + 10) (.inr (6, [.int (nI gg), .ref (nd + 11), .ref (nd + 12), .ref (nd + 13), .ref (nd + 14), .ref (nd + 15), .ref (nd + 16), .ref (nd + 17), .long K, .int (D 10 9), .int (D 18 5)]))) [cNd n nd me D, cDk nd D, cAr nd 2 35840 D, cAr nd 3 4096 D, cAr nd 4 32 D, cAr nd 5 280 D, cAr nd 6 280 D, cLd n nd me D A, cAr nd 8 16 D, cAr nd 9 280 D, (nd + 10, .inr (6, [.int (nI gg), .ref (nd + 11), .ref (nd + 12), .ref (nd + 13), .ref (nd + 14), .ref (nd + 15), .ref (nd + 16), .ref (nd + 17), .long K, .int (D 10 9), .int (D 18 5)])), cAr nd 11 48 D, cAr nd 12 48 D, cAr nd 13 48 D, cAr nd 14 2400 D, cAr nd 15 512 D, (nd + 16, .inl (0, 961, .inl (upd (D 16) 960 (nI o)))), (nd + 17, .inl (0, 961, .inl (upd (D 17) 960 0))), cWk nd D, cWa nd D, cAr nd 20 612 D, cAr nd 21 1152 D, cRk n nn gg C, cOr n nn gg f] := hF.put 10 _ rfl rfl
    replace hf := hf.put (a := nd + 10) (c := .inr (6, [.int (nI gg), .ref (nd + 11), .ref (nd + 12), .ref (nd + 13), .ref (nd + 14), .ref (nd + 15), .ref (nd + 16), .ref (nd + 17), .long K, .int (D 10 9), .int (D 18 5)])) (Or.inr (by omega))
    replace hN := hN.put (a := nd + 10) (c := .inr (6, [.int (nI gg), .ref (nd + 11), .ref (nd + 12), .ref (nd + 13), .ref (nd + 14), .ref (nd + 15), .ref (nd + 16), .ref (nd + 17), .long K, .int (D 10 9), .int (D 18 5)])) (by omega)
    replace hn : (ax_put hp_4 (nd + 10) (.inr (6, [.int (nI gg), .ref (nd + 11), .ref (nd + 12), .ref (nd + 13), .ref (nd + 14), .ref (nd + 15), .ref (nd + 16), .ref (nd + 17), .long K, .int (D 10 9), .int (D 18 5)]))).1 = h0.1 := hn
    replace hs : (ax_put hp_4 (nd + 10) (.inr (6, [.int (nI gg), .ref (nd + 11), .ref (nd + 12), .ref (nd + 13), .ref (nd + 14), .ref (nd + 15), .ref (nd + 16), .ref (nd + 17), .long K, .int (D 10 9), .int (D 18 5)]))).2.1 = h0.2.1 := hs
    generalize ax_put hp_4 (nd + 10) (.inr (6, [.int (nI gg), .ref (nd + 11), .ref (nd + 12), .ref (nd + 13), .ref (nd + 14), .ref (nd + 15), .ref (nd + 16), .ref (nd + 17), .long K, .int (D 10 9), .int (D 18 5)])) = hp_5 at hF hf hN hn hs ⊢
    refine ar_aload_n 44 d_121_43 rfl rfl ?_
    refine ar_getf 47 d_121_44 rfl (ci := 10) (k := 0) rfl (hF.at 18 rfl) rfl ?_
    refine ar_aload_n 48 d_121_47 rfl rfl ?_
    refine ar_getf 51 d_121_48 rfl (ci := 10) (k := 2) rfl (hF.at 18 rfl) rfl ?_
    refine ar_sipush 54 (v := 1024) d_121_51 rfl (by decide) ?_
    refine ar_top (x' := nI 1024) (rfl) ?_
    refine ar_call (r := []) (na := 0) (kd := 0) (cm := 122) (fr2 := fr - 1) (lo2 := lo - 25) 57 d_121_54 (ar_hoV (as := [.ref (nd + 21), .int (nI 1024)]) rfl rfl rfl (hF.at 10 rfl)) rfl (by omega) (show lo - 25 + (19 + 6) = lo by omega) (Nat.le_of_ble_eq_true rfl) (Nat.le_of_ble_eq_true rfl) (c_122 (p := 1024) (by decide) (by omega) hI.2.1.fo (hF.sub (F' := [(nd + 10, .inr (6, [.int (nI gg), .ref (nd + 11), .ref (nd + 12), .ref (nd + 13), .ref (nd + 14), .ref (nd + 15), .ref (nd + 16), .ref (nd + 17), .long K, .int (D 10 9), .int (D 18 5)])), cAr nd 15 512 D, (nd + 16, .inl (0, 961, .inl (upd (D 16) 960 (nI o)))), cAr nd 21 1152 D]) [10, 15, 16, 21] rfl rfl) rfl rfl (by omega)) ?_
    intro v hp_6 hq
    obtain ⟨rfl, qF, qn, qs, qf⟩ := hq
    have qF : ax_hs hp_6 [(nd + 10, .inr (6, [.int (nI gg), .ref (nd + 11), .ref (nd + 12), .ref (nd + 13), .ref (nd + 14), .ref (nd + 15), .ref (nd + 16), .ref (nd + 17), .long K, .int (D 10 9), .int (D 18 5)])), cAr nd 15 512 D, (nd + 16, .inl (0, 961, .inl (upd (D 16) 960 (nI o)))), (nd + 21, .inl (0, 1152, .inl (wrR (D 15) (upd (D 16) 960 (nI o)) 1024 512 0 0 (upd (upd (D 21) (1024 + 15) (D 10 9)) (1024 + 16) (D 18 5)))))] := qF
    replace hF : ax_hs hp_6 [cNd n nd me D, cDk nd D, cAr nd 2 35840 D, cAr nd 3 4096 D, cAr nd 4 32 D, cAr nd 5 280 D, cAr nd 6 280 D, cLd n nd me D A, cAr nd 8 16 D, cAr nd 9 280 D, cAr nd 11 48 D, cAr nd 12 48 D, cAr nd 13 48 D, cAr nd 14 2400 D, (nd + 17, .inl (0, 961, .inl (upd (D 17) 960 0))), cWk nd D, cWa nd D, cAr nd 20 612 D, cRk n nn gg C, cOr n nn gg f, (nd + 10, .inr (6, [.int (nI gg), .ref (nd + 11), .ref (nd + 12), .ref (nd + 13), .ref (nd + 14), .ref (nd + 15), .ref (nd + 16), .ref (nd + 17), .long K, .int (D 10 9), .int (D 18 5)])), cAr nd 15 512 D, (nd + 16, .inl (0, 961, .inl (upd (D 16) 960 (nI o)))), (nd + 21, .inl (0, 1152, .inl (wrR (D 15) (upd (D 16) 960 (nI o)) 1024 512 0 0 (upd (upd (D 21) (1024 + 15) (D 10 9)) (1024 + 16) (D 18 5)))))] := ax_hs.call (rest := [cNd n nd me D, cDk nd D, cAr nd 2 35840 D, cAr nd 3 4096 D, cAr nd 4 32 D, cAr nd 5 280 D, cAr nd 6 280 D, cLd n nd me D A, cAr nd 8 16 D, cAr nd 9 280 D, cAr nd 11 48 D, cAr nd 12 48 D, cAr nd 13 48 D, cAr nd 14 2400 D, (nd + 17, .inl (0, 961, .inl (upd (D 17) 960 0))), cWk nd D, cWa nd D, cAr nd 20 612 D, cRk n nn gg C, cOr n nn gg f]) [10, 15, 16, 21] [0, 1, 2, 3, 4, 5, 6, 7, 8, 9, 11, 12, 13, 14, 17, 18, 19, 20, 22, 23] hF qf qF rfl rfl rfl [21] rfl rfl [10, 15, 16, 21] (news := []) rfl rfl (fun _ z => absurd z List.not_mem_nil) rfl
    replace hF := hF.sub (F' := [cNd n nd me D, cDk nd D, cAr nd 2 35840 D, cAr nd 3 4096 D, cAr nd 4 32 D, cAr nd 5 280 D, cAr nd 6 280 D, cLd n nd me D A, cAr nd 8 16 D, cAr nd 9 280 D, (nd + 10, .inr (6, [.int (nI gg), .ref (nd + 11), .ref (nd + 12), .ref (nd + 13), .ref (nd + 14), .ref (nd + 15), .ref (nd + 16), .ref (nd + 17), .long K, .int (D 10 9), .int (D 18 5)])), cAr nd 11 48 D, cAr nd 12 48 D, cAr nd 13 48 D, cAr nd 14 2400 D, cAr nd 15 512 D, (nd + 16, .inl (0, 961, .inl (upd (D 16) 960 (nI o)))), (nd + 17, .inl (0, 961, .inl (upd (D 17) 960 0))), cWk nd D, cWa nd D, cAr nd 20 612 D, (nd + 21, .inl (0, 1152, .inl (wrR (D 15) (upd (D 16) 960 (nI o)) 1024 512 0 0 (upd (upd (D 21) (1024 + 15) (D 10 9)) (1024 + 16) (D 18 5))))), cRk n nn gg C, cOr n nn gg f]) [0, 1, 2, 3, 4, 5, 6, 7, 8, 9, 20, 10, 11, 12, 13, 21, 22, 14, 15, 16, 17, 23, 18, 19] rfl rfl
    replace hN := hN.fr qf (fun x hx z => by simp only [List.mem_cons, List.not_mem_nil, or_false] at z; unfold NTA at hx; omega)
    replace hf := hf.trC qf (fun x _ z => Or.inr (by simp only [List.mem_cons, List.not_mem_nil, or_false] at z; omega))
    replace hn : hp_6.1 = h0.1 := by omega
    replace hs : hp_6.2.1 = h0.2.1 := by omega
    clear qF qn qs qf
    refine ar_aload_n 58 d_121_57 rfl rfl ?_
    refine ar_getf 61 d_121_58 rfl (ci := 10) (k := 2) rfl (hF.at 18 rfl) rfl ?_
    refine ar_sipush 64 (v := 1024) d_121_61 rfl (by decide) ?_
    refine ar_top (x' := nI 1024) (rfl) ?_
    refine ar_aload_n 65 d_121_64 rfl rfl ?_
    refine ar_getf 68 d_121_65 rfl (ci := 10) (k := 0) rfl (hF.at 18 rfl) rfl ?_
    refine ar_sipush 71 (v := 960) d_121_68 rfl (by decide) ?_
    refine ar_top (x' := nI 960) (rfl) ?_
    refine ar_call (r := [.int (nI 1024), .ref (nd + 21)]) (na := 0) (kd := 0) (cm := 116) (fr2 := fr - 1) (lo2 := lo - 22) 74 d_121_71 (ar_hoV (as := [.int (nI 960)]) rfl rfl rfl (hF.at 10 rfl)) rfl (by omega) (show lo - 22 + (19 + 3) = lo by omega) (Nat.le_of_ble_eq_true rfl) (Nat.le_of_ble_eq_true rfl) (c_116 (a := 960) (by omega) (hF.at 10 rfl) (hF.at 11 rfl) (hF.at 16 rfl)) ?_
    intro v hh hq
    obtain ⟨rfl, ehh⟩ := hq
    rw [ehh]
    clear ehh
    refine ar_call (r := []) (na := 0) (kd := 0) (cm := 117) (fr2 := fr - 1) (lo2 := lo - 22) 77 d_121_74 (ar_hoS (as := [.ref (nd + 21), .int (nI 1024), .int (tgA (D 11) (upd (D 16) 960 (nI o)) 960)]) rfl rfl rfl) rfl (by omega) (show lo - 22 + (19 + 3) = lo by omega) (Nat.le_of_ble_eq_true rfl) (Nat.le_of_ble_eq_true rfl) (c_117 (i := 1024) (by omega) (by omega) (by decide) (by omega) (ax_hs.one (hF.at 21 rfl))) ?_
    intro v hh hq
    obtain ⟨rfl, rfl⟩ := hq
    replace hF : ax_hs (ax_put hp_6 (nd + 21) (.inl (0, 1152, .inl (seald (wrR (D 15) (upd (D 16) 960 (nI o)) 1024 512 0 0 (upd (upd (D 21) (1024 + 15) (D 10 9)) (1024 + 16) (D 18 5))) 1024 (tgA (D 11) (upd (D 16) 960 (nI o)) 960))))) [cNd n nd me D, cDk nd D, cAr nd 2 35840 D, cAr nd 3 4096 D, cAr nd 4 32 D, cAr nd 5 280 D, cAr nd 6 280 D, cLd n nd me D A, cAr nd 8 16 D, cAr nd 9 280 D, (nd + 10, .inr (6, [.int (nI gg), .ref (nd + 11), .ref (nd + 12), .ref (nd + 13), .ref (nd + 14), .ref (nd + 15), .ref (nd + 16), .ref (nd + 17), .long K, .int (D 10 9), .int (D 18 5)])), cAr nd 11 48 D, cAr nd 12 48 D, cAr nd 13 48 D, cAr nd 14 2400 D, cAr nd 15 512 D, (nd + 16, .inl (0, 961, .inl (upd (D 16) 960 (nI o)))), (nd + 17, .inl (0, 961, .inl (upd (D 17) 960 0))), cWk nd D, cWa nd D, cAr nd 20 612 D, (nd + 21, .inl (0, 1152, .inl (seald (wrR (D 15) (upd (D 16) 960 (nI o)) 1024 512 0 0 (upd (upd (D 21) (1024 + 15) (D 10 9)) (1024 + 16) (D 18 5))) 1024 (tgA (D 11) (upd (D 16) 960 (nI o)) 960)))), cRk n nn gg C, cOr n nn gg f] := hF.put 21 _ rfl rfl
    replace hf := hf.put (a := nd + 21) (c := .inl (0, 1152, .inl (seald (wrR (D 15) (upd (D 16) 960 (nI o)) 1024 512 0 0 (upd (upd (D 21) (1024 + 15) (D 10 9)) (1024 + 16) (D 18 5))) 1024 (tgA (D 11) (upd (D 16) 960 (nI o)) 960)))) (Or.inr (by omega))
    replace hN := hN.put (a := nd + 21) (c := .inl (0, 1152, .inl (seald (wrR (D 15) (upd (D 16) 960 (nI o)) 1024 512 0 0 (upd (upd (D 21) (1024 + 15) (D 10 9)) (1024 + 16) (D 18 5))) 1024 (tgA (D 11) (upd (D 16) 960 (nI o)) 960)))) (by omega)
    replace hn : (ax_put hp_6 (nd + 21) (.inl (0, 1152, .inl (seald (wrR (D 15) (upd (D 16) 960 (nI o)) 1024 512 0 0 (upd (upd (D 21) (1024 + 15) (D 10 9)) (1024 + 16) (D 18 5))) 1024 (tgA (D 11) (upd (D 16) 960 (nI o)) 960))))).1 = h0.1 := hn
    replace hs : (ax_put hp_6 (nd + 21) (.inl (0, 1152, .inl (seald (wrR (D 15) (upd (D 16) 960 (nI o)) 1024 512 0 0 (upd (upd (D 21) (1024 + 15) (D 10 9)) (1024 + 16) (D 18 5))) 1024 (tgA (D 11) (upd (D 16) 960 (nI o)) 960))))).2.1 = h0.2.1 := hs
    generalize ax_put hp_6 (nd + 21) (.inl (0, 1152, .inl (seald (wrR (D 15) (upd (D 16) 960 (nI o)) 1024 512 0 0 (upd (upd (D 21) (1024 + 15) (D 10 9)) (1024 + 16) (D 18 5))) 1024 (tgA (D 11) (upd (D 16) 960 (nI o)) 960)))) = hp_7 at hF hf hN hn hs ⊢
    have hB : GB Z (seald (wrR (D 15) (upd (D 16) 960 (nI o)) 1024 512 0 0 (upd (upd (D 21) (1024 + 15) (D 10 9)) (1024 + 16) (D 18 5))) 1024 (tgA (D 11) (upd (D 16) 960 (nI o)) 960)) := by
      refine GB.set (i := 8) hI.2.2.1.2.2.2.2.2.2.2 (fun b hb hbj x hx => ?_) (fun k hk ek => ?_)
      · rw [seald_x (by omega) (by omega) (by omega), wrR_x _ _ _ _ _ (by omega), pk_un (by omega), pk_un (by omega)]
      · rw [show (8 : Nat) * 128 + 1 = 1024 + 1 from rfl, seald_1, tg_root (o := o) pk_us] at ek
        have e := nI_inj (by omega) hk ek
        refine ⟨fun _ => ?_, fun z => by omega⟩
        rw [show k % 512 = o by omega]
        exact hZo
    refine ar_aload_n 78 d_121_77 rfl rfl ?_
    refine ar_iconst 79 (v := 4) d_121_78 rfl (by decide) ?_
    refine ar_putf 82 [.ref (nd + 10), .ref (nd + 19), .ref (nd + 21), .int 4, .int (D 18 4), .int (D 18 5), .int (D 18 6), .int (D 18 7), .int (D 18 8), .int (D 18 9), .int (D 18 10), .int (D 18 11), .int (D 18 12), .int (D 18 13), .int (D 18 14)] d_121_79 rfl (ci := 10) (k := 3) rfl rfl (hF.at 18 rfl) (Nat.le_of_ble_eq_true rfl) rfl rfl rfl ?_
    replace hF : ax_hs (ax_put hp_7 (nd + 18) (.inr (10, [.ref (nd + 10), .ref (nd + 19), .ref (nd + 21), .int 4, .int (D 18 4), .int (D 18 5), .int (D 18 6), .int (D 18 7), .int (D 18 8), .int (D 18 9), .int (D 18 10), .int (D 18 11), .int (D 18 12), .int (D 18 13), .int (D 18 14)]))) [cNd n nd me D, cDk nd D, cAr nd 2 35840 D, cAr nd 3 4096 D, cAr nd 4 32 D, cAr nd 5 280 D, cAr nd 6 280 D, cLd n nd me D A, cAr nd 8 16 D, cAr nd 9 280 D, (nd + 10, .inr (6, [.int (nI gg), .ref (nd + 11), .ref (nd + 12), .ref (nd + 13), .ref (nd + 14), .ref (nd + 15), .ref (nd + 16), .ref (nd + 17), .long K, .int (D 10 9), .int (D 18 5)])), cAr nd 11 48 D, cAr nd 12 48 D, cAr nd 13 48 D, cAr nd 14 2400 D, cAr nd 15 512 D, (nd + 16, .inl (0, 961, .inl (upd (D 16) 960 (nI o)))), (nd + 17, .inl (0, 961, .inl (upd (D 17) 960 0))), (nd + 18, .inr (10, [.ref (nd + 10), .ref (nd + 19), .ref (nd + 21), .int 4, .int (D 18 4), .int (D 18 5), .int (D 18 6), .int (D 18 7), .int (D 18 8), .int (D 18 9), .int (D 18 10), .int (D 18 11), .int (D 18 12), .int (D 18 13), .int (D 18 14)])), cWa nd D, cAr nd 20 612 D, (nd + 21, .inl (0, 1152, .inl (seald (wrR (D 15) (upd (D 16) 960 (nI o)) 1024 512 0 0 (upd (upd (D 21) (1024 + 15) (D 10 9)) (1024 + 16) (D 18 5))) 1024 (tgA (D 11) (upd (D 16) 960 (nI o)) 960)))), cRk n nn gg C, cOr n nn gg f] := hF.put 18 _ rfl rfl
    replace hf := hf.put (a := nd + 18) (c := .inr (10, [.ref (nd + 10), .ref (nd + 19), .ref (nd + 21), .int 4, .int (D 18 4), .int (D 18 5), .int (D 18 6), .int (D 18 7), .int (D 18 8), .int (D 18 9), .int (D 18 10), .int (D 18 11), .int (D 18 12), .int (D 18 13), .int (D 18 14)])) (Or.inr (by omega))
    replace hN := hN.put (a := nd + 18) (c := .inr (10, [.ref (nd + 10), .ref (nd + 19), .ref (nd + 21), .int 4, .int (D 18 4), .int (D 18 5), .int (D 18 6), .int (D 18 7), .int (D 18 8), .int (D 18 9), .int (D 18 10), .int (D 18 11), .int (D 18 12), .int (D 18 13), .int (D 18 14)])) (by omega)
    replace hn : (ax_put hp_7 (nd + 18) (.inr (10, [.ref (nd + 10), .ref (nd + 19), .ref (nd + 21), .int 4, .int (D 18 4), .int (D 18 5), .int (D 18 6), .int (D 18 7), .int (D 18 8), .int (D 18 9), .int (D 18 10), .int (D 18 11), .int (D 18 12), .int (D 18 13), .int (D 18 14)]))).1 = h0.1 := hn
    replace hs : (ax_put hp_7 (nd + 18) (.inr (10, [.ref (nd + 10), .ref (nd + 19), .ref (nd + 21), .int 4, .int (D 18 4), .int (D 18 5), .int (D 18 6), .int (D 18 7), .int (D 18 8), .int (D 18 9), .int (D 18 10), .int (D 18 11), .int (D 18 12), .int (D 18 13), .int (D 18 14)]))).2.1 = h0.2.1 := hs
    generalize ax_put hp_7 (nd + 18) (.inr (10, [.ref (nd + 10), .ref (nd + 19), .ref (nd + 21), .int 4, .int (D 18 4), .int (D 18 5), .int (D 18 6), .int (D 18 7), .int (D 18 8), .int (D 18 9), .int (D 18 10), .int (D 18 11), .int (D 18 12), .int (D 18 13), .int (D 18 14)])) = hp_8 at hF hf hN hn hs ⊢
    have hS9 : NS Z n nd nn gg C me f q u b uv h0 hp_8 (va_up (va_up (va_up (va_up (va_up D 10 (upd (D 10) 10 (D 18 5))) 16 (upd (D 16) 960 (nI o))) 17 (upd (D 17) 960 0)) 18 (upd (D 18) 3 4)) 21 (seald (wrR (D 15) (upd (D 16) 960 (nI o)) 1024 512 0 0 (upd (upd (D 21) (1024 + 15) (D 10 9)) (1024 + 16) (D 18 5))) 1024 (tgA (D 11) (upd (D 16) 960 (nI o)) 960))) K A Y := ⟨hF, hN, hf, hn, hs, hp0, hu0⟩
    have hI9 : NI Z nn (va_up (va_up (va_up (va_up (va_up D 10 (upd (D 10) 10 (D 18 5))) 16 (upd (D 16) 960 (nI o))) 17 (upd (D 17) 960 0)) 18 (upd (D 18) 3 4)) 21 (seald (wrR (D 15) (upd (D 16) 960 (nI o)) 1024 512 0 0 (upd (upd (D 21) (1024 + 15) (D 10 9)) (1024 + 16) (D 18 5))) 1024 (tgA (D 11) (upd (D 16) 960 (nI o)) 960))) := ⟨hI.1, hI.2.1.renew (by omega) ho (fun z => by omega) (fun _ => hZo), WI.store (Or.inr rfl) hI.2.2.1.1 hI.2.2.1.2.2.1 (hI.2.2.1.2.2.2.1 (neq h3 (by decide))) ⟨o, ho, eo, hZo⟩ hB, hI.2.2.2⟩
    exact ar_ret d_121_82 rfl (⟨rfl, _, _, _, _, hS9, hI9, bnN_eq (cl_eq ho eo) (eq_ifF c1 (rfl)), trivial⟩)

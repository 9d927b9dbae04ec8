/-! Table.firstAfter, Bytes.move, Bytes.clear -/

def fsA (jf nf mf wf : Nat → Int32) (x : Int32) : Nat → Nat → Int32 → Int32
  | 0, _, y => y
  | k + 1, i, y =>
    if jf i < 0 then fsA jf nf mf wf x k (i + 1) y
    else if cmpW mf wf (i * 50) 0 (nf i) x 50 0 ≤ 0 then fsA jf nf mf wf x k (i + 1) y
    else if y < 0 then fsA jf nf mf wf x k (i + 1) (nI i)
    else if 0 ≤ cmpW mf mf (i * 50) (y.toNatClampNeg * 50) (nf i) (nf y.toNatClampNeg) 50 0 then fsA jf nf mf wf x k (i + 1) y
    else fsA jf nf mf wf x k (i + 1) (nI i)
theorem c_97E {L : Nat} {xs : Nat → Int32} {fr lo : Nat} {h : ax_H} {tb a1 a2 a3 a4 a5 a6 a7 : Nat} {g fl an : Int32} {kn : Int64} {bw N : Nat} {jf nf mf wf : Nat → Int32} {x : Int32} (hfr : 2 ≤ fr) (hlo : 60 ≤ lo) (hN : 50 ≤ N) (hN2 : N < 2 ^ 31) (gt : ax_g h tb = some (.inr (6, [.int g, .ref a1, .ref a2, .ref a3, .ref a4, .ref a5, .ref a6, .ref a7, .long kn, .int fl, .int an]))) (g1 : ax_g h a1 = some (.inl (0, 48, .inl jf))) (g3 : ax_g h a3 = some (.inl (0, 48, .inl nf))) (g4 : ax_g h a4 = some (.inl (0, 2400, .inl mf))) (gb : ax_g h bw = some (.inl (0, N, .inl wf))) : ax_M L xs 97 fr lo [.ref tb, .ref bw, .int x] h (fun r h' => ∃ y' : Int32, r = some (.int y') ∧ y' = fsA jf nf mf wf x 48 0 (-1) ∧ (y' = -1 ∨ ∃ p : Nat, p < 48 ∧ y' = nI p ∧ ¬ jf p < 0) ∧ h' = h) := by
  have key : ∀ (k i : Nat) (y : Int32), i + k = 48 → (y = -1 ∨ ∃ p : Nat, p < 48 ∧ y = nI p ∧ ¬ jf p < 0) → ax_A (ax_step L xs) ((97, 5, fr, lo), [(0, .ref tb), (1, .ref bw), (2, .int x), (3, .int y), (4, .int (nI i))], [], h) (fun r h' => ∃ y' : Int32, r = some (.int y') ∧ y' = fsA jf nf mf wf x k i y ∧ (y' = -1 ∨ ∃ p : Nat, p < 48 ∧ y' = nI p ∧ ¬ jf p < 0) ∧ h' = h) := by
    intro k
    induction k with
    | zero =>
      intro i y hi hy
      have e0 : i = 48 := by omega
      subst e0
      refine ar_iload 7 d_97_5 rfl rfl ?_
      refine ar_bipush 9 (v := 48) d_97_7 rfl (by decide) ?_
      refine ar_icmp_ge 97 12 d_97_9 (by decide) rfl (fun _ => ?_) (fun c => absurd (Int32.le_refl _) c)
      refine ar_iload_n 98 d_97_97 rfl rfl ?_
      exact ar_iret d_97_98 rfl rfl (⟨_, rfl, rfl, hy, rfl⟩)
    | succ k ih =>
      intro i y hi hy
      have hic : i < 48 := by omega
      refine ar_iload 7 d_97_5 rfl rfl ?_
      refine ar_bipush 9 (v := 48) d_97_7 rfl (by decide) ?_
      refine ar_icmp_ge 97 12 d_97_9 (by decide) rfl (fun c => absurd c (nI_ge hic (by decide))) (fun _ => ?_)
      refine ar_iload 14 d_97_12 rfl rfl ?_
      refine ar_bipush 16 (v := 50) d_97_14 rfl (by decide) ?_
      refine ar_imul 17 d_97_16 rfl ?_
      refine ar_top (x' := nI (i * 50)) (pk_mul i 50) ?_
      refine ar_istore 19 [(0, .ref tb), (1, .ref bw), (2, .int x), (3, .int y), (4, .int (nI i)), (5, .int (nI (i * 50)))] d_97_17 rfl (by decide) rfl ?_
      refine ar_aload_n 20 d_97_19 rfl rfl ?_
      refine ar_getf 23 d_97_20 rfl (ci := 6) (k := 1) rfl gt rfl ?_
      refine ar_iload 25 d_97_23 rfl rfl ?_
      refine ar_iald 26 d_97_25 rfl g1 (vin hic (by decide)) ?_
      refine ar_top (x' := jf i) (by rw [nI_clamp (by omega)]) ?_
      refine ar_if_lt 91 29 d_97_26 (by decide) rfl (fun c1 => ?_) (fun c1 => ?_)
      · refine ar_iinc 94 [(0, .ref tb), (1, .ref bw), (2, .int x), (3, .int y), (4, .int (nI (i + 1))), (5, .int (nI (i * 50)))] d_97_91 rfl rfl (nI_1 i) (by decide) rfl ?_
        refine ar_goto 5 d_97_94 (by decide) ?_
        refine ar_wk [0, 1, 2, 3, 4] rfl (by simp) ?_
        rw [← show fsA jf nf mf wf x k (i + 1) y = fsA jf nf mf wf x (k + 1) i y from eq_ifT c1 rfl]
        exact ih (i + 1) y (by omega) (hy)
      · refine ar_aload_n 30 d_97_29 rfl rfl ?_
        refine ar_getf 33 d_97_30 rfl (ci := 6) (k := 4) rfl gt rfl ?_
        refine ar_iload 35 d_97_33 rfl rfl ?_
        refine ar_aload_n 36 d_97_35 rfl rfl ?_
        refine ar_getf 39 d_97_36 rfl (ci := 6) (k := 3) rfl gt rfl ?_
        refine ar_iload 41 d_97_39 rfl rfl ?_
        refine ar_iald 42 d_97_41 rfl g3 (vin hic (by decide)) ?_
        refine ar_top (x' := nf i) (by rw [nI_clamp (by omega)]) ?_
        refine ar_aload_n 43 d_97_42 rfl rfl ?_
        refine ar_iconst 44 (v := 0) d_97_43 rfl (by decide) ?_
        refine ar_iload_n 45 d_97_44 rfl rfl ?_
        refine ar_call (r := []) (na := 0) (kd := 0) (cm := 95) (fr2 := fr - 1) (lo2 := lo - 26) 48 d_97_45 (ar_hoS (as := [.ref a4, .int (nI (i * 50)), .int (nf i), .ref bw, .int 0, .int x]) rfl rfl rfl) rfl (by omega) (show lo - 26 + (19 + 7) = lo by omega) (Nat.le_of_ble_eq_true rfl) (Nat.le_of_ble_eq_true rfl) (c_95 (by omega) (by omega) (by decide) hN2 (by omega) (by omega) g4 gb (p := i * 50) (q := 0)) ?_
        intro v hh hq
        obtain ⟨rfl, ehh⟩ := hq
        rw [ehh]
        clear ehh
        refine ar_if_le 91 51 d_97_48 (by decide) rfl (fun c2 => ?_) (fun c2 => ?_)
        · refine ar_iinc 94 [(0, .ref tb), (1, .ref bw), (2, .int x), (3, .int y), (4, .int (nI (i + 1))), (5, .int (nI (i * 50)))] d_97_91 rfl rfl (nI_1 i) (by decide) rfl ?_
          refine ar_goto 5 d_97_94 (by decide) ?_
          refine ar_wk [0, 1, 2, 3, 4] rfl (by simp) ?_
          rw [← show fsA jf nf mf wf x k (i + 1) y = fsA jf nf mf wf x (k + 1) i y from eq_ifF c1 (eq_ifT c2 rfl)]
          exact ih (i + 1) y (by omega) (hy)
        · refine ar_iload_n 52 d_97_51 rfl rfl ?_
          refine ar_if_lt 88 55 d_97_52 (by decide) rfl (fun c3 => ?_) (fun c3 => ?_)
          · refine ar_iload 90 d_97_88 rfl rfl ?_
            refine ar_istore_n 91 [(0, .ref tb), (1, .ref bw), (2, .int x), (3, .int (nI i)), (4, .int (nI i)), (5, .int (nI (i * 50)))] d_97_90 rfl (by decide) rfl ?_
            refine ar_iinc 94 [(0, .ref tb), (1, .ref bw), (2, .int x), (3, .int (nI i)), (4, .int (nI (i + 1))), (5, .int (nI (i * 50)))] d_97_91 rfl rfl (nI_1 i) (by decide) rfl ?_
            refine ar_goto 5 d_97_94 (by decide) ?_
            refine ar_wk [0, 1, 2, 3, 4] rfl (by simp) ?_
            rw [← show fsA jf nf mf wf x k (i + 1) (nI i) = fsA jf nf mf wf x (k + 1) i y from eq_ifF c1 (eq_ifF c2 (eq_ifT c3 rfl))]
            exact ih (i + 1) (nI i) (by omega) (Or.inr ⟨i, hic, rfl, c1⟩)
          · obtain ⟨p, hp, rfl, hpj⟩ := hy.resolve_left (fun z => c3 (by rw [z]; decide))
            refine ar_aload_n 56 d_97_55 rfl rfl ?_
            refine ar_getf 59 d_97_56 rfl (ci := 6) (k := 4) rfl gt rfl ?_
            refine ar_iload 61 d_97_59 rfl rfl ?_
            refine ar_aload_n 62 d_97_61 rfl rfl ?_
            refine ar_getf 65 d_97_62 rfl (ci := 6) (k := 3) rfl gt rfl ?_
            refine ar_iload 67 d_97_65 rfl rfl ?_
            refine ar_iald 68 d_97_67 rfl g3 (vin hic (by decide)) ?_
            refine ar_top (x' := nf i) (by rw [nI_clamp (by omega)]) ?_
            refine ar_aload_n 69 d_97_68 rfl rfl ?_
            refine ar_getf 72 d_97_69 rfl (ci := 6) (k := 4) rfl gt rfl ?_
            refine ar_iload_n 73 d_97_72 rfl rfl ?_
            refine ar_bipush 75 (v := 50) d_97_73 rfl (by decide) ?_
            refine ar_imul 76 d_97_75 rfl ?_
            refine ar_top (x' := nI (p * 50)) (pk_mul p 50) ?_
            refine ar_aload_n 77 d_97_76 rfl rfl ?_
            refine ar_getf 80 d_97_77 rfl (ci := 6) (k := 3) rfl gt rfl ?_
            refine ar_iload_n 81 d_97_80 rfl rfl ?_
            refine ar_iald 82 d_97_81 rfl g3 (vin hp (by decide)) ?_
            refine ar_top (x' := nf p) (by rw [nI_clamp (by omega)]) ?_
            refine ar_call (r := []) (na := 0) (kd := 0) (cm := 95) (fr2 := fr - 1) (lo2 := lo - 26) 85 d_97_82 (ar_hoS (as := [.ref a4, .int (nI (i * 50)), .int (nf i), .ref a4, .int (nI (p * 50)), .int (nf p)]) rfl rfl rfl) rfl (by omega) (show lo - 26 + (19 + 7) = lo by omega) (Nat.le_of_ble_eq_true rfl) (Nat.le_of_ble_eq_true rfl) (c_95 (by omega) (by omega) (by decide) (by decide) (by omega) (by omega) g4 g4 (p := i * 50) (q := p * 50)) ?_
            intro v hh hq
            obtain ⟨rfl, ehh⟩ := hq
            rw [ehh]
            clear ehh
            refine ar_if_ge 91 88 d_97_85 (by decide) rfl (fun c4 => ?_) (fun c4 => ?_)
            · refine ar_iinc 94 [(0, .ref tb), (1, .ref bw), (2, .int x), (3, .int (nI p)), (4, .int (nI (i + 1))), (5, .int (nI (i * 50)))] d_97_91 rfl rfl (nI_1 i) (by decide) rfl ?_
              refine ar_goto 5 d_97_94 (by decide) ?_
              refine ar_wk [0, 1, 2, 3, 4] rfl (by simp) ?_
              rw [← show fsA jf nf mf wf x k (i + 1) (nI p) = fsA jf nf mf wf x (k + 1) i (nI p) from eq_ifF c1 (eq_ifF c2 (eq_ifF c3 (eq_ifT (by rw [nI_clamp (by omega)]; exact c4) rfl)))]
              exact ih (i + 1) (nI p) (by omega) (Or.inr ⟨p, hp, rfl, hpj⟩)
            · refine ar_iload 90 d_97_88 rfl rfl ?_
              refine ar_istore_n 91 [(0, .ref tb), (1, .ref bw), (2, .int x), (3, .int (nI i)), (4, .int (nI i)), (5, .int (nI (i * 50)))] d_97_90 rfl (by decide) rfl ?_
              refine ar_iinc 94 [(0, .ref tb), (1, .ref bw), (2, .int x), (3, .int (nI i)), (4, .int (nI (i + 1))), (5, .int (nI (i * 50)))] d_97_91 rfl rfl (nI_1 i) (by decide) rfl ?_
              refine ar_goto 5 d_97_94 (by decide) ?_
              refine ar_wk [0, 1, 2, 3, 4] rfl (by simp) ?_
              rw [← show fsA jf nf mf wf x k (i + 1) (nI i) = fsA jf nf mf wf x (k + 1) i (nI p) from eq_ifF c1 (eq_ifF c2 (eq_ifF c3 (eq_ifF (by rw [nI_clamp (by omega)]; exact c4) rfl)))]
              exact ih (i + 1) (nI i) (by omega) (Or.inr ⟨i, hic, rfl, c1⟩)
  show ax_A (ax_step L xs) ((97, 0, fr, lo), [(0, .ref tb), (1, .ref bw), (2, .int x)], [], h) _
  refine ar_iconst 1 (v := -1) d_97_0 rfl (by decide) ?_
  refine ar_istore_n 2 [(0, .ref tb), (1, .ref bw), (2, .int x), (3, .int (-1))] d_97_1 rfl (by decide) rfl ?_
  refine ar_iconst 3 (v := 0) d_97_2 rfl (by decide) ?_
  refine ar_istore 5 [(0, .ref tb), (1, .ref bw), (2, .int x), (3, .int (-1)), (4, .int 0)] d_97_3 rfl (by decide) rfl ?_
  exact key 48 0 (-1) (by omega) (Or.inl rfl)
/-- bytes moved one by one -/
def mvB (F : Nat → Int32) (i j : Nat) : Nat → Nat → (Nat → Int32) → (Nat → Int32)
  | 0, _, t => t
  | m + 1, k, t => mvB F i j m (k + 1) (upd t ((j + k) / 4) (((t ((j + k) / 4)) &&& ((255 <<< ((24 - (8 * ((nI (j + k)) &&& 3))) &&& 31)) ^^^ (-1))) ||| ((bytA F (i + k)) <<< ((24 - (8 * ((nI (j + k)) &&& 3))) &&& 31))))
def mvF (F : Nat → Int32) (i j n : Nat) (t : Nat → Int32) : Nat → Int32 := if i % 4 = 0 ∧ j % 4 = 0 then mvB F i j (n - n / 4 * 4) (n / 4 * 4) (va_cpy F t (i / 4) (j / 4) (n / 4)) else mvB F i j n 0 t
theorem shr2' {k : Nat} (h : k < 2 ^ 31) : (nI k) >>> ((2 : Int32) &&& 31) = nI (k / 4) := pk_shrN h _ 2 (by decide)
theorem and3 {k : Nat} (h : k < 2 ^ 31) : (nI k) &&& 3 = nI (k % 4) := pk_andN (by omega) 2 (by decide)
theorem shl2 {k : Nat} (h : k < 2 ^ 20) : (nI k) <<< ((2 : Int32) &&& 31) = nI (k * 4) := pk_shlN _ 2 (by decide) (by omega)
theorem lp_43 {L : Nat} {xs : Nat → Int32} {fr lo n sl : Nat} {a c N1 N2 i j n0 : Nat} {F : Nat → Int32} {h0 : ax_H} (hN1 : N1 < 2 ^ 18) (hN2 : N2 < 2 ^ 18) (hi : i + n0 ≤ 4 * N1) (hj : j + n0 ≤ 4 * N2) : ∀ (m k : Nat) (t : Nat → Int32) (h : ax_H), k + m = n0 → ax_hs h [(a, .inl (0, N1, .inl F)), (c, .inl (0, N2, .inl t))] → h.1 = n → h.2.1 = sl → ax_fr (fun x => x ∈ [c]) h0 h → ax_A (ax_step L xs) ((43, 38, fr, lo), [(0, .ref a), (1, .int (nI i)), (2, .ref c), (3, .int (nI j)), (4, .int (nI n0)), (5, .int (nI k))], [], h) (fun r h' => r = none ∧ ax_hs h' [(a, .inl (0, N1, .inl F)), (c, .inl (0, N2, .inl (mvB F i j m k t)))] ∧ h'.1 = n ∧ h'.2.1 = sl ∧ ax_fr (fun x => x ∈ [c]) h0 h') := by
  intro m
  induction m with
  | zero =>
    intro k t h hk hF hn hs hf
    have e : k = n0 := by omega
    subst e
    refine ar_iload 40 d_43_38 rfl rfl ?_
    refine ar_iload 42 d_43_40 rfl rfl ?_
    refine ar_icmp_ge 123 45 d_43_42 (by decide) rfl (fun _ => ?_) (fun c => absurd (Int32.le_refl _) c)
    exact ar_ret d_43_123 rfl (⟨rfl, hF, hn, hs, hf⟩)
  | succ m ih =>
    intro k t h hk hF hn hs hf
    have hic : k < n0 := by omega
    refine ar_iload 40 d_43_38 rfl rfl ?_
    refine ar_iload 42 d_43_40 rfl rfl ?_
    refine ar_icmp_ge 123 45 d_43_42 (by decide) rfl (fun c => absurd c (nI_ge hic (by omega))) (fun _ => ?_)
    refine ar_aload_n 46 d_43_45 rfl rfl ?_
    refine ar_iload_n 47 d_43_46 rfl rfl ?_
    refine ar_iload 49 d_43_47 rfl rfl ?_
    refine ar_iadd 50 d_43_49 rfl ?_
    refine ar_top (x' := nI (i + k)) (nI_add i k) ?_
    refine ar_iconst 51 (v := 2) d_43_50 rfl (by decide) ?_
    refine ar_ishr 52 d_43_51 rfl ?_
    refine ar_top (x' := nI ((i + k) / 4)) (shr2' (by omega)) ?_
    refine ar_iald 53 d_43_52 rfl (hF.at 0 rfl) (vin (by omega) (by omega)) ?_
    refine ar_bipush 55 (v := 24) d_43_53 rfl (by decide) ?_
    refine ar_bipush 57 (v := 8) d_43_55 rfl (by decide) ?_
    refine ar_iload_n 58 d_43_57 rfl rfl ?_
    refine ar_iload 60 d_43_58 rfl rfl ?_
    refine ar_iadd 61 d_43_60 rfl ?_
    refine ar_top (x' := nI (i + k)) (nI_add i k) ?_
    refine ar_iconst 62 (v := 3) d_43_61 rfl (by decide) ?_
    refine ar_iand 63 d_43_62 rfl ?_
    refine ar_imul 64 d_43_63 rfl ?_
    refine ar_isub 65 d_43_64 rfl ?_
    refine ar_iushr 66 d_43_65 rfl ?_
    refine ar_sipush 69 (v := 255) d_43_66 rfl (by decide) ?_
    refine ar_iand 70 d_43_69 rfl ?_
    refine ar_istore 72 [(0, .ref a), (1, .int (nI i)), (2, .ref c), (3, .int (nI j)), (4, .int (nI n0)), (5, .int (nI k)), (6, .int ((((F (nI ((i + k) / 4)).toNatClampNeg).toUInt32 >>> ((24 - (8 * ((nI (i + k)) &&& 3))).toUInt32 &&& Int32.toUInt32 31)).toInt32) &&& 255))] d_43_70 rfl (by decide) rfl ?_
    refine ar_bipush 74 (v := 24) d_43_72 rfl (by decide) ?_
    refine ar_bipush 76 (v := 8) d_43_74 rfl (by decide) ?_
    refine ar_iload_n 77 d_43_76 rfl rfl ?_
    refine ar_iload 79 d_43_77 rfl rfl ?_
    refine ar_iadd 80 d_43_79 rfl ?_
    refine ar_top (x' := nI (j + k)) (nI_add j k) ?_
    refine ar_iconst 81 (v := 3) d_43_80 rfl (by decide) ?_
    refine ar_iand 82 d_43_81 rfl ?_
    refine ar_imul 83 d_43_82 rfl ?_
    refine ar_isub 84 d_43_83 rfl ?_
    refine ar_istore 86 [(0, .ref a), (1, .int (nI i)), (2, .ref c), (3, .int (nI j)), (4, .int (nI n0)), (5, .int (nI k)), (6, .int ((((F (nI ((i + k) / 4)).toNatClampNeg).toUInt32 >>> ((24 - (8 * ((nI (i + k)) &&& 3))).toUInt32 &&& Int32.toUInt32 31)).toInt32) &&& 255)), (7, .int (24 - (8 * ((nI (j + k)) &&& 3))))] d_43_84 rfl (by decide) rfl ?_
    refine ar_aload_n 87 d_43_86 rfl rfl ?_
    refine ar_iload_n 88 d_43_87 rfl rfl ?_
    refine ar_iload 90 d_43_88 rfl rfl ?_
    refine ar_iadd 91 d_43_90 rfl ?_
    refine ar_top (x' := nI (j + k)) (nI_add j k) ?_
    refine ar_iconst 92 (v := 2) d_43_91 rfl (by decide) ?_
    refine ar_ishr 93 d_43_92 rfl ?_
    refine ar_top (x' := nI ((j + k) / 4)) (shr2' (by omega)) ?_
    refine ar_aload_n 94 d_43_93 rfl rfl ?_
    refine ar_iload_n 95 d_43_94 rfl rfl ?_
    refine ar_iload 97 d_43_95 rfl rfl ?_
    refine ar_iadd 98 d_43_97 rfl ?_
    refine ar_top (x' := nI (j + k)) (nI_add j k) ?_
    refine ar_iconst 99 (v := 2) d_43_98 rfl (by decide) ?_
    refine ar_ishr 100 d_43_99 rfl ?_
    refine ar_top (x' := nI ((j + k) / 4)) (shr2' (by omega)) ?_
    refine ar_iald 101 d_43_100 rfl (hF.at 1 rfl) (vin (by omega) (by omega)) ?_
    refine ar_sipush 104 (v := 255) d_43_101 rfl (by decide) ?_
    refine ar_iload 106 d_43_104 rfl rfl ?_
    refine ar_ishl 107 d_43_106 rfl ?_
    refine ar_iconst 108 (v := -1) d_43_107 rfl (by decide) ?_
    refine ar_ixor 109 d_43_108 rfl ?_
    refine ar_iand 110 d_43_109 rfl ?_
    refine ar_iload 112 d_43_110 rfl rfl ?_
    refine ar_iload 114 d_43_112 rfl rfl ?_
    refine ar_ishl 115 d_43_114 rfl ?_
    refine ar_ior 116 d_43_115 rfl ?_
    refine ar_iast 117 d_43_116 rfl (hF.at 1 rfl) (vin (by omega) (by omega)) ?_
    replace hF : ax_hs (ax_put h c (.inl (0, N2, .inl (upd t (nI ((j + k) / 4)).toNatClampNeg (((t (nI ((j + k) / 4)).toNatClampNeg) &&& ((255 <<< ((24 - (8 * ((nI (j + k)) &&& 3))) &&& 31)) ^^^ (-1))) ||| (((((F (nI ((i + k) / 4)).toNatClampNeg).toUInt32 >>> ((24 - (8 * ((nI (i + k)) &&& 3))).toUInt32 &&& Int32.toUInt32 31)).toInt32) &&& 255) <<< ((24 - (8 * ((nI (j + k)) &&& 3))) &&& 31))))))) [(a, .inl (0, N1, .inl F)), (c, .inl (0, N2, .inl (upd t (nI ((j + k) / 4)).toNatClampNeg (((t (nI ((j + k) / 4)).toNatClampNeg) &&& ((255 <<< ((24 - (8 * ((nI (j + k)) &&& 3))) &&& 31)) ^^^ (-1))) ||| (((((F (nI ((i + k) / 4)).toNatClampNeg).toUInt32 >>> ((24 - (8 * ((nI (i + k)) &&& 3))).toUInt32 &&& Int32.toUInt32 31)).toInt32) &&& 255) <<< ((24 - (8 * ((nI (j + k)) &&& 3))) &&& 31))))))] := hF.put 1 _ rfl rfl
    replace hf := hf.put (a := c) (c := .inl (0, N2, .inl (upd t (nI ((j + k) / 4)).toNatClampNeg (((t (nI ((j + k) / 4)).toNatClampNeg) &&& ((255 <<< ((24 - (8 * ((nI (j + k)) &&& 3))) &&& 31)) ^^^ (-1))) ||| (((((F (nI ((i + k) / 4)).toNatClampNeg).toUInt32 >>> ((24 - (8 * ((nI (i + k)) &&& 3))).toUInt32 &&& Int32.toUInt32 31)).toInt32) &&& 255) <<< ((24 - (8 * ((nI (j + k)) &&& 3))) &&& 31)))))) (by simp)
    replace hn : (ax_put h c (.inl (0, N2, .inl (upd t (nI ((j + k) / 4)).toNatClampNeg (((t (nI ((j + k) / 4)).toNatClampNeg) &&& ((255 <<< ((24 - (8 * ((nI (j + k)) &&& 3))) &&& 31)) ^^^ (-1))) ||| (((((F (nI ((i + k) / 4)).toNatClampNeg).toUInt32 >>> ((24 - (8 * ((nI (i + k)) &&& 3))).toUInt32 &&& Int32.toUInt32 31)).toInt32) &&& 255) <<< ((24 - (8 * ((nI (j + k)) &&& 3))) &&& 31))))))).1 = n := hn
    replace hs : (ax_put h c (.inl (0, N2, .inl (upd t (nI ((j + k) / 4)).toNatClampNeg (((t (nI ((j + k) / 4)).toNatClampNeg) &&& ((255 <<< ((24 - (8 * ((nI (j + k)) &&& 3))) &&& 31)) ^^^ (-1))) ||| (((((F (nI ((i + k) / 4)).toNatClampNeg).toUInt32 >>> ((24 - (8 * ((nI (i + k)) &&& 3))).toUInt32 &&& Int32.toUInt32 31)).toInt32) &&& 255) <<< ((24 - (8 * ((nI (j + k)) &&& 3))) &&& 31))))))).2.1 = sl := hs
    generalize ax_put h c (.inl (0, N2, .inl (upd t (nI ((j + k) / 4)).toNatClampNeg (((t (nI ((j + k) / 4)).toNatClampNeg) &&& ((255 <<< ((24 - (8 * ((nI (j + k)) &&& 3))) &&& 31)) ^^^ (-1))) ||| (((((F (nI ((i + k) / 4)).toNatClampNeg).toUInt32 >>> ((24 - (8 * ((nI (i + k)) &&& 3))).toUInt32 &&& Int32.toUInt32 31)).toInt32) &&& 255) <<< ((24 - (8 * ((nI (j + k)) &&& 3))) &&& 31)))))) = h1 at hF hf hn hs ⊢
    refine ar_iinc 120 [(0, .ref a), (1, .int (nI i)), (2, .ref c), (3, .int (nI j)), (4, .int (nI n0)), (5, .int (nI (k + 1))), (6, .int ((((F (nI ((i + k) / 4)).toNatClampNeg).toUInt32 >>> ((24 - (8 * ((nI (i + k)) &&& 3))).toUInt32 &&& Int32.toUInt32 31)).toInt32) &&& 255)), (7, .int (24 - (8 * ((nI (j + k)) &&& 3))))] d_43_117 rfl rfl (nI_1 k) (by decide) rfl ?_
    refine ar_goto 38 d_43_120 (by decide) ?_
    refine ar_wk [0, 1, 2, 3, 4, 5] rfl (by simp) ?_
    replace hF : ax_hs h1 [(a, .inl (0, N1, .inl F)), (c, .inl (0, N2, .inl (upd t ((j + k) / 4) (((t ((j + k) / 4)) &&& ((255 <<< ((24 - (8 * ((nI (j + k)) &&& 3))) &&& 31)) ^^^ (-1))) ||| ((bytA F (i + k)) <<< ((24 - (8 * ((nI (j + k)) &&& 3))) &&& 31))))))] := by
      have hF' := hF
      rw [nI_clamp (show (j + k) / 4 < 2 ^ 31 by omega), nI_clamp (show (i + k) / 4 < 2 ^ 31 by omega)] at hF'
      exact hF'
    exact ih (k + 1) _ h1 (by omega) hF hn hs hf
theorem c_43 {L : Nat} {xs : Nat → Int32} {fr lo : Nat} {h : ax_H} {n sl : Nat} {a c N1 N2 i j n0 : Nat} {F : Nat → Int32} {t : Nat → Int32} (hfr : 1 ≤ fr) (hlo : 40 ≤ lo) (hN1 : N1 < 2 ^ 18) (hN2 : N2 < 2 ^ 18) (hi : i + n0 ≤ 4 * N1) (hj : j + n0 ≤ 4 * N2) (hF : ax_hs h [(a, .inl (0, N1, .inl F)), (c, .inl (0, N2, .inl t))]) (hn : h.1 = n) (hs : h.2.1 = sl) (hn0 : 0 < n) : ax_M L xs 43 fr lo [.ref a, .int (nI i), .ref c, .int (nI j), .int (nI n0)] h (fun r h' => r = none ∧ ax_hs h' [(a, .inl (0, N1, .inl F)), (c, .inl (0, N2, .inl (mvF F i j n0 t)))] ∧ h'.1 = n ∧ h'.2.1 = sl ∧ ax_fr (fun x => x ∈ [c]) h h') := by
  show ax_A (ax_step L xs) ((43, 0, fr, lo), [(0, .ref a), (1, .int (nI i)), (2, .ref c), (3, .int (nI j)), (4, .int (nI n0))], [], h) _
  have hbase : h.1 = n := hn
  have hbasl : h.2.1 = sl := hs
  have hf : ax_fr (fun x => x ∈ [c]) h h := ax_fr.rf
  refine ar_iconst 1 (v := 0) d_43_0 rfl (by decide) ?_
  refine ar_istore 3 [(0, .ref a), (1, .int (nI i)), (2, .ref c), (3, .int (nI j)), (4, .int (nI n0)), (5, .int 0)] d_43_1 rfl (by decide) rfl ?_
  refine ar_iload_n 4 d_43_3 rfl rfl ?_
  refine ar_iconst 5 (v := 3) d_43_4 rfl (by decide) ?_
  refine ar_iand 6 d_43_5 rfl ?_
  refine ar_top (x' := nI (i % 4)) (and3 (by omega)) ?_
  refine ar_if_ne 38 9 d_43_6 (by decide) rfl (fun c1 => ?_) (fun c1 => ?_)
  · rw [show mvF F i j n0 t = mvB F i j n0 0 t from if_neg (fun z => c1 (by rw [z.1]; rfl))]
    exact lp_43 hN1 hN2 hi hj n0 0 t h (by omega) hF hn hs hf
  · refine ar_iload_n 10 d_43_9 rfl rfl ?_
    refine ar_iconst 11 (v := 3) d_43_10 rfl (by decide) ?_
    refine ar_iand 12 d_43_11 rfl ?_
    refine ar_top (x' := nI (j % 4)) (and3 (by omega)) ?_
    refine ar_if_ne 38 15 d_43_12 (by decide) rfl (fun c2 => ?_) (fun c2 => ?_)
    · rw [show mvF F i j n0 t = mvB F i j n0 0 t from if_neg (fun z => c2 (by rw [z.2]; rfl))]
      exact lp_43 hN1 hN2 hi hj n0 0 t h (by omega) hF hn hs hf
    · have e1 : i % 4 = 0 := by
        have := Decidable.not_not.mp c1
        exact nI_inj (by omega) (by decide) this
      have e2 : j % 4 = 0 := by
        have := Decidable.not_not.mp c2
        exact nI_inj (by omega) (by decide) this
      refine ar_aload_n 16 d_43_15 rfl rfl ?_
      refine ar_iload_n 17 d_43_16 rfl rfl ?_
      refine ar_iconst 18 (v := 2) d_43_17 rfl (by decide) ?_
      refine ar_ishr 19 d_43_18 rfl ?_
      refine ar_top (x' := nI (i / 4)) (shr2' (by omega)) ?_
      refine ar_aload_n 20 d_43_19 rfl rfl ?_
      refine ar_iload_n 21 d_43_20 rfl rfl ?_
      refine ar_iconst 22 (v := 2) d_43_21 rfl (by decide) ?_
      refine ar_ishr 23 d_43_22 rfl ?_
      refine ar_top (x' := nI (j / 4)) (shr2' (by omega)) ?_
      refine ar_iload 25 d_43_23 rfl rfl ?_
      refine ar_iconst 26 (v := 2) d_43_25 rfl (by decide) ?_
      refine ar_ishr 27 d_43_26 rfl ?_
      refine ar_top (x' := nI (n0 / 4)) (shr2' (by omega)) ?_
      refine ar_copy 30 d_43_27 rfl rfl (by omega) (by show 0 + (nativeFrameWords "java/lang/System" "arraycopy" 5 + 11) ≤ lo; rw [nfw_copy]; omega) (hF.at 0 rfl) (hF.at 1 rfl) (Int32.not_lt.mpr (nI_le (Nat.zero_le _) (by omega))) (Int32.not_lt.mpr (nI_le (Nat.zero_le _) (by omega))) (Int32.not_lt.mpr (nI_le (Nat.zero_le _) (by omega))) (by rw [nI_clamp (by omega), nI_clamp (by omega)]; show i / 4 + n0 / 4 ≤ N1; omega) (by rw [nI_clamp (by omega), nI_clamp (by omega)]; show j / 4 + n0 / 4 ≤ N2; omega) ?_
      replace hF : ax_hs (ax_put h c (.inl (0, N2, .inl (va_cpy F t ((nI (i / 4)).toNatClampNeg) ((nI (j / 4)).toNatClampNeg) ((nI (n0 / 4)).toNatClampNeg))))) [(a, .inl (0, N1, .inl F)), (c, .inl (0, N2, .inl (va_cpy F t ((nI (i / 4)).toNatClampNeg) ((nI (j / 4)).toNatClampNeg) ((nI (n0 / 4)).toNatClampNeg))))] := hF.put 1 _ rfl rfl
      replace hf := hf.put (a := c) (c := .inl (0, N2, .inl (va_cpy F t ((nI (i / 4)).toNatClampNeg) ((nI (j / 4)).toNatClampNeg) ((nI (n0 / 4)).toNatClampNeg)))) (by simp)
      replace hn : (ax_put h c (.inl (0, N2, .inl (va_cpy F t ((nI (i / 4)).toNatClampNeg) ((nI (j / 4)).toNatClampNeg) ((nI (n0 / 4)).toNatClampNeg))))).1 = n := hn
      replace hs : (ax_put h c (.inl (0, N2, .inl (va_cpy F t ((nI (i / 4)).toNatClampNeg) ((nI (j / 4)).toNatClampNeg) ((nI (n0 / 4)).toNatClampNeg))))).2.1 = sl := hs
      generalize ax_put h c (.inl (0, N2, .inl (va_cpy F t ((nI (i / 4)).toNatClampNeg) ((nI (j / 4)).toNatClampNeg) ((nI (n0 / 4)).toNatClampNeg)))) = h1 at hF hf hn hs ⊢
      refine ar_iload 32 d_43_30 rfl rfl ?_
      refine ar_iconst 33 (v := 2) d_43_32 rfl (by decide) ?_
      refine ar_ishr 34 d_43_33 rfl ?_
      refine ar_top (x' := nI (n0 / 4)) (shr2' (by omega)) ?_
      refine ar_iconst 35 (v := 2) d_43_34 rfl (by decide) ?_
      refine ar_ishl 36 d_43_35 rfl ?_
      refine ar_top (x' := nI (n0 / 4 * 4)) (shl2 (by omega)) ?_
      refine ar_istore 38 [(0, .ref a), (1, .int (nI i)), (2, .ref c), (3, .int (nI j)), (4, .int (nI n0)), (5, .int (nI (n0 / 4 * 4)))] d_43_36 rfl (by decide) rfl ?_
      replace hF : ax_hs h1 [(a, .inl (0, N1, .inl F)), (c, .inl (0, N2, .inl (va_cpy F t (i / 4) (j / 4) (n0 / 4))))] := by
        have hF' := hF
        rw [nI_clamp (show i / 4 < 2 ^ 31 by omega), nI_clamp (show j / 4 < 2 ^ 31 by omega), nI_clamp (show n0 / 4 < 2 ^ 31 by omega)] at hF'
        exact hF'
      rw [show mvF F i j n0 t = _ from if_pos ⟨e1, e2⟩]
      exact lp_43 hN1 hN2 hi hj (n0 - n0 / 4 * 4) (n0 / 4 * 4) _ h1 (by omega) hF hn hs hf
def clB : Nat → Nat → (Nat → Int32) → (Nat → Int32)
  | 0, _, t => t
  | m + 1, k, t => clB m (k + 1) (upd t (k / 4) ((t (k / 4)) &&& ((255 <<< ((24 - (8 * ((nI k) &&& 3))) &&& 31)) ^^^ (-1))))
theorem lp_110 {L : Nat} {xs : Nat → Int32} {fr lo n sl : Nat} {c N2 i n0 : Nat} {h0 : ax_H} (hN2 : N2 < 2 ^ 18) (hi : i + n0 ≤ 4 * N2) : ∀ (m k : Nat) (t : Nat → Int32) (h : ax_H), k + m = i + n0 → ax_hs h [(c, .inl (0, N2, .inl t))] → h.1 = n → h.2.1 = sl → ax_fr (fun x => x ∈ [c]) h0 h → ax_A (ax_step L xs) ((110, 2, fr, lo), [(0, .ref c), (1, .int (nI i)), (2, .int (nI n0)), (3, .int (nI k))], [], h) (fun r h' => r = none ∧ ax_hs h' [(c, .inl (0, N2, .inl (clB m k t)))] ∧ h'.1 = n ∧ h'.2.1 = sl ∧ ax_fr (fun x => x ∈ [c]) h0 h') := by
  intro m
  induction m with
  | zero =>
    intro k t h hk hF hn hs hf
    have e : k = i + n0 := by omega
    subst e
    refine ar_iload_n 3 d_110_2 rfl rfl ?_
    refine ar_iload_n 4 d_110_3 rfl rfl ?_
    refine ar_iload_n 5 d_110_4 rfl rfl ?_
    refine ar_iadd 6 d_110_5 rfl ?_
    refine ar_top (x' := nI (i + n0)) (nI_add i n0) ?_
    refine ar_icmp_ge 38 9 d_110_6 (by decide) rfl (fun _ => ?_) (fun c => absurd (Int32.le_refl _) c)
    exact ar_ret d_110_38 rfl (⟨rfl, hF, hn, hs, hf⟩)
  | succ m ih =>
    intro k t h hk hF hn hs hf
    have hic : k < i + n0 := by omega
    refine ar_iload_n 3 d_110_2 rfl rfl ?_
    refine ar_iload_n 4 d_110_3 rfl rfl ?_
    refine ar_iload_n 5 d_110_4 rfl rfl ?_
    refine ar_iadd 6 d_110_5 rfl ?_
    refine ar_top (x' := nI (i + n0)) (nI_add i n0) ?_
    refine ar_icmp_ge 38 9 d_110_6 (by decide) rfl (fun c => absurd c (nI_ge hic (by omega))) (fun _ => ?_)
    refine ar_aload_n 10 d_110_9 rfl rfl ?_
    refine ar_iload_n 11 d_110_10 rfl rfl ?_
    refine ar_iconst 12 (v := 2) d_110_11 rfl (by decide) ?_
    refine ar_ishr 13 d_110_12 rfl ?_
    refine ar_top (x' := nI (k / 4)) (shr2' (by omega)) ?_
    refine ar_dup2 14 d_110_13 rfl rfl rfl ?_
    refine ar_iald 15 d_110_14 rfl (hF.at 0 rfl) (vin (by omega) (by omega)) ?_
    refine ar_sipush 18 (v := 255) d_110_15 rfl (by decide) ?_
    refine ar_bipush 20 (v := 24) d_110_18 rfl (by decide) ?_
    refine ar_bipush 22 (v := 8) d_110_20 rfl (by decide) ?_
    refine ar_iload_n 23 d_110_22 rfl rfl ?_
    refine ar_iconst 24 (v := 3) d_110_23 rfl (by decide) ?_
    refine ar_iand 25 d_110_24 rfl ?_
    refine ar_imul 26 d_110_25 rfl ?_
    refine ar_isub 27 d_110_26 rfl ?_
    refine ar_ishl 28 d_110_27 rfl ?_
    refine ar_iconst 29 (v := -1) d_110_28 rfl (by decide) ?_
    refine ar_ixor 30 d_110_29 rfl ?_
    refine ar_iand 31 d_110_30 rfl ?_
    refine ar_iast 32 d_110_31 rfl (hF.at 0 rfl) (vin (by omega) (by omega)) ?_
    replace hF : ax_hs (ax_put h c (.inl (0, N2, .inl (upd t (nI (k / 4)).toNatClampNeg ((t (nI (k / 4)).toNatClampNeg) &&& ((255 <<< ((24 - (8 * ((nI k) &&& 3))) &&& 31)) ^^^ (-1))))))) [(c, .inl (0, N2, .inl (upd t (nI (k / 4)).toNatClampNeg ((t (nI (k / 4)).toNatClampNeg) &&& ((255 <<< ((24 - (8 * ((nI k) &&& 3))) &&& 31)) ^^^ (-1))))))] := hF.put 0 _ rfl rfl
    replace hf := hf.put (a := c) (c := .inl (0, N2, .inl (upd t (nI (k / 4)).toNatClampNeg ((t (nI (k / 4)).toNatClampNeg) &&& ((255 <<< ((24 - (8 * ((nI k) &&& 3))) &&& 31)) ^^^ (-1)))))) (by simp)
    replace hn : (ax_put h c (.inl (0, N2, .inl (upd t (nI (k / 4)).toNatClampNeg ((t (nI (k / 4)).toNatClampNeg) &&& ((255 <<< ((24 - (8 * ((nI k) &&& 3))) &&& 31)) ^^^ (-1))))))).1 = n := hn
    replace hs : (ax_put h c (.inl (0, N2, .inl (upd t (nI (k / 4)).toNatClampNeg ((t (nI (k / 4)).toNatClampNeg) &&& ((255 <<< ((24 - (8 * ((nI k) &&& 3))) &&& 31)) ^^^ (-1))))))).2.1 = sl := hs
    generalize ax_put h c (.inl (0, N2, .inl (upd t (nI (k / 4)).toNatClampNeg ((t (nI (k / 4)).toNatClampNeg) &&& ((255 <<< ((24 - (8 * ((nI k) &&& 3))) &&& 31)) ^^^ (-1)))))) = h1 at hF hf hn hs ⊢
    refine ar_iinc 35 [(0, .ref c), (1, .int (nI i)), (2, .int (nI n0)), (3, .int (nI (k + 1)))] d_110_32 rfl rfl (nI_1 k) (by decide) rfl ?_
    refine ar_goto 2 d_110_35 (by decide) ?_
    replace hF : ax_hs h1 [(c, .inl (0, N2, .inl (upd t (k / 4) ((t (k / 4)) &&& ((255 <<< ((24 - (8 * ((nI k) &&& 3))) &&& 31)) ^^^ (-1))))))] := by
      have hF' := hF
      rw [nI_clamp (show k / 4 < 2 ^ 31 by omega)] at hF'
      exact hF'
    exact ih (k + 1) _ h1 (by omega) hF hn hs hf
theorem c_110 {L : Nat} {xs : Nat → Int32} {fr lo : Nat} {h : ax_H} {n sl : Nat} {c N2 i n0 : Nat} {t : Nat → Int32} (hN2 : N2 < 2 ^ 18) (hi : i + n0 ≤ 4 * N2) (hF : ax_hs h [(c, .inl (0, N2, .inl t))]) (hn : h.1 = n) (hs : h.2.1 = sl) (hn0 : 0 < n) : ax_M L xs 110 fr lo [.ref c, .int (nI i), .int (nI n0)] h (fun r h' => r = none ∧ ax_hs h' [(c, .inl (0, N2, .inl (clB n0 i t)))] ∧ h'.1 = n ∧ h'.2.1 = sl ∧ ax_fr (fun x => x ∈ [c]) h h') := by
  show ax_A (ax_step L xs) ((110, 0, fr, lo), [(0, .ref c), (1, .int (nI i)), (2, .int (nI n0))], [], h) _
  have hbase : h.1 = n := hn
  have hbasl : h.2.1 = sl := hs
  have hf : ax_fr (fun x => x ∈ [c]) h h := ax_fr.rf
  refine ar_iload_n 1 d_110_0 rfl rfl ?_
  refine ar_istore_n 2 [(0, .ref c), (1, .int (nI i)), (2, .int (nI n0)), (3, .int (nI i))] d_110_1 rfl (by decide) rfl ?_
  exact lp_110 hN2 hi n0 i t h (by omega) hF hn hs hf

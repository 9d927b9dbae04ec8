/-! settle of the fresh store -/
theorem SQ.net {h h' : ax_H} {s0 n nn gg cc p q q' km kc : Nat} {f u b u' b' : Nat → Int32} {e : Nat → Nat} {ids ids' : List Nat} {ms ms' : List Mg} (hQ : SQ h s0 n nn gg cc p f e km kc ids ms q u b) (hf : ax_fr (NTA n (n + 1)) h h') (hN : NTL h' n (n + 1) ids' ms' q' u' b') : SQ h' s0 n nn gg cc p f e km kc ids' ms' q' u' b' := by
  obtain ⟨hb, hp, ⟨c, hW⟩, -, hD⟩ := hQ
  refine ⟨hb, hp, ⟨c, hW.fr hf (fun z hz hA => ?_)⟩, hN, fun k hk => ?_⟩
  · have := W0.lt hb.2.2.2.2.2 z hz
    unfold NTA at hA
    omega
  · obtain ⟨h0, ep, st, hd, cl, ni, tu, md, fm, h1, h2⟩ := hD k hk
    exact ⟨h0, ep, st, hd, cl, ni, tu, md, fm, h1.fr hf (fun z hz hA => by have := QN.lt z hz; unfold NTA at hA; omega), h2⟩
theorem len_mea {nn ep : Nat} : ∀ (us : List (Nat → Int32)), us.length ≤ mea nn ep us
  | [] => Nat.zero_le _
  | x :: us => by
    have h1 := len_mea (nn := nn) (ep := ep) us
    have h2 : 0 < wt x := by
      unfold wt
      split <;> omega
    rw [mea_cons, List.length_cons]
    omega
theorem slp {L : Nat} {xs : Nat → Int32} {fr lo s0 n nn gg cc p : Nat} {f : Nat → Int32} {op tt : Int32} {post : ax_Po} (hfr : 7 ≤ fr) (hlo : 270 ≤ lo) : ∀ (B i : Nat) (h : ax_H) (e : Nat → Nat) (km kc q : Nat) (u b : Nat → Int32) (ids : List Nat) (ms : List Mg), i + B ≤ 100 → mea nn (e p) (ms.map (·.1)) ≤ B → SQ h s0 n nn gg cc p f e km kc ids ms q u b → Iv p nn (e p) km kc (ms.map (·.1)) → (∀ (h' : ax_H) (e' : Nat → Nat) (km' kc' q' : Nat) (u' b' : Nat → Int32) (y : Int32), SQ h' s0 n nn gg cc p f e' km' kc' [] [] q' u' b' → Iv p nn (e' p) km' kc' [] → SZ (n + 329 + 22 * nn) h h' → ax_fr (TBN n) h h' → ax_A (ax_step L xs) ((150, 144, fr, lo), [(0, .ref s0), (1, .int op), (2, .int tt), (3, .int y)], [], h') post) → ax_A (ax_step L xs) ((150, 110, fr, lo), [(0, .ref s0), (1, .int op), (2, .int tt), (3, .int (nI i))], [], h) post := by
  intro B
  induction B with
  | zero =>
    intro i h e km kc q u b ids ms hi hm hQ hI kk
    obtain ⟨hb, hp, ⟨c, hW⟩, hN, hD⟩ := id hQ
    obtain ⟨za, zc, hnet⟩ := hN.net
    have hl0 : ms.length = 0 := by
      have := len_mea (nn := nn) (ep := e p) (ms.map (·.1))
      rw [List.length_map] at this
      omega
    have hms : ms = [] := List.eq_nil_of_length_eq_zero hl0
    have hid : ids = [] := List.eq_nil_of_length_eq_zero (hN.len.1.symm.trans hl0)
    subst hms
    subst hid
    refine ar_iload_n 111 d_150_110 rfl rfl ?_
    refine ar_ldc 113 d_150_111 rfl (v := 1000000) rfl ?_
    refine ar_top (x' := nI 1000000) (by decide +kernel) ?_
    refine ar_icmp_ge 144 116 d_150_113 (by decide) rfl (fun c => absurd c (nI_ge (by omega) (by omega))) (fun _ => ?_)
    refine ar_aload_n 117 d_150_116 rfl rfl ?_
    refine ar_getf 120 d_150_117 rfl (ci := 0) (k := 1) rfl (hW.at 0 rfl) rfl ?_
    refine ar_getf 123 d_150_120 rfl (ci := 1) (k := 1) rfl hnet rfl ?_
    refine ar_if_le 144 126 d_150_123 (by decide) rfl (fun _ => ?_) (fun c => absurd (Int32.le_refl _) c)
    exact kk h e km kc q u b _ hQ hI SZ.rf ax_fr.rf
  | succ B ih =>
    intro i h e km kc q u b ids ms hi hm hQ hI kk
    obtain ⟨hb, hp, ⟨c, hW⟩, hN, hD⟩ := id hQ
    obtain ⟨za, zc, hnet⟩ := hN.net
    refine ar_iload_n 111 d_150_110 rfl rfl ?_
    refine ar_ldc 113 d_150_111 rfl (v := 1000000) rfl ?_
    refine ar_top (x' := nI 1000000) (by decide +kernel) ?_
    refine ar_icmp_ge 144 116 d_150_113 (by decide) rfl (fun c => absurd c (nI_ge (by omega) (by omega))) (fun _ => ?_)
    refine ar_aload_n 117 d_150_116 rfl rfl ?_
    refine ar_getf 120 d_150_117 rfl (ci := 0) (k := 1) rfl (hW.at 0 rfl) rfl ?_
    refine ar_getf 123 d_150_120 rfl (ci := 1) (k := 1) rfl hnet rfl ?_
    refine ar_if_le 144 126 d_150_123 (by decide) rfl (fun c9 => ?_) (fun c9 => ?_)
    · have hl0 : ids.length = 0 := by have := (nI_leI (a := ids.length) (b := 0) (by have := hN.len.2.1; omega) (by omega)).mp c9; omega
      have hid : ids = [] := List.eq_nil_of_length_eq_zero hl0
      have hms : ms = [] := List.eq_nil_of_length_eq_zero (hN.len.1.trans hl0)
      subst hms
      subst hid
      exact kk h e km kc q u b _ hQ hI SZ.rf ax_fr.rf
    · have hlen : 0 < ids.length := Nat.pos_of_ne_zero (fun z => c9 (by rw [z]; exact Int32.le_refl _))
      refine ar_aload_n 127 d_150_126 rfl rfl ?_
      refine ar_aload_n 128 d_150_127 rfl rfl ?_
      refine ar_getf 131 d_150_128 rfl (ci := 0) (k := 1) rfl (hW.at 0 rfl) rfl ?_
      refine ar_iconst 132 (v := 0) d_150_131 rfl (by decide) ?_
      refine ar_call (r := [.ref s0]) (na := 0) (kd := 0) (cm := 51) (fr2 := fr - 1) (lo2 := lo - 22) 135 d_150_132 (ar_hoV (as := [.int 0]) rfl rfl rfl hnet) rfl (by omega) (show lo - 22 + (19 + 3) = lo by omega) (Nat.le_of_ble_eq_true rfl) (Nat.le_of_ble_eq_true rfl) (c_51G (i := 0) hN hlen) ?_
      intro v h2 hq
      obtain ⟨q2, x2, ids2, ms2, rfl, hx2, hpm, hN2, hf2, hz1, hz2⟩ := hq
      have hQ2 := hQ.net hf2 hN2
      obtain ⟨-, -, ⟨c2, hW2⟩, -, -⟩ := id hQ2
      have hpm2 : (x2.1 :: ms2.map (·.1)).Perm (ms.map (·.1)) := by have := hpm.map (fun z : Mg => z.1); exact this
      have hI2 := hI.perm hpm2.symm
      have hme : mea nn (e p) (x2.1 :: ms2.map (·.1)) = mea nn (e p) (ms.map (·.1)) := mea_perm hpm2
      have hl2 : ids2.length + nn + 1 < 128 := by have h1 := len_mea (nn := nn) (ep := e p) (x2.1 :: ms2.map (·.1)); rw [List.length_cons, List.length_map] at h1; have := hN2.len.1; omega
      refine ar_call (r := []) (na := 0) (kd := 0) (cm := 52) (fr2 := fr - 1) (lo2 := lo - 21) 138 d_150_135 (ar_hoV (as := [.ref (n + 1 + 1 + 2 * q2)]) rfl rfl rfl (hW2.at 0 rfl)) rfl (by omega) (show lo - 21 + (19 + 2) = lo by omega) (Nat.le_of_ble_eq_true rfl) (Nat.le_of_ble_eq_true rfl) (s_52 (by omega) (by omega) hQ2 hI2 hl2) ?_
      intro v h3 hq
      obtain ⟨rfl, e3, km3, kc3, ids3, ms3, hQ3, hI3, hlt, hZ3, hT3⟩ := hq
      refine ar_iinc 141 [(0, .ref s0), (1, .int op), (2, .int tt), (3, .int (nI (i + 1)))] d_150_138 rfl rfl (nI_1 i) (by decide) rfl ?_
      refine ar_goto 110 d_150_141 (by decide) ?_
      exact ih (i + 1) h3 e3 km3 kc3 _ _ _ ids3 ms3 (by omega) (by omega) hQ3 hI3 (fun h' e' km' kc' q' u' b' y j1 j2 j3 j4 => kk h' e' km' kc' q' u' b' y j1 j2 ((SZ.net hf2 hz1 hz2).tr (hZ3.tr j3)) ((hf2.mono (fun x hx => JA_nt (j := 0) (Or.inl hx))).tr (hT3.tr j4)))
theorem s_151 {L : Nat} {xs : Nat → Int32} {fr lo s0 n nn gg cc p q km kc : Nat} {h : ax_H} {f u b : Nat → Int32} {e : Nat → Nat} {ms : List Mg} (hfr : 3 ≤ fr) (hlo : 120 ≤ lo) (hQ : SQ h s0 n nn gg cc p f e km kc [] ms q u b) (hkm : nI km = allN nn) (hkc : nI kc = allN nn) : ax_M L xs 151 fr lo [.ref s0] h (fun r h' => r = some (.int 1) ∧ h' = h) := by
  obtain ⟨hb, hp, ⟨c, hW⟩, hN, hD⟩ := id hQ
  obtain ⟨za, zc, hnet⟩ := hN.net
  have key : ∀ (k i : Nat), i + k = nn → ax_A (ax_step L xs) ((151, 48, fr, lo), [(0, .ref s0), (1, .int (nI i))], [], h) (fun r h' => r = some (.int 1) ∧ h' = h) := by
    intro k
    induction k with
    | zero =>
      intro i hi
      have e0 : i = nn := by omega
      subst e0
      have hj : p < i := hb.2.2.2.2.1
      obtain ⟨hej, ep, st, hd, cl, ni, tu, md, fm, hq, hcl⟩ := hD p hj
      have ecl : cl = allN i := (hcl rfl).trans hkc
      subst ecl
      refine ar_iload_n 49 d_151_48 rfl rfl ?_
      refine ar_aload_n 50 d_151_49 rfl rfl ?_
      refine ar_getf 53 d_151_50 rfl (ci := 0) (k := 3) rfl (hW.at 0 rfl) rfl ?_
      refine ar_alen 54 d_151_53 rfl (hW.at 4 rfl) (by decide) ?_
      refine ar_icmp_ge 80 57 d_151_54 (by decide) rfl (fun _ => ?_) (fun c => absurd (nI_le (Nat.le_refl _) (by omega)) c)
      refine ar_aload_n 81 d_151_80 rfl rfl ?_
      refine ar_getf 84 d_151_81 rfl (ci := 0) (k := 0) rfl (hW.at 0 rfl) rfl ?_
      refine ar_iconst 85 (v := 0) d_151_84 rfl (by decide) ?_
      refine ar_iconst 86 (v := 0) d_151_85 rfl (by decide) ?_
      refine ar_aload_n 87 d_151_86 rfl rfl ?_
      refine ar_getf 90 d_151_87 rfl (ci := 0) (k := 2) rfl (hW.at 0 rfl) rfl ?_
      refine ar_getf 93 d_151_90 rfl (ci := 4) (k := 14) rfl (hW.at 3 rfl) rfl ?_
      refine ar_call (r := []) (na := 0) (kd := 0) (cm := 31) (fr2 := fr - 1) (lo2 := lo - 26) 96 d_151_93 (ar_hoV (as := [.int 0, .int 0, .int (allN i)]) rfl rfl rfl (hW.at 1 rfl)) rfl (by omega) (show lo - 26 + (19 + 7) = lo by omega) (Nat.le_of_ble_eq_true rfl) (Nat.le_of_ble_eq_true rfl) (c_31 (g := 0) (by omega) (by omega) (by omega) (hW.sub (F' := [(n + 264, .inr (3, [.int (nI i), .int (nI cc), .int (nI gg), .ref (n + 265)])), (n + 265, .inl (0, gg * i, .inl f))]) [1, 2] rfl rfl)) ?_
      intro v hh hq
      obtain ⟨rfl, ehh⟩ := hq
      rw [ehh]
      clear ehh
      refine ar_top (x' := nI p) (by rw [show (0 : Nat) * i = 0 by omega]; exact hp) ?_
      refine ar_istore_n 97 [(0, .ref s0), (1, .int (nI p))] d_151_96 rfl (by decide) rfl ?_
      refine ar_iload_n 98 d_151_97 rfl rfl ?_
      refine ar_if_lt 120 101 d_151_98 (by decide) rfl (fun c => absurd c (Int32.not_lt.mpr (nI_le (Nat.zero_le p) (by omega)))) (fun _ => ?_)
      refine ar_aload_n 102 d_151_101 rfl rfl ?_
      refine ar_getf 105 d_151_102 rfl (ci := 0) (k := 3) rfl (hW.at 0 rfl) rfl ?_
      refine ar_iload_n 106 d_151_105 rfl rfl ?_
      refine ar_aald 107 d_151_106 rfl (hW.at 4 rfl) rfl (nI_in hj (by omega)) ?_
      refine ar_tv (v' := .ref (n + 329 + 22 * p)) (by rw [nI_clamp (by omega), if_pos hj]; rfl) ?_
      have hF1 := (hq.sub (F' := [(n + 329 + 22 * p + 7, .inr (9, [.int (nI p), .ref (n + 264), .ref n, .ref (n + 329 + 22 * p + 10), .ref (n + 329 + 22 * p + 18), .ref (n + 329 + 22 * p + 8), .ref (n + 329 + 22 * p + 9), .int ep, .int st, .int hd, .int (allN i), .long 0, .int ni, .int tu, .int md])), (n + 329 + 22 * p + 18, .inr (10, [.ref (n + 329 + 22 * p + 10), .ref (n + 329 + 22 * p + 19), .ref (n + 329 + 22 * p + 21), .int 0, .int (-1), .int 0, .int 0, .int 0, .int 0, .int 0, .int 0, .int 0, .int 0, .int 0, .int 0])), (n + 329 + 22 * p + 10, .inr (6, [.int (nI gg), .ref (n + 329 + 22 * p + 11), .ref (n + 329 + 22 * p + 12), .ref (n + 329 + 22 * p + 13), .ref (n + 329 + 22 * p + 14), .ref (n + 329 + 22 * p + 15), .ref (n + 329 + 22 * p + 16), .ref (n + 329 + 22 * p + 17), .long 0, .int 0, .int 0])), (n + 329 + 22 * p + 16, .inl (0, 961, .inl (ax_fill (fun _ => 0) 0 961 (-1))))]) [7, 18, 10, 16] rfl rfl).app (hW.sub (F' := [(n + 264, .inr (3, [.int (nI i), .int (nI cc), .int (nI gg), .ref (n + 265)]))]) [1] rfl rfl) (fun a k x y hx hy e => by have h1 := List.mem_of_getElem? hx; have h2 := List.mem_of_getElem? hy; simp only [List.mem_cons, List.not_mem_nil, or_false] at h1 h2; subst h2; rcases h1 with rfl | rfl | rfl | rfl <;> dsimp only at e <;> omega)
      refine ar_getf 110 d_151_107 rfl (ci := 7) (k := 4) rfl (hq.at 0 rfl) rfl ?_
      refine ar_call (r := []) (na := 0) (kd := 0) (cm := 152) (fr2 := fr - 1) (lo2 := lo - 21) 113 d_151_110 (ar_hoV (as := []) rfl rfl rfl (hq.at 7 rfl)) rfl (by omega) (show lo - 21 + (19 + 2) = lo by omega) (Nat.le_of_ble_eq_true rfl) (Nat.le_of_ble_eq_true rfl) (c_152T (by omega) (by omega) versN hF1) ?_
      intro v hh hq
      obtain ⟨rfl, ehh⟩ := hq
      rw [ehh]
      clear ehh
      refine ar_if_eq 120 116 d_151_113 (by decide) rfl (fun c => absurd c (by decide)) (fun _ => ?_)
      refine ar_iconst 117 (v := 1) d_151_116 rfl (by decide) ?_
      refine ar_goto 121 d_151_117 (by decide) ?_
      exact ar_iret d_151_121 rfl rfl (⟨rfl, rfl⟩)
    | succ k ih =>
      intro i hi
      have hin : i < nn := by omega
      obtain ⟨hej, ep, st, hd, cl, ni, tu, md, fm, hq, hcl⟩ := hD i hin
      refine ar_iload_n 49 d_151_48 rfl rfl ?_
      refine ar_aload_n 50 d_151_49 rfl rfl ?_
      refine ar_getf 53 d_151_50 rfl (ci := 0) (k := 3) rfl (hW.at 0 rfl) rfl ?_
      refine ar_alen 54 d_151_53 rfl (hW.at 4 rfl) (by decide) ?_
      refine ar_icmp_ge 80 57 d_151_54 (by decide) rfl (fun c => absurd c (nI_ge hin (by omega))) (fun _ => ?_)
      refine ar_aload_n 58 d_151_57 rfl rfl ?_
      refine ar_getf 61 d_151_58 rfl (ci := 0) (k := 3) rfl (hW.at 0 rfl) rfl ?_
      refine ar_iload_n 62 d_151_61 rfl rfl ?_
      refine ar_aald 63 d_151_62 rfl (hW.at 4 rfl) rfl (nI_in hin (by omega)) ?_
      refine ar_tv (v' := .ref (n + 329 + 22 * i)) (by rw [nI_clamp (by omega), if_pos hin]; rfl) ?_
      refine ar_getf 66 d_151_63 rfl (ci := 7) (k := 3) rfl (hq.at 0 rfl) rfl ?_
      refine ar_getf 69 d_151_66 rfl (ci := 8) (k := 4) rfl (hq.at 1 rfl) rfl ?_
      refine ar_if_le 74 72 d_151_69 (by decide) rfl (fun _ => ?_) (fun c => absurd (Int32.le_refl _) c)
      refine ar_iinc 77 [(0, .ref s0), (1, .int (nI (i + 1)))] d_151_74 rfl rfl (nI_1 i) (by decide) rfl ?_
      refine ar_goto 48 d_151_77 (by decide) ?_
      exact ih (i + 1) (by omega)
  show ax_A (ax_step L xs) ((151, 0, fr, lo), [(0, .ref s0)], [], h) _
  refine ar_aload_n 1 d_151_0 rfl rfl ?_
  refine ar_getf 4 d_151_1 rfl (ci := 0) (k := 2) rfl (hW.at 0 rfl) rfl ?_
  refine ar_getf 7 d_151_4 rfl (ci := 4) (k := 9) rfl (hW.at 3 rfl) rfl ?_
  refine ar_aload_n 8 d_151_7 rfl rfl ?_
  refine ar_getf 11 d_151_8 rfl (ci := 0) (k := 2) rfl (hW.at 0 rfl) rfl ?_
  refine ar_getf 14 d_151_11 rfl (ci := 4) (k := 8) rfl (hW.at 3 rfl) rfl ?_
  refine ar_icmp_lt 44 17 d_151_14 (by decide) rfl (fun c => absurd c (by decide)) (fun _ => ?_)
  refine ar_aload_n 18 d_151_17 rfl rfl ?_
  refine ar_getf 21 d_151_18 rfl (ci := 0) (k := 2) rfl (hW.at 0 rfl) rfl ?_
  refine ar_getf 24 d_151_21 rfl (ci := 4) (k := 15) rfl (hW.at 3 rfl) rfl ?_
  refine ar_aload_n 25 d_151_24 rfl rfl ?_
  refine ar_getf 28 d_151_25 rfl (ci := 0) (k := 2) rfl (hW.at 0 rfl) rfl ?_
  refine ar_getf 31 d_151_28 rfl (ci := 4) (k := 14) rfl (hW.at 3 rfl) rfl ?_
  refine ar_icmp_ne 44 34 d_151_31 (by decide) rfl (fun c => absurd c (fun z => z hkm)) (fun _ => ?_)
  refine ar_aload_n 35 d_151_34 rfl rfl ?_
  refine ar_getf 38 d_151_35 rfl (ci := 0) (k := 1) rfl (hW.at 0 rfl) rfl ?_
  refine ar_getf 41 d_151_38 rfl (ci := 1) (k := 1) rfl hnet rfl ?_
  refine ar_if_le 46 44 d_151_41 (by decide) rfl (fun _ => ?_) (fun c => absurd (Int32.le_refl _) c)
  refine ar_iconst 47 (v := 0) d_151_46 rfl (by decide) ?_
  refine ar_istore_n 48 [(0, .ref s0), (1, .int 0)] d_151_47 rfl (by decide) rfl ?_
  exact key nn 0 (by omega)

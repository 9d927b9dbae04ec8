/-! the quiet store: tick, deliver, lose, twice, stir -/
theorem d_129_0 : decode (axt_b 129) 0 = .ok (.aload_n 0, 1) := by decide +kernel
theorem d_129_1 : decode (axt_b 129) 1 = .ok (.iconst 0, 1) := by decide +kernel
theorem d_129_2 : decode (axt_b 129) 2 = .ok (.putfield 99, 3) := by decide +kernel
theorem d_129_5 : decode (axt_b 129) 5 = .ok (.aload_n 0, 1) := by decide +kernel
theorem d_129_6 : decode (axt_b 129) 6 = .ok (.getfield 12, 3) := by decide +kernel
theorem d_129_9 : decode (axt_b 129) 9 = .ok (.getfield 106, 3) := by decide +kernel
theorem d_129_12 : decode (axt_b 129) 12 = .ok (.ifCond .le 22, 3) := by decide +kernel
theorem d_129_15 : decode (axt_b 129) 15 = .ok (.aload_n 0, 1) := by decide +kernel
theorem d_129_16 : decode (axt_b 129) 16 = .ok (.getfield 12, 3) := by decide +kernel
theorem d_129_19 : decode (axt_b 129) 19 = .ok (.iload_n 1, 1) := by decide +kernel
theorem d_129_20 : decode (axt_b 129) 20 = .ok (.aload_n 0, 1) := by decide +kernel
theorem d_129_21 : decode (axt_b 129) 21 = .ok (.getfield 12, 3) := by decide +kernel
theorem d_129_24 : decode (axt_b 129) 24 = .ok (.getfield 106, 3) := by decide +kernel
theorem d_129_27 : decode (axt_b 129) 27 = .ok (.invokestatic 109, 3) := by decide +kernel
theorem d_129_30 : decode (axt_b 129) 30 = .ok (.invokevirtual 115, 3) := by decide +kernel
theorem d_129_33 : decode (axt_b 129) 33 = .ok (.pop, 1) := by decide +kernel
theorem d_129_34 : decode (axt_b 129) 34 = .ok (.return_, 1) := by decide +kernel
theorem d_130_0 : decode (axt_b 130) 0 = .ok (.aload_n 0, 1) := by decide +kernel
theorem d_130_1 : decode (axt_b 130) 1 = .ok (.iconst 0, 1) := by decide +kernel
theorem d_130_2 : decode (axt_b 130) 2 = .ok (.putfield 99, 3) := by decide +kernel
theorem d_130_5 : decode (axt_b 130) 5 = .ok (.aload_n 0, 1) := by decide +kernel
theorem d_130_6 : decode (axt_b 130) 6 = .ok (.getfield 12, 3) := by decide +kernel
theorem d_130_9 : decode (axt_b 130) 9 = .ok (.getfield 106, 3) := by decide +kernel
theorem d_130_12 : decode (axt_b 130) 12 = .ok (.ifCond .le 26, 3) := by decide +kernel
theorem d_130_15 : decode (axt_b 130) 15 = .ok (.aload_n 0, 1) := by decide +kernel
theorem d_130_16 : decode (axt_b 130) 16 = .ok (.aload_n 0, 1) := by decide +kernel
theorem d_130_17 : decode (axt_b 130) 17 = .ok (.getfield 12, 3) := by decide +kernel
theorem d_130_20 : decode (axt_b 130) 20 = .ok (.getfield 123, 3) := by decide +kernel
theorem d_130_23 : decode (axt_b 130) 23 = .ok (.iload_n 1, 1) := by decide +kernel
theorem d_130_24 : decode (axt_b 130) 24 = .ok (.aload_n 0, 1) := by decide +kernel
theorem d_130_25 : decode (axt_b 130) 25 = .ok (.getfield 12, 3) := by decide +kernel
theorem d_130_28 : decode (axt_b 130) 28 = .ok (.getfield 106, 3) := by decide +kernel
theorem d_130_31 : decode (axt_b 130) 31 = .ok (.invokestatic 109, 3) := by decide +kernel
theorem d_130_34 : decode (axt_b 130) 34 = .ok (.aaload, 1) := by decide +kernel
theorem d_130_35 : decode (axt_b 130) 35 = .ok (.invokevirtual 119, 3) := by decide +kernel
theorem d_130_38 : decode (axt_b 130) 38 = .ok (.return_, 1) := by decide +kernel
theorem d_131_0 : decode (axt_b 131) 0 = .ok (.iload_n 1, 1) := by decide +kernel
theorem d_131_1 : decode (axt_b 131) 1 = .ok (.iconst 1, 1) := by decide +kernel
theorem d_131_2 : decode (axt_b 131) 2 = .ok (.if_icmp .lt 10, 3) := by decide +kernel
theorem d_131_5 : decode (axt_b 131) 5 = .ok (.iload_n 1, 1) := by decide +kernel
theorem d_131_6 : decode (axt_b 131) 6 = .ok (.sipush 500, 3) := by decide +kernel
theorem d_131_9 : decode (axt_b 131) 9 = .ok (.if_icmp .le 5, 3) := by decide +kernel
theorem d_131_12 : decode (axt_b 131) 12 = .ok (.iconst (-1), 1) := by decide +kernel
theorem d_131_13 : decode (axt_b 131) 13 = .ok (.ireturn, 1) := by decide +kernel
theorem d_131_14 : decode (axt_b 131) 14 = .ok (.aload_n 0, 1) := by decide +kernel
theorem d_131_15 : decode (axt_b 131) 15 = .ok (.iconst 0, 1) := by decide +kernel
theorem d_131_16 : decode (axt_b 131) 16 = .ok (.putfield 99, 3) := by decide +kernel
theorem d_131_19 : decode (axt_b 131) 19 = .ok (.iload_n 2, 1) := by decide +kernel
theorem d_131_20 : decode (axt_b 131) 20 = .ok (.istore_n 3, 1) := by decide +kernel
theorem d_131_21 : decode (axt_b 131) 21 = .ok (.iconst 0, 1) := by decide +kernel
theorem d_131_22 : decode (axt_b 131) 22 = .ok (.istore 4, 2) := by decide +kernel
theorem d_131_24 : decode (axt_b 131) 24 = .ok (.iload 4, 2) := by decide +kernel
theorem d_131_26 : decode (axt_b 131) 26 = .ok (.iload_n 1, 1) := by decide +kernel
theorem d_131_27 : decode (axt_b 131) 27 = .ok (.if_icmp .ge 93, 3) := by decide +kernel
theorem d_131_30 : decode (axt_b 131) 30 = .ok (.aload_n 0, 1) := by decide +kernel
theorem d_131_31 : decode (axt_b 131) 31 = .ok (.getfield 12, 3) := by decide +kernel
theorem d_131_34 : decode (axt_b 131) 34 = .ok (.getfield 106, 3) := by decide +kernel
theorem d_131_37 : decode (axt_b 131) 37 = .ok (.ifCond .le 83, 3) := by decide +kernel
theorem d_131_40 : decode (axt_b 131) 40 = .ok (.iload_n 3, 1) := by decide +kernel
theorem d_131_41 : decode (axt_b 131) 41 = .ok (.ldc 127, 2) := by decide +kernel
theorem d_131_43 : decode (axt_b 131) 43 = .ok (.imul, 1) := by decide +kernel
theorem d_131_44 : decode (axt_b 131) 44 = .ok (.sipush 12345, 3) := by decide +kernel
theorem d_131_47 : decode (axt_b 131) 47 = .ok (.iadd, 1) := by decide +kernel
theorem d_131_48 : decode (axt_b 131) 48 = .ok (.istore_n 3, 1) := by decide +kernel
theorem d_131_49 : decode (axt_b 131) 49 = .ok (.iload_n 3, 1) := by decide +kernel
theorem d_131_50 : decode (axt_b 131) 50 = .ok (.bipush 8, 2) := by decide +kernel
theorem d_131_52 : decode (axt_b 131) 52 = .ok (.iushr, 1) := by decide +kernel
theorem d_131_53 : decode (axt_b 131) 53 = .ok (.aload_n 0, 1) := by decide +kernel
theorem d_131_54 : decode (axt_b 131) 54 = .ok (.getfield 12, 3) := by decide +kernel
theorem d_131_57 : decode (axt_b 131) 57 = .ok (.getfield 106, 3) := by decide +kernel
theorem d_131_60 : decode (axt_b 131) 60 = .ok (.irem, 1) := by decide +kernel
theorem d_131_61 : decode (axt_b 131) 61 = .ok (.istore 5, 2) := by decide +kernel
theorem d_131_63 : decode (axt_b 131) 63 = .ok (.iload_n 3, 1) := by decide +kernel
theorem d_131_64 : decode (axt_b 131) 64 = .ok (.bipush 28, 2) := by decide +kernel
theorem d_131_66 : decode (axt_b 131) 66 = .ok (.iushr, 1) := by decide +kernel
theorem d_131_67 : decode (axt_b 131) 67 = .ok (.istore 6, 2) := by decide +kernel
theorem d_131_69 : decode (axt_b 131) 69 = .ok (.iload 6, 2) := by decide +kernel
theorem d_131_71 : decode (axt_b 131) 71 = .ok (.ifCond .ne 20, 3) := by decide +kernel
theorem d_131_74 : decode (axt_b 131) 74 = .ok (.aload_n 0, 1) := by decide +kernel
theorem d_131_75 : decode (axt_b 131) 75 = .ok (.aload_n 0, 1) := by decide +kernel
theorem d_131_76 : decode (axt_b 131) 76 = .ok (.getfield 12, 3) := by decide +kernel
theorem d_131_79 : decode (axt_b 131) 79 = .ok (.getfield 123, 3) := by decide +kernel
theorem d_131_82 : decode (axt_b 131) 82 = .ok (.iload 5, 2) := by decide +kernel
theorem d_131_84 : decode (axt_b 131) 84 = .ok (.aaload, 1) := by decide +kernel
theorem d_131_85 : decode (axt_b 131) 85 = .ok (.invokevirtual 119, 3) := by decide +kernel
theorem d_131_88 : decode (axt_b 131) 88 = .ok (.goto 26, 3) := by decide +kernel
theorem d_131_91 : decode (axt_b 131) 91 = .ok (.aload_n 0, 1) := by decide +kernel
theorem d_131_92 : decode (axt_b 131) 92 = .ok (.getfield 12, 3) := by decide +kernel
theorem d_131_95 : decode (axt_b 131) 95 = .ok (.iload 5, 2) := by decide +kernel
theorem d_131_97 : decode (axt_b 131) 97 = .ok (.invokevirtual 115, 3) := by decide +kernel
theorem d_131_100 : decode (axt_b 131) 100 = .ok (.astore 7, 2) := by decide +kernel
theorem d_131_102 : decode (axt_b 131) 102 = .ok (.iload 6, 2) := by decide +kernel
theorem d_131_104 : decode (axt_b 131) 104 = .ok (.iconst 2, 1) := by decide +kernel
theorem d_131_105 : decode (axt_b 131) 105 = .ok (.if_icmp .le 9, 3) := by decide +kernel
theorem d_131_108 : decode (axt_b 131) 108 = .ok (.aload_n 0, 1) := by decide +kernel
theorem d_131_109 : decode (axt_b 131) 109 = .ok (.aload 7, 2) := by decide +kernel
theorem d_131_111 : decode (axt_b 131) 111 = .ok (.invokevirtual 119, 3) := by decide +kernel
theorem d_131_114 : decode (axt_b 131) 114 = .ok (.iinc 4 1, 3) := by decide +kernel
theorem d_131_117 : decode (axt_b 131) 117 = .ok (.goto (-93), 3) := by decide +kernel
theorem d_131_120 : decode (axt_b 131) 120 = .ok (.iload_n 1, 1) := by decide +kernel
theorem d_131_121 : decode (axt_b 131) 121 = .ok (.ireturn, 1) := by decide +kernel
theorem d_132_0 : decode (axt_b 132) 0 = .ok (.iload_n 1, 1) := by decide +kernel
theorem d_132_1 : decode (axt_b 132) 1 = .ok (.iconst 1, 1) := by decide +kernel
theorem d_132_2 : decode (axt_b 132) 2 = .ok (.if_icmp .lt 9, 3) := by decide +kernel
theorem d_132_5 : decode (axt_b 132) 5 = .ok (.iload_n 1, 1) := by decide +kernel
theorem d_132_6 : decode (axt_b 132) 6 = .ok (.bipush 50, 2) := by decide +kernel
theorem d_132_8 : decode (axt_b 132) 8 = .ok (.if_icmp .le 5, 3) := by decide +kernel
theorem d_132_11 : decode (axt_b 132) 11 = .ok (.iconst (-1), 1) := by decide +kernel
theorem d_132_12 : decode (axt_b 132) 12 = .ok (.ireturn, 1) := by decide +kernel
theorem d_132_13 : decode (axt_b 132) 13 = .ok (.aload_n 0, 1) := by decide +kernel
theorem d_132_14 : decode (axt_b 132) 14 = .ok (.iconst 0, 1) := by decide +kernel
theorem d_132_15 : decode (axt_b 132) 15 = .ok (.putfield 99, 3) := by decide +kernel
theorem d_132_18 : decode (axt_b 132) 18 = .ok (.iconst 0, 1) := by decide +kernel
theorem d_132_19 : decode (axt_b 132) 19 = .ok (.istore_n 2, 1) := by decide +kernel
theorem d_132_20 : decode (axt_b 132) 20 = .ok (.iload_n 2, 1) := by decide +kernel
theorem d_132_21 : decode (axt_b 132) 21 = .ok (.iload_n 1, 1) := by decide +kernel
theorem d_132_22 : decode (axt_b 132) 22 = .ok (.if_icmp .ge 13, 3) := by decide +kernel
theorem d_132_25 : decode (axt_b 132) 25 = .ok (.aload_n 0, 1) := by decide +kernel
theorem d_132_26 : decode (axt_b 132) 26 = .ok (.invokevirtual 128, 3) := by decide +kernel
theorem d_132_29 : decode (axt_b 132) 29 = .ok (.iinc 2 1, 3) := by decide +kernel
theorem d_132_32 : decode (axt_b 132) 32 = .ok (.goto (-12), 3) := by decide +kernel
theorem d_132_35 : decode (axt_b 132) 35 = .ok (.iload_n 1, 1) := by decide +kernel
theorem d_132_36 : decode (axt_b 132) 36 = .ok (.ireturn, 1) := by decide +kernel
theorem d_133_0 : decode (axt_b 133) 0 = .ok (.aload_n 0, 1) := by decide +kernel
theorem d_133_1 : decode (axt_b 133) 1 = .ok (.getfield 41, 3) := by decide +kernel
theorem d_133_4 : decode (axt_b 133) 4 = .ok (.invokevirtual 282, 3) := by decide +kernel
theorem d_133_7 : decode (axt_b 133) 7 = .ok (.iconst 0, 1) := by decide +kernel
theorem d_133_8 : decode (axt_b 133) 8 = .ok (.istore_n 1, 1) := by decide +kernel
theorem d_133_9 : decode (axt_b 133) 9 = .ok (.iload_n 1, 1) := by decide +kernel
theorem d_133_10 : decode (axt_b 133) 10 = .ok (.aload_n 0, 1) := by decide +kernel
theorem d_133_11 : decode (axt_b 133) 11 = .ok (.getfield 63, 3) := by decide +kernel
theorem d_133_14 : decode (axt_b 133) 14 = .ok (.arraylength, 1) := by decide +kernel
theorem d_133_15 : decode (axt_b 133) 15 = .ok (.if_icmp .ge 30, 3) := by decide +kernel
theorem d_133_18 : decode (axt_b 133) 18 = .ok (.aload_n 0, 1) := by decide +kernel
theorem d_133_19 : decode (axt_b 133) 19 = .ok (.getfield 63, 3) := by decide +kernel
theorem d_133_22 : decode (axt_b 133) 22 = .ok (.iload_n 1, 1) := by decide +kernel
theorem d_133_23 : decode (axt_b 133) 23 = .ok (.aaload, 1) := by decide +kernel
theorem d_133_24 : decode (axt_b 133) 24 = .ok (.getfield 131, 3) := by decide +kernel
theorem d_133_27 : decode (axt_b 133) 27 = .ok (.ifCond .eq 12, 3) := by decide +kernel
theorem d_133_30 : decode (axt_b 133) 30 = .ok (.aload_n 0, 1) := by decide +kernel
theorem d_133_31 : decode (axt_b 133) 31 = .ok (.getfield 63, 3) := by decide +kernel
theorem d_133_34 : decode (axt_b 133) 34 = .ok (.iload_n 1, 1) := by decide +kernel
theorem d_133_35 : decode (axt_b 133) 35 = .ok (.aaload, 1) := by decide +kernel
theorem d_133_36 : decode (axt_b 133) 36 = .ok (.invokevirtual 285, 3) := by decide +kernel
theorem d_133_39 : decode (axt_b 133) 39 = .ok (.iinc 1 1, 3) := by decide +kernel
theorem d_133_42 : decode (axt_b 133) 42 = .ok (.goto (-33), 3) := by decide +kernel
theorem d_133_45 : decode (axt_b 133) 45 = .ok (.return_, 1) := by decide +kernel
theorem d_134_0 : decode (axt_b 134) 0 = .ok (.aload_n 0, 1) := by decide +kernel
theorem d_134_1 : decode (axt_b 134) 1 = .ok (.invokevirtual 134, 3) := by decide +kernel
theorem d_134_4 : decode (axt_b 134) 4 = .ok (.aload_n 0, 1) := by decide +kernel
theorem d_134_5 : decode (axt_b 134) 5 = .ok (.invokevirtual 109, 3) := by decide +kernel
theorem d_134_8 : decode (axt_b 134) 8 = .ok (.return_, 1) := by decide +kernel
theorem ax_hs.repl {A : Nat → Prop} {h h' : ax_H} {F F' : List (Nat × va_E)} (hF : ax_hs h F) (k : Nat) {a : Nat} {c : va_E} (c' : va_E) (e : F[k]? = some (a, c)) (hf : ax_fr A h h') (hA : ∀ q ∈ F, q.1 ≠ a → ¬ A q.1) (g : ax_g h' a = some c') (hF' : F.set k (a, c') = F') : ax_hs h' F' := by
  subst hF'
  have h1 := (hF.put k c' e rfl).1
  refine ⟨h1, fun j q hq => ?_⟩
  by_cases hj : j = k
  · subst hj
    rw [List.getElem?_set_self (List.getElem?_eq_some_iff.mp e).1] at hq
    cases hq
    exact g
  · rw [List.getElem?_set_ne (Ne.symm hj)] at hq
    exact hf.g (hF.2 j q hq) (hA q (List.mem_of_getElem? hq) (fun z => hj (hF.1 j k q (a, c) hq e z)))
theorem QT.net {h h' : ax_H} {s0 n nn gg cc p q q' : Nat} {f u b u' b' : Nat → Int32} {ids : List Nat} {ms : List Mg} (hQ : QT h s0 n nn gg cc p f q u b) (hf : ax_fr (NTA n (n + 1)) h h') (hN : NTL h' n (n + 1) ids ms q' u' b') (hP : ∀ x ∈ ms, PQ p nn x.1) : QT h' s0 n nn gg cc p f q' u' b' := by
  obtain ⟨hb, hp, ⟨c, hW⟩, -, hD⟩ := hQ
  refine ⟨hb, hp, ⟨c, hW.fr hf (fun z hz hA => ?_)⟩, ⟨ids, ms, hN, hP⟩, fun k hk => ?_⟩
  · have := W0.lt hb.2.2.2.2.2 z hz
    unfold NTA at hA
    omega
  · obtain ⟨hd, cl, ni, tu, md, fm, h1, h2⟩ := hD k hk
    refine ⟨hd, cl, ni, tu, md, fm, h1.fr hf (fun z hz hA => ?_), h2⟩
    have := QN.lt z hz
    unfold NTA at hA
    omega
theorem SZ.net {h h' : ax_H} {n nn : Nat} (hf : ax_fr (NTA n (n + 1)) h h') (h1 : h'.1 = h.1) (h2 : h'.2.1 = h.2.1) : SZ (n + 329 + 22 * nn) h h' := ⟨h1, h2, hf.mono (fun x hx => by unfold NTA at hx; omega)⟩
theorem QT.calm {h : ax_H} {s0 n nn gg cc p q : Nat} {f u b : Nat → Int32} {c : Int32} (hQ : QT h s0 n nn gg cc p f q u b) : QT (ax_put h s0 (.inr (0, [.ref (n + 264), .ref n, .ref (n + 266), .ref (n + 328), .ref (n + 320), .ref (n + 262), .ref (n + 263), .int 0, .int 0, .int 0, .int c]))) s0 n nn gg cc p f q u b ∧ SZ (n + 329 + 22 * nn) h (ax_put h s0 (.inr (0, [.ref (n + 264), .ref n, .ref (n + 266), .ref (n + 328), .ref (n + 320), .ref (n + 262), .ref (n + 263), .int 0, .int 0, .int 0, .int c]))) := by
  obtain ⟨hb, hp, ⟨c0, hW⟩, ⟨ids, ms, hN, hP⟩, hD⟩ := hQ
  have hf : ax_fr (fun x => x = s0) h (ax_put h s0 (.inr (0, [.ref (n + 264), .ref n, .ref (n + 266), .ref (n + 328), .ref (n + 320), .ref (n + 262), .ref (n + 263), .int 0, .int 0, .int 0, .int c]))) := ax_fr.rf.put rfl
  refine ⟨⟨hb, hp, ⟨c, hW.put 0 _ rfl rfl⟩, ⟨ids, ms, hN.fr hf (fun x hx hA => ?_), hP⟩, fun k hk => ?_⟩, rfl, rfl, hf.mono (fun x hx => by omega)⟩
  · unfold NTA at hx
    omega
  · obtain ⟨hd, cl, ni, tu, md, fm, h1, h2⟩ := hD k hk
    refine ⟨hd, cl, ni, tu, md, fm, h1.fr hf (fun z hz hA => ?_), h2⟩
    have := QN.lt z hz
    omega
theorem c_47z {L : Nat} {xs : Nat → Int32} {fr lo : Nat} {h : ax_H} {as rk nt tp nm nl ak aw nn gg o : Nat} {C ln bg se si ef ep sm mh : Int32} {f : Nat → Int32} (hfr : 1 ≤ fr) (hlo : 30 ≤ lo) (hgg : gg ≤ 16) (hg1 : 0 < gg) (hnn : nn ≤ 6) (hF : ax_hs h [(as, .inr (4, [.ref rk, .ref nt, .ref tp, .int ln, .ref nm, .ref nl, .ref ak, .ref aw, .int bg, .int bg, .int se, .int si, .int ef, .int ep, .int sm, .int mh])), (rk, .inr (3, [.int (nI nn), .int C, .int (nI gg), .ref o])), (o, .inl (0, gg * nn, .inl f))]) : ax_M L xs 47 fr lo [.ref as] h (fun r h' => r = none ∧ h' = h) := by
  show ax_A (ax_step L xs) ((47, 0, fr, lo), [(0, .ref as)], [], h) _
  refine ar_aload_n 1 d_47_0 rfl rfl ?_
  refine ar_getf 4 d_47_1 rfl (ci := 4) (k := 0) rfl (hF.at 0 rfl) rfl ?_
  refine ar_iconst 5 (v := 0) d_47_4 rfl (by decide) ?_
  refine ar_iconst 6 (v := 0) d_47_5 rfl (by decide) ?_
  refine ar_aload_n 7 d_47_6 rfl rfl ?_
  refine ar_getf 10 d_47_7 rfl (ci := 4) (k := 14) rfl (hF.at 0 rfl) rfl ?_
  refine ar_call (r := []) (na := 0) (kd := 0) (cm := 31) (fr2 := fr - 1) (lo2 := lo - 26) 13 d_47_10 (ar_hoV (as := [.int 0, .int 0, .int sm]) rfl rfl rfl (hF.at 1 rfl)) rfl (by omega) (show lo - 26 + (19 + 7) = lo by omega) (Nat.le_of_ble_eq_true rfl) (Nat.le_of_ble_eq_true rfl) (c_31 (g := 0) hgg hnn hg1 (hF.sub (F' := [(rk, .inr (3, [.int (nI nn), .int C, .int (nI gg), .ref o])), (o, .inl (0, gg * nn, .inl f))]) [1, 2] rfl rfl)) ?_
  intro v hh hq
  obtain ⟨rfl, ehh⟩ := hq
  rw [ehh]
  clear ehh
  refine ar_istore_n 14 [(0, .ref as), (1, .int (nof f 0 sm nn (0 * nn) 0))] d_47_13 rfl (by decide) rfl ?_
  refine ar_aload_n 15 d_47_14 rfl rfl ?_
  refine ar_getf 18 d_47_15 rfl (ci := 4) (k := 9) rfl (hF.at 0 rfl) rfl ?_
  refine ar_aload_n 19 d_47_18 rfl rfl ?_
  refine ar_getf 22 d_47_19 rfl (ci := 4) (k := 8) rfl (hF.at 0 rfl) rfl ?_
  refine ar_icmp_eq 29 25 d_47_22 (by decide) rfl (fun _ => ?_) (fun c => absurd (rfl) c)
  exact ar_ret d_47_29 rfl (⟨rfl, rfl⟩)
theorem c_134z {L : Nat} {xs : Nat → Int32} {fr lo : Nat} {h : ax_H} {as rk nt tp nm nl ak aw nn gg o : Nat} {C ln bg se si ef ep sm mh : Int32} {f : Nat → Int32} (hfr : 2 ≤ fr) (hlo : 60 ≤ lo) (hgg : gg ≤ 16) (hg1 : 0 < gg) (hnn : nn ≤ 6) (hm : ∀ i, i < nn → ¬ (mh >>> (nI i &&& 31)) &&& 1 = 0) (hF : ax_hs h [(as, .inr (4, [.ref rk, .ref nt, .ref tp, .int ln, .ref nm, .ref nl, .ref ak, .ref aw, .int bg, .int bg, .int se, .int si, .int ef, .int ep, .int sm, .int mh])), (rk, .inr (3, [.int (nI nn), .int C, .int (nI gg), .ref o])), (o, .inl (0, gg * nn, .inl f))]) : ax_M L xs 134 fr lo [.ref as] h (fun r h' => r = none ∧ h' = h) := by
  show ax_A (ax_step L xs) ((134, 0, fr, lo), [(0, .ref as)], [], h) _
  refine ar_aload_n 1 d_134_0 rfl rfl ?_
  refine ar_call (r := []) (na := 0) (kd := 0) (cm := 135) (fr2 := fr - 1) (lo2 := lo - 21) 4 d_134_1 (ar_hoV (as := []) rfl rfl rfl (hF.at 0 rfl)) rfl (by omega) (show lo - 21 + (19 + 2) = lo by omega) (Nat.le_of_ble_eq_true rfl) (Nat.le_of_ble_eq_true rfl) (c_135A hnn hm (hF.sub (F' := [(as, .inr (4, [.ref rk, .ref nt, .ref tp, .int ln, .ref nm, .ref nl, .ref ak, .ref aw, .int bg, .int bg, .int se, .int si, .int ef, .int ep, .int sm, .int mh])), (rk, .inr (3, [.int (nI nn), .int C, .int (nI gg), .ref o]))]) [0, 1] rfl rfl)) ?_
  intro v hh hq
  obtain ⟨rfl, ehh⟩ := hq
  rw [ehh]
  clear ehh
  refine ar_aload_n 5 d_134_4 rfl rfl ?_
  refine ar_call (r := []) (na := 0) (kd := 0) (cm := 47) (fr2 := fr - 1) (lo2 := lo - 23) 8 d_134_5 (ar_hoV (as := []) rfl rfl rfl (hF.at 0 rfl)) rfl (by omega) (show lo - 23 + (19 + 4) = lo by omega) (Nat.le_of_ble_eq_true rfl) (Nat.le_of_ble_eq_true rfl) (c_47z (by omega) (by omega) hgg hg1 hnn hF) ?_
  intro v hh hq
  obtain ⟨rfl, ehh⟩ := hq
  rw [ehh]
  clear ehh
  exact ar_ret d_134_8 rfl (⟨rfl, rfl⟩)
theorem versN : ∀ i, i < 961 → ax_fill (fun _ => 0) 0 961 (-1) i < 0 := by
  intro i hi
  rw [show ax_fill (fun _ => 0) 0 961 (-1) i = -1 from if_pos ⟨Nat.zero_le i, hi⟩]
  decide
theorem q_136 {L : Nat} {xs : Nat → Int32} {fr lo s0 n nn gg cc p q : Nat} {h : ax_H} {f u b : Nat → Int32} {j : Nat} (hfr : 4 ≤ fr) (hlo : 150 ≤ lo) (hj : j < nn) (hQ : QT h s0 n nn gg cc p f q u b) : ax_M L xs 136 fr lo [.ref (n + 329 + 22 * j)] h (fun r h' => r = none ∧ QT h' s0 n nn gg cc p f q u b ∧ SZ (n + 329 + 22 * nn) h h') := by
  obtain ⟨hb, hp, ⟨c, hW⟩, ⟨ids, ms, hN, hP⟩, hD⟩ := id hQ
  have hwlt := W0.lt (s0 := s0) (n := n) (nn := nn) (gg := gg) (cc := cc) (f := f) (c := c) (e := 1) (mh := allN nn) hb.2.2.2.2.2
  by_cases e : j = p
  · subst e
    obtain ⟨hd, cl, ni, tu, md, fm, hq, ⟨k, hk, rfl⟩, ⟨t, ht, rfl⟩⟩ := hD j hj
    have hF1 := (hq.sub (F' := [(n + 329 + 22 * j, .inr (7, [.int (nI j), .ref (n + 264), .ref n, .ref (n + 329 + 22 * j + 1), .ref (n + 329 + 22 * j + 7), .ref (n + 329 + 22 * j + 6), .int 1, .int 1, .int (allN nn)])), (n + 329 + 22 * j + 1, .inr (8, [.ref (n + 329 + 22 * j + 2), .ref (n + 329 + 22 * j + 3), .ref (n + 329 + 22 * j + 4), .ref (n + 329 + 22 * j + 5), .int 0])), (n + 329 + 22 * j + 7, .inr (9, [.int (nI j), .ref (n + 264), .ref n, .ref (n + 329 + 22 * j + 10), .ref (n + 329 + 22 * j + 18), .ref (n + 329 + 22 * j + 8), .ref (n + 329 + 22 * j + 9), .int (if j = j then 1 else 0), .int (if j = j then allN nn else 0), .int hd, .int cl, .long 0, .int (nI k), .int (nI t), .int md])), (n + 329 + 22 * j + 18, .inr (10, [.ref (n + 329 + 22 * j + 10), .ref (n + 329 + 22 * j + 19), .ref (n + 329 + 22 * j + 21), .int 0, .int (-1), .int 0, .int 0, .int 0, .int 0, .int 0, .int 0, .int 0, .int 0, .int 0, .int 0])), (n + 329 + 22 * j + 10, .inr (6, [.int (nI gg), .ref (n + 329 + 22 * j + 11), .ref (n + 329 + 22 * j + 12), .ref (n + 329 + 22 * j + 13), .ref (n + 329 + 22 * j + 14), .ref (n + 329 + 22 * j + 15), .ref (n + 329 + 22 * j + 16), .ref (n + 329 + 22 * j + 17), .long 0, .int 0, .int 0])), (n + 329 + 22 * j + 16, .inl (0, 961, .inl (ax_fill (fun _ => 0) 0 961 (-1))))]) [0, 1, 7, 18, 10, 16] rfl rfl).app (hW.sub (F' := [(n + 264, .inr (3, [.int (nI nn), .int (nI cc), .int (nI gg), .ref (n + 265)])), (n + 265, .inl (0, gg * nn, .inl f))]) [1, 2] rfl rfl) (fun i k x y hx hy e => by
      have h1 := List.mem_of_getElem? hx
      have h2 := List.mem_of_getElem? hy
      simp only [List.mem_cons, List.not_mem_nil, or_false] at h1 h2
      rcases h1 with rfl | rfl | rfl | rfl | rfl | rfl <;> rcases h2 with rfl | rfl <;> dsimp only at e <;> omega)
    have hF2 := hF1.sub (F' := [(n + 329 + 22 * j, .inr (7, [.int (nI j), .ref (n + 264), .ref n, .ref (n + 329 + 22 * j + 1), .ref (n + 329 + 22 * j + 7), .ref (n + 329 + 22 * j + 6), .int 1, .int 1, .int (allN nn)])), (n + 329 + 22 * j + 1, .inr (8, [.ref (n + 329 + 22 * j + 2), .ref (n + 329 + 22 * j + 3), .ref (n + 329 + 22 * j + 4), .ref (n + 329 + 22 * j + 5), .int 0])), (n + 265, .inl (0, gg * nn, .inl f)), (n + 329 + 22 * j + 7, .inr (9, [.int (nI j), .ref (n + 264), .ref n, .ref (n + 329 + 22 * j + 10), .ref (n + 329 + 22 * j + 18), .ref (n + 329 + 22 * j + 8), .ref (n + 329 + 22 * j + 9), .int (if j = j then 1 else 0), .int (if j = j then allN nn else 0), .int hd, .int cl, .long 0, .int (nI k), .int (nI t), .int md])), (n + 329 + 22 * j + 18, .inr (10, [.ref (n + 329 + 22 * j + 10), .ref (n + 329 + 22 * j + 19), .ref (n + 329 + 22 * j + 21), .int 0, .int (-1), .int 0, .int 0, .int 0, .int 0, .int 0, .int 0, .int 0, .int 0, .int 0, .int 0])), (n + 329 + 22 * j + 10, .inr (6, [.int (nI gg), .ref (n + 329 + 22 * j + 11), .ref (n + 329 + 22 * j + 12), .ref (n + 329 + 22 * j + 13), .ref (n + 329 + 22 * j + 14), .ref (n + 329 + 22 * j + 15), .ref (n + 329 + 22 * j + 16), .ref (n + 329 + 22 * j + 17), .long 0, .int 0, .int 0])), (n + 329 + 22 * j + 16, .inl (0, 961, .inl (ax_fill (fun _ => 0) 0 961 (-1)))), (n + 264, .inr (3, [.int (nI nn), .int (nI cc), .int (nI gg), .ref (n + 265)]))]) [0, 1, 7, 2, 3, 4, 5, 6] rfl rfl
    have hn0 : 0 < h.1 := Nat.lt_of_le_of_lt (Nat.zero_le _) (ax_g_lt (hq.at 0 rfl)).2
    refine ax_A.post (c_136T (P := PQ j nn) (w := n + 1) (by omega) (by omega) (by omega) (by omega) (by omega) (by omega) hn0 hp hk ht versN (by unfold NTA; omega) (by unfold NTA; omega) (by unfold NTA; omega) (by unfold NTA; omega) (by unfold NTA; omega) (by unfold NTA; omega) (fun i hi => by rw [if_pos rfl, if_pos rfl]; exact PQ_list hi) ⟨ids, ms, hN, hP⟩ hF2) ?_
    intro r h' hz
    obtain ⟨k', t', md', rfl, hk', ht', qF, hN2, qn, qs, qf⟩ := hz
    have hfJ : ax_fr (JA n j) h h' := qf.mono (fun x hx => hx.elim Or.inl (fun z => Or.inr (by simp at z; omega)))
    refine ⟨rfl, hQ.upd hfJ hN2 ⟨hd, cl, nI k', nI t', md', fm, hq.repl 7 _ rfl qf (fun z hz hne hA => ?_) (qF.at 0 rfl) rfl, ⟨k', hk', rfl⟩, ⟨t', ht', rfl⟩⟩, qn, qs, hfJ.mono (fun x hx => JA_lt hj hx)⟩
    have := QN.lt z hz
    rcases hA with hA | hA
    · unfold NTA at hA
      omega
    · simp at hA
      exact hne hA
  · obtain ⟨hd, cl, ni, tu, md, fm, hq, hni, htu⟩ := hD j hj
    have hF1 := (hq.sub (F' := [(n + 329 + 22 * j, .inr (7, [.int (nI j), .ref (n + 264), .ref n, .ref (n + 329 + 22 * j + 1), .ref (n + 329 + 22 * j + 7), .ref (n + 329 + 22 * j + 6), .int 1, .int 1, .int (allN nn)])), (n + 329 + 22 * j + 1, .inr (8, [.ref (n + 329 + 22 * j + 2), .ref (n + 329 + 22 * j + 3), .ref (n + 329 + 22 * j + 4), .ref (n + 329 + 22 * j + 5), .int 0]))]) [0, 1] rfl rfl).app (hW.sub (F' := [(n + 264, .inr (3, [.int (nI nn), .int (nI cc), .int (nI gg), .ref (n + 265)])), (n + 265, .inl (0, gg * nn, .inl f))]) [1, 2] rfl rfl) (fun i k x y hx hy e => by
      have h1 := List.mem_of_getElem? hx
      have h2 := List.mem_of_getElem? hy
      simp only [List.mem_cons, List.not_mem_nil, or_false] at h1 h2
      rcases h1 with rfl | rfl <;> rcases h2 with rfl | rfl <;> dsimp only at e <;> omega)
    refine ax_A.post (c_136F (by omega) (by omega) (by omega) (by omega) (by omega) (fun z => e (nI_inj (by omega) (by omega) (hp.symm.trans z)).symm) hF1) ?_
    intro r h' hz
    obtain ⟨rfl, rfl⟩ := hz
    exact ⟨rfl, hQ, SZ.rf⟩
theorem qlp_133 {L : Nat} {xs : Nat → Int32} {fr lo s0 n nn gg cc p q : Nat} {f u b : Nat → Int32} {post : ax_Po} (hfr : 5 ≤ fr) (hlo : 180 ≤ lo) : ∀ (k i : Nat) (h : ax_H), i + k = nn → QT h s0 n nn gg cc p f q u b → (∀ h', QT h' s0 n nn gg cc p f q u b → SZ (n + 329 + 22 * nn) h h' → post none h') → ax_A (ax_step L xs) ((133, 9, fr, lo), [(0, .ref s0), (1, .int (nI i))], [], h) post := by
  intro k
  induction k with
  | zero =>
    intro i h hi hQ kk
    obtain ⟨hb, hp, ⟨c, hW⟩, -, hD⟩ := id hQ
    have e : i = nn := by omega
    subst e
    refine ar_iload_n 10 d_133_9 rfl rfl ?_
    refine ar_aload_n 11 d_133_10 rfl rfl ?_
    refine ar_getf 14 d_133_11 rfl (ci := 0) (k := 3) rfl (hW.at 0 rfl) rfl ?_
    refine ar_alen 15 d_133_14 rfl (hW.at 4 rfl) (by decide) ?_
    refine ar_icmp_ge 45 18 d_133_15 (by decide) rfl (fun _ => ?_) (fun c => absurd (nI_le (Nat.le_refl _) (by omega)) c)
    exact ar_ret d_133_45 rfl (kk h hQ SZ.rf)
  | succ k ih =>
    intro i h hi hQ kk
    obtain ⟨hb, hp, ⟨c, hW⟩, -, hD⟩ := id hQ
    have hin : i < nn := by omega
    obtain ⟨hd, cl, ni, tu, md, fm, hq, -⟩ := hD i hin
    refine ar_iload_n 10 d_133_9 rfl rfl ?_
    refine ar_aload_n 11 d_133_10 rfl rfl ?_
    refine ar_getf 14 d_133_11 rfl (ci := 0) (k := 3) rfl (hW.at 0 rfl) rfl ?_
    refine ar_alen 15 d_133_14 rfl (hW.at 4 rfl) (by decide) ?_
    refine ar_icmp_ge 45 18 d_133_15 (by decide) rfl (fun c => absurd c (nI_ge hin (by omega))) (fun _ => ?_)
    refine ar_aload_n 19 d_133_18 rfl rfl ?_
    refine ar_getf 22 d_133_19 rfl (ci := 0) (k := 3) rfl (hW.at 0 rfl) rfl ?_
    refine ar_iload_n 23 d_133_22 rfl rfl ?_
    refine ar_aald 24 d_133_23 rfl (hW.at 4 rfl) rfl (nI_in hin (by omega)) ?_
    refine ar_tv (v' := .ref (n + 329 + 22 * i)) (by rw [nI_clamp (by omega), if_pos hin]; rfl) ?_
    refine ar_getf 27 d_133_24 rfl (ci := 7) (k := 6) rfl (hq.at 0 rfl) rfl ?_
    refine ar_if_eq 39 30 d_133_27 (by decide) rfl (fun c => absurd c (by decide)) (fun _ => ?_)
    refine ar_aload_n 31 d_133_30 rfl rfl ?_
    refine ar_getf 34 d_133_31 rfl (ci := 0) (k := 3) rfl (hW.at 0 rfl) rfl ?_
    refine ar_iload_n 35 d_133_34 rfl rfl ?_
    refine ar_aald 36 d_133_35 rfl (hW.at 4 rfl) rfl (nI_in hin (by omega)) ?_
    refine ar_tv (v' := .ref (n + 329 + 22 * i)) (by rw [nI_clamp (by omega), if_pos hin]; rfl) ?_
    refine ar_call (r := []) (na := 0) (kd := 0) (cm := 136) (fr2 := fr - 1) (lo2 := lo - 20) 39 d_133_36 (ar_hoV (as := []) rfl rfl rfl (hq.at 0 rfl)) rfl (by omega) (show lo - 20 + (19 + 1) = lo by omega) (Nat.le_of_ble_eq_true rfl) (Nat.le_of_ble_eq_true rfl) (q_136 (by omega) (by omega) hin hQ) ?_
    intro v h2 hq
    obtain ⟨rfl, hQ2, hZ⟩ := hq
    refine ar_iinc 42 [(0, .ref s0), (1, .int (nI (i + 1)))] d_133_39 rfl rfl (nI_1 i) (by decide) rfl ?_
    refine ar_goto 9 d_133_42 (by decide) ?_
    exact ih (i + 1) h2 (by omega) hQ2 (fun h' j1 j2 => kk h' j1 (hZ.tr j2))
theorem q_133 {L : Nat} {xs : Nat → Int32} {fr lo s0 n nn gg cc p q : Nat} {h : ax_H} {f u b : Nat → Int32} (hfr : 5 ≤ fr) (hlo : 180 ≤ lo) (hQ : QT h s0 n nn gg cc p f q u b) : ax_M L xs 133 fr lo [.ref s0] h (fun r h' => r = none ∧ QT h' s0 n nn gg cc p f q u b ∧ SZ (n + 329 + 22 * nn) h h') := by
  show ax_A (ax_step L xs) ((133, 0, fr, lo), [(0, .ref s0)], [], h) _
  obtain ⟨hb, hp, ⟨c, hW⟩, -, hD⟩ := id hQ
  refine ar_aload_n 1 d_133_0 rfl rfl ?_
  refine ar_getf 4 d_133_1 rfl (ci := 0) (k := 2) rfl (hW.at 0 rfl) rfl ?_
  refine ar_call (r := []) (na := 0) (kd := 0) (cm := 134) (fr2 := fr - 1) (lo2 := lo - 20) 7 d_133_4 (ar_hoV (as := []) rfl rfl rfl (hW.at 3 rfl)) rfl (by omega) (show lo - 20 + (19 + 1) = lo by omega) (Nat.le_of_ble_eq_true rfl) (Nat.le_of_ble_eq_true rfl) (c_134z (by omega) (by omega) (by omega) (by omega) (by omega) (allN_bit nn (by omega)) (hW.sub (F' := [(n + 266, .inr (4, [.ref (n + 264), .ref n, .ref (n + 267), .int 0, .ref (n + 268), .ref (n + 269), .ref (n + 270), .ref (n + 271), .int 0, .int 0, .int 0, .int 0, .int (-1), .int 1, .int (allN nn), .int (allN nn)])), (n + 264, .inr (3, [.int (nI nn), .int (nI cc), .int (nI gg), .ref (n + 265)])), (n + 265, .inl (0, gg * nn, .inl f))]) [3, 1, 2] rfl rfl)) ?_
  intro v hh hq
  obtain ⟨rfl, ehh⟩ := hq
  rw [ehh]
  clear ehh
  refine ar_iconst 8 (v := 0) d_133_7 rfl (by decide) ?_
  refine ar_istore_n 9 [(0, .ref s0), (1, .int 0)] d_133_8 rfl (by decide) rfl ?_
  exact qlp_133 hfr hlo nn 0 h (by omega) hQ (fun h' j1 j2 => ⟨rfl, j1, j2⟩)
theorem qlp_132 {L : Nat} {xs : Nat → Int32} {fr lo s0 n nn gg cc p q N : Nat} {f u b : Nat → Int32} {post : ax_Po} (hfr : 6 ≤ fr) (hlo : 210 ≤ lo) (hN : N ≤ 50) : ∀ (k i : Nat) (h : ax_H), i + k = N → QT h s0 n nn gg cc p f q u b → (∀ h', QT h' s0 n nn gg cc p f q u b → SZ (n + 329 + 22 * nn) h h' → post (some (.int (nI N))) h') → ax_A (ax_step L xs) ((132, 20, fr, lo), [(0, .ref s0), (1, .int (nI N)), (2, .int (nI i))], [], h) post := by
  intro k
  induction k with
  | zero =>
    intro i h hi hQ kk
    have e : i = N := by omega
    subst e
    refine ar_iload_n 21 d_132_20 rfl rfl ?_
    refine ar_iload_n 22 d_132_21 rfl rfl ?_
    refine ar_icmp_ge 35 25 d_132_22 (by decide) rfl (fun _ => ?_) (fun c => absurd (Int32.le_refl _) c)
    refine ar_iload_n 36 d_132_35 rfl rfl ?_
    exact ar_iret d_132_36 rfl rfl (kk h hQ SZ.rf)
  | succ k ih =>
    intro i h hi hQ kk
    obtain ⟨hb, hp, ⟨c, hW⟩, -, hD⟩ := id hQ
    refine ar_iload_n 21 d_132_20 rfl rfl ?_
    refine ar_iload_n 22 d_132_21 rfl rfl ?_
    refine ar_icmp_ge 35 25 d_132_22 (by decide) rfl (fun c => absurd c (nI_ge (by omega) (by omega))) (fun _ => ?_)
    refine ar_aload_n 26 d_132_25 rfl rfl ?_
    refine ar_call (r := []) (na := 0) (kd := 0) (cm := 133) (fr2 := fr - 1) (lo2 := lo - 21) 29 d_132_26 (ar_hoV (as := []) rfl rfl rfl (hW.at 0 rfl)) rfl (by omega) (show lo - 21 + (19 + 2) = lo by omega) (Nat.le_of_ble_eq_true rfl) (Nat.le_of_ble_eq_true rfl) (q_133 (by omega) (by omega) hQ) ?_
    intro v h2 hq
    obtain ⟨rfl, hQ2, hZ⟩ := hq
    refine ar_iinc 32 [(0, .ref s0), (1, .int (nI N)), (2, .int (nI (i + 1)))] d_132_29 rfl rfl (nI_1 i) (by decide) rfl ?_
    refine ar_goto 20 d_132_32 (by decide) ?_
    exact ih (i + 1) h2 (by omega) hQ2 (fun h' j1 j2 => kk h' j1 (hZ.tr j2))
theorem q_132 {L : Nat} {xs : Nat → Int32} {fr lo s0 n nn gg cc p q : Nat} {h : ax_H} {f u b : Nat → Int32} {x : Int32} (hfr : 6 ≤ fr) (hlo : 210 ≤ lo) (hQ : QT h s0 n nn gg cc p f q u b) : ax_M L xs 132 fr lo [.ref s0, .int x] h (fun r h' => ((x < 1 ∨ ¬ x ≤ 50) ∧ r = some (.int (-1)) ∧ SZ (n + 329 + 22 * nn) h h') ∨ (¬ x < 1 ∧ x ≤ 50 ∧ r = some (.int x) ∧ SZ (n + 329 + 22 * nn) h h')) := by
  show ax_A (ax_step L xs) ((132, 0, fr, lo), [(0, .ref s0), (1, .int x)], [], h) _
  refine ar_iload_n 1 d_132_0 rfl rfl ?_
  refine ar_iconst 2 (v := 1) d_132_1 rfl (by decide) ?_
  refine ar_icmp_lt 11 5 d_132_2 (by decide) rfl (fun c1 => ?_) (fun c1 => ?_)
  · refine ar_iconst 12 (v := -1) d_132_11 rfl (by decide) ?_
    exact ar_iret d_132_12 rfl rfl (Or.inl ⟨Or.inl c1, rfl, SZ.rf⟩)
  · refine ar_iload_n 6 d_132_5 rfl rfl ?_
    refine ar_bipush 8 (v := 50) d_132_6 rfl (by decide) ?_
    refine ar_icmp_le 13 11 d_132_8 (by decide) rfl (fun c2 => ?_) (fun c2 => ?_)
    · obtain ⟨N, hN0, rfl⟩ := nI_of (x := x) (fun z => c1 (Int32.lt_trans z (by decide)))
      have hN : N ≤ 50 := (nI_leI (b := 50) hN0 (by omega)).mp c2
      obtain ⟨hb, hp, ⟨c, hW⟩, -, hD⟩ := id hQ
      refine ar_aload_n 14 d_132_13 rfl rfl ?_
      refine ar_iconst 15 (v := 0) d_132_14 rfl (by decide) ?_
      refine ar_putf 18 [.ref (n + 264), .ref n, .ref (n + 266), .ref (n + 328), .ref (n + 320), .ref (n + 262), .ref (n + 263), .int 0, .int 0, .int 0, .int 0] d_132_15 rfl (ci := 0) (k := 10) rfl rfl (hW.at 0 rfl) (Nat.le_of_ble_eq_true rfl) rfl rfl rfl ?_
      obtain ⟨hQ1, hZ1⟩ := hQ.calm (c := 0)
      generalize ax_put h s0 (.inr (0, [.ref (n + 264), .ref n, .ref (n + 266), .ref (n + 328), .ref (n + 320), .ref (n + 262), .ref (n + 263), .int 0, .int 0, .int 0, .int 0])) = h1 at hQ1 hZ1 ⊢
      refine ar_iconst 19 (v := 0) d_132_18 rfl (by decide) ?_
      refine ar_istore_n 20 [(0, .ref s0), (1, .int (nI N)), (2, .int 0)] d_132_19 rfl (by decide) rfl ?_
      exact qlp_132 hfr hlo hN N 0 h1 (by omega) hQ1 (fun h' j1 j2 => Or.inr ⟨c1, c2, rfl, hZ1.tr j2⟩)
    · refine ar_iconst 12 (v := -1) d_132_11 rfl (by decide) ?_
      exact ar_iret d_132_12 rfl rfl (Or.inl ⟨Or.inr c2, rfl, SZ.rf⟩)

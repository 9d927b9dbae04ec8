/-! the quiet store: tick, deliver, lose, twice, stir -/
theorem d_129_0 : decode (axt_b 129) 0 = .ok (.aload_n 0, 1) := by decide +kernel
theorem d_129_1 : decode (axt_b 129) 1 = .ok (.iconst 0, 1) := by decide +kernel
theorem d_129_2 : decode (axt_b 129) 2 = .ok (.putfield 99, 3) := by decide +kernel
theorem d_129_5 : decode (axt_b 129) 5 = .ok (.aload_n 0, 1) := by decide +kernel
theorem d_129_6 : decode (axt_b 129) 6 = .ok (.getfield 12, 3) := by decide +kernel
theorem d_129_9 : decode (axt_b 129) 9 = .ok (.getfield 106, 3) := by decide +kernel
theorem d_129_12 : decode (axt_b 129) 12 = .ok (.ifCond .le 22, 3) := by decide +kernel
theorem d_129_15 : decode (axt_b 129) 15 = .ok (.aload_n 0, 1) := by decide +kernel
theorem d_129_16 : decode (axt_b 129) 16 = .ok (.getfield 12, 3) := by decide +kernel
theorem d_129_19 : decode (axt_b 129) 19 = .ok (.iload_n 1, 1) := by decide +kernel
theorem d_129_20 : decode (axt_b 129) 20 = .ok (.aload_n 0, 1) := by decide +kernel
theorem d_129_21 : decode (axt_b 129) 21 = .ok (.getfield 12, 3) := by decide +kernel
theorem d_129_24 : decode (axt_b 129) 24 = .ok (.getfield 106, 3) := by decide +kernel
theorem d_129_27 : decode (axt_b 129) 27 = .ok (.invokestatic 109, 3) := by decide +kernel
theorem d_129_30 : decode (axt_b 129) 30 = .ok (.invokevirtual 115, 3) := by decide +kernel
theorem d_129_33 : decode (axt_b 129) 33 = .ok (.pop, 1) := by decide +kernel
theorem d_129_34 : decode (axt_b 129) 34 = .ok (.return_, 1) := by decide +kernel
theorem d_130_0 : decode (axt_b 130) 0 = .ok (.aload_n 0, 1) := by decide +kernel
theorem d_130_1 : decode (axt_b 130) 1 = .ok (.iconst 0, 1) := by decide +kernel
theorem d_130_2 : decode (axt_b 130) 2 = .ok (.putfield 99, 3) := by decide +kernel
theorem d_130_5 : decode (axt_b 130) 5 = .ok (.aload_n 0, 1) := by decide +kernel
theorem d_130_6 : decode (axt_b 130) 6 = .ok (.getfield 12, 3) := by decide +kernel
theorem d_130_9 : decode (axt_b 130) 9 = .ok (.getfield 106, 3) := by decide +kernel
theorem d_130_12 : decode (axt_b 130) 12 = .ok (.ifCond .le 26, 3) := by decide +kernel
theorem d_130_15 : decode (axt_b 130) 15 = .ok (.aload_n 0, 1) := by decide +kernel
theorem d_130_16 : decode (axt_b 130) 16 = .ok (.aload_n 0, 1) := by decide +kernel
theorem d_130_17 : decode (axt_b 130) 17 = .ok (.getfield 12, 3) := by decide +kernel
theorem d_130_20 : decode (axt_b 130) 20 = .ok (.getfield 123, 3) := by decide +kernel
theorem d_130_23 : decode (axt_b 130) 23 = .ok (.iload_n 1, 1) := by decide +kernel
theorem d_130_24 : decode (axt_b 130) 24 = .ok (.aload_n 0, 1) := by decide +kernel
theorem d_130_25 : decode (axt_b 130) 25 = .ok (.getfield 12, 3) := by decide +kernel
theorem d_130_28 : decode (axt_b 130) 28 = .ok (.getfield 106, 3) := by decide +kernel
theorem d_130_31 : decode (axt_b 130) 31 = .ok (.invokestatic 109, 3) := by decide +kernel
theorem d_130_34 : decode (axt_b 130) 34 = .ok (.aaload, 1) := by decide +kernel
theorem d_130_35 : decode (axt_b 130) 35 = .ok (.invokevirtual 119, 3) := by decide +kernel
theorem d_130_38 : decode (axt_b 130) 38 = .ok (.return_, 1) := by decide +kernel
theorem d_131_0 : decode (axt_b 131) 0 = .ok (.iload_n 1, 1) := by decide +kernel
theorem d_131_1 : decode (axt_b 131) 1 = .ok (.iconst 1, 1) := by decide +kernel
theorem d_131_2 : decode (axt_b 131) 2 = .ok (.if_icmp .lt 10, 3) := by decide +kernel
theorem d_131_5 : decode (axt_b 131) 5 = .ok (.iload_n 1, 1) := by decide +kernel
theorem d_131_6 : decode (axt_b 131) 6 = .ok (.sipush 500, 3) := by decide +kernel
theorem d_131_9 : decode (axt_b 131) 9 = .ok (.if_icmp .le 5, 3) := by decide +kernel
theorem d_131_12 : decode (axt_b 131) 12 = .ok (.iconst (-1), 1) := by decide +kernel
theorem d_131_13 : decode (axt_b 131) 13 = .ok (.ireturn, 1) := by decide +kernel
theorem d_131_14 : decode (axt_b 131) 14 = .ok (.aload_n 0, 1) := by decide +kernel
theorem d_131_15 : decode (axt_b 131) 15 = .ok (.iconst 0, 1) := by decide +kernel
theorem d_131_16 : decode (axt_b 131) 16 = .ok (.putfield 99, 3) := by decide +kernel
theorem d_131_19 : decode (axt_b 131) 19 = .ok (.iload_n 2, 1) := by decide +kernel
theorem d_131_20 : decode (axt_b 131) 20 = .ok (.istore_n 3, 1) := by decide +kernel
theorem d_131_21 : decode (axt_b 131) 21 = .ok (.iconst 0, 1) := by decide +kernel
theorem d_131_22 : decode (axt_b 131) 22 = .ok (.istore 4, 2) := by decide +kernel
theorem d_131_24 : decode (axt_b 131) 24 = .ok (.iload 4, 2) := by decide +kernel
theorem d_131_26 : decode (axt_b 131) 26 = .ok (.iload_n 1, 1) := by decide +kernel
theorem d_131_27 : decode (axt_b 131) 27 = .ok (.if_icmp .ge 93, 3) := by decide +kernel
theorem d_131_30 : decode (axt_b 131) 30 = .ok (.aload_n 0, 1) := by decide +kernel
theorem d_131_31 : decode (axt_b 131) 31 = .ok (.getfield 12, 3) := by decide +kernel
theorem d_131_34 : decode (axt_b 131) 34 = .ok (.getfield 106, 3) := by decide +kernel
theorem d_131_37 : decode (axt_b 131) 37 = .ok (.ifCond .le 83, 3) := by decide +kernel
theorem d_131_40 : decode (axt_b 131) 40 = .ok (.iload_n 3, 1) := by decide +kernel
theorem d_131_41 : decode (axt_b 131) 41 = .ok (.ldc 127, 2) := by decide +kernel
theorem d_131_43 : decode (axt_b 131) 43 = .ok (.imul, 1) := by decide +kernel
theorem d_131_44 : decode (axt_b 131) 44 = .ok (.sipush 12345, 3) := by decide +kernel
theorem d_131_47 : decode (axt_b 131) 47 = .ok (.iadd, 1) := by decide +kernel
theorem d_131_48 : decode (axt_b 131) 48 = .ok (.istore_n 3, 1) := by decide +kernel
theorem d_131_49 : decode (axt_b 131) 49 = .ok (.iload_n 3, 1) := by decide +kernel
theorem d_131_50 : decode (axt_b 131) 50 = .ok (.bipush 8, 2) := by decide +kernel
theorem d_131_52 : decode (axt_b 131) 52 = .ok (.iushr, 1) := by decide +kernel
theorem d_131_53 : decode (axt_b 131) 53 = .ok (.aload_n 0, 1) := by decide +kernel
theorem d_131_54 : decode (axt_b 131) 54 = .ok (.getfield 12, 3) := by decide +kernel
theorem d_131_57 : decode (axt_b 131) 57 = .ok (.getfield 106, 3) := by decide +kernel
theorem d_131_60 : decode (axt_b 131) 60 = .ok (.irem, 1) := by decide +kernel
theorem d_131_61 : decode (axt_b 131) 61 = .ok (.istore 5, 2) := by decide +kernel
theorem d_131_63 : decode (axt_b 131) 63 = .ok (.iload_n 3, 1) := by decide +kernel
theorem d_131_64 : decode (axt_b 131) 64 = .ok (.bipush 28, 2) := by decide +kernel
theorem d_131_66 : decode (axt_b 131) 66 = .ok (.iushr, 1) := by decide +kernel
theorem d_131_67 : decode (axt_b 131) 67 = .ok (.istore 6, 2) := by decide +kernel
theorem d_131_69 : decode (axt_b 131) 69 = .ok (.iload 6, 2) := by decide +kernel
theorem d_131_71 : decode (axt_b 131) 71 = .ok (.ifCond .ne 20, 3) := by decide +kernel
theorem d_131_74 : decode (axt_b 131) 74 = .ok (.aload_n 0, 1) := by decide +kernel
theorem d_131_75 : decode (axt_b 131) 75 = .ok (.aload_n 0, 1) := by decide +kernel
theorem d_131_76 : decode (axt_b 131) 76 = .ok (.getfield 12, 3) := by decide +kernel
theorem d_131_79 : decode (axt_b 131) 79 = .ok (.getfield 123, 3) := by decide +kernel
theorem d_131_82 : decode (axt_b 131) 82 = .ok (.iload 5, 2) := by decide +kernel
theorem d_131_84 : decode (axt_b 131) 84 = .ok (.aaload, 1) := by decide +kernel
theorem d_131_85 : decode (axt_b 131) 85 = .ok (.invokevirtual 119, 3) := by decide +kernel
theorem d_131_88 : decode (axt_b 131) 88 = .ok (.goto 26, 3) := by decide +kernel
theorem d_131_91 : decode (axt_b 131) 91 = .ok (.aload_n 0, 1) := by decide +kernel
theorem d_131_92 : decode (axt_b 131) 92 = .ok (.getfield 12, 3) := by decide +kernel
theorem d_131_95 : decode (axt_b 131) 95 = .ok (.iload 5, 2) := by decide +kernel
theorem d_131_97 : decode (axt_b 131) 97 = .ok (.invokevirtual 115, 3) := by decide +kernel
theorem d_131_100 : decode (axt_b 131) 100 = .ok (.astore 7, 2) := by decide +kernel
theorem d_131_102 : decode (axt_b 131) 102 = .ok (.iload 6, 2) := by decide +kernel
theorem d_131_104 : decode (axt_b 131) 104 = .ok (.iconst 2, 1) := by decide +kernel
theorem d_131_105 : decode (axt_b 131) 105 = .ok (.if_icmp .le 9, 3) := by decide +kernel
theorem d_131_108 : decode (axt_b 131) 108 = .ok (.aload_n 0, 1) := by decide +kernel
theorem d_131_109 : decode (axt_b 131) 109 = .ok (.aload 7, 2) := by decide +kernel
theorem d_131_111 : decode (axt_b 131) 111 = .ok (.invokevirtual 119, 3) := by decide +kernel
theorem d_131_114 : decode (axt_b 131) 114 = .ok (.iinc 4 1, 3) := by decide +kernel
theorem d_131_117 : decode (axt_b 131) 117 = .ok (.goto (-93), 3) := by decide +kernel
theorem d_131_120 : decode (axt_b 131) 120 = .ok (.iload_n 1, 1) := by decide +kernel
theorem d_131_121 : decode (axt_b 131) 121 = .ok (.ireturn, 1) := by decide +kernel
theorem d_132_0 : decode (axt_b 132) 0 = .ok (.iload_n 1, 1) := by decide +kernel
theorem d_132_1 : decode (axt_b 132) 1 = .ok (.iconst 1, 1) := by decide +kernel
theorem d_132_2 : decode (axt_b 132) 2 = .ok (.if_icmp .lt 9, 3) := by decide +kernel
theorem d_132_5 : decode (axt_b 132) 5 = .ok (.iload_n 1, 1) := by decide +kernel
theorem d_132_6 : decode (axt_b 132) 6 = .ok (.bipush 50, 2) := by decide +kernel
theorem d_132_8 : decode (axt_b 132) 8 = .ok (.if_icmp .le 5, 3) := by decide +kernel
theorem d_132_11 : decode (axt_b 132) 11 = .ok (.iconst (-1), 1) := by decide +kernel
theorem d_132_12 : decode (axt_b 132) 12 = .ok (.ireturn, 1) := by decide +kernel
theorem d_132_13 : decode (axt_b 132) 13 = .ok (.aload_n 0, 1) := by decide +kernel
theorem d_132_14 : decode (axt_b 132) 14 = .ok (.iconst 0, 1) := by decide +kernel
theorem d_132_15 : decode (axt_b 132) 15 = .ok (.putfield 99, 3) := by decide +kernel
theorem d_132_18 : decode (axt_b 132) 18 = .ok (.iconst 0, 1) := by decide +kernel
theorem d_132_19 : decode (axt_b 132) 19 = .ok (.istore_n 2, 1) := by decide +kernel
theorem d_132_20 : decode (axt_b 132) 20 = .ok (.iload_n 2, 1) := by decide +kernel
theorem d_132_21 : decode (axt_b 132) 21 = .ok (.iload_n 1, 1) := by decide +kernel
theorem d_132_22 : decode (axt_b 132) 22 = .ok (.if_icmp .ge 13, 3) := by decide +kernel
theorem d_132_25 : decode (axt_b 132) 25 = .ok (.aload_n 0, 1) := by decide +kernel
theorem d_132_26 : decode (axt_b 132) 26 = .ok (.invokevirtual 128, 3) := by decide +kernel
theorem d_132_29 : decode (axt_b 132) 29 = .ok (.iinc 2 1, 3) := by decide +kernel
theorem d_132_32 : decode (axt_b 132) 32 = .ok (.goto (-12), 3) := by decide +kernel
theorem d_132_35 : decode (axt_b 132) 35 = .ok (.iload_n 1, 1) := by decide +kernel
theorem d_132_36 : decode (axt_b 132) 36 = .ok (.ireturn, 1) := by decide +kernel
theorem d_133_0 : decode (axt_b 133) 0 = .ok (.aload_n 0, 1) := by decide +kernel
theorem d_133_1 : decode (axt_b 133) 1 = .ok (.getfield 41, 3) := by decide +kernel
theorem d_133_4 : decode (axt_b 133) 4 = .ok (.invokevirtual 282, 3) := by decide +kernel
theorem d_133_7 : decode (axt_b 133) 7 = .ok (.iconst 0, 1) := by decide +kernel
theorem d_133_8 : decode (axt_b 133) 8 = .ok (.istore_n 1, 1) := by decide +kernel
theorem d_133_9 : decode (axt_b 133) 9 = .ok (.iload_n 1, 1) := by decide +kernel
theorem d_133_10 : decode (axt_b 133) 10 = .ok (.aload_n 0, 1) := by decide +kernel
theorem d_133_11 : decode (axt_b 133) 11 = .ok (.getfield 63, 3) := by decide +kernel
theorem d_133_14 : decode (axt_b 133) 14 = .ok (.arraylength, 1) := by decide +kernel
theorem d_133_15 : decode (axt_b 133) 15 = .ok (.if_icmp .ge 30, 3) := by decide +kernel
theorem d_133_18 : decode (axt_b 133) 18 = .ok (.aload_n 0, 1) := by decide +kernel
theorem d_133_19 : decode (axt_b 133) 19 = .ok (.getfield 63, 3) := by decide +kernel
theorem d_133_22 : decode (axt_b 133) 22 = .ok (.iload_n 1, 1) := by decide +kernel
theorem d_133_23 : decode (axt_b 133) 23 = .ok (.aaload, 1) := by decide +kernel
theorem d_133_24 : decode (axt_b 133) 24 = .ok (.getfield 131, 3) := by decide +kernel
theorem d_133_27 : decode (axt_b 133) 27 = .ok (.ifCond .eq 12, 3) := by decide +kernel
theorem d_133_30 : decode (axt_b 133) 30 = .ok (.aload_n 0, 1) := by decide +kernel
theorem d_133_31 : decode (axt_b 133) 31 = .ok (.getfield 63, 3) := by decide +kernel
theorem d_133_34 : decode (axt_b 133) 34 = .ok (.iload_n 1, 1) := by decide +kernel
theorem d_133_35 : decode (axt_b 133) 35 = .ok (.aaload, 1) := by decide +kernel
theorem d_133_36 : decode (axt_b 133) 36 = .ok (.invokevirtual 285, 3) := by decide +kernel
theorem d_133_39 : decode (axt_b 133) 39 = .ok (.iinc 1 1, 3) := by decide +kernel
theorem d_133_42 : decode (axt_b 133) 42 = .ok (.goto (-33), 3) := by decide +kernel
theorem d_133_45 : decode (axt_b 133) 45 = .ok (.return_, 1) := by decide +kernel
theorem d_134_0 : decode (axt_b 134) 0 = .ok (.aload_n 0, 1) := by decide +kernel
theorem d_134_1 : decode (axt_b 134) 1 = .ok (.invokevirtual 134, 3) := by decide +kernel
theorem d_134_4 : decode (axt_b 134) 4 = .ok (.aload_n 0, 1) := by decide +kernel
theorem d_134_5 : decode (axt_b 134) 5 = .ok (.invokevirtual 109, 3) := by decide +kernel
theorem d_134_8 : decode (axt_b 134) 8 = .ok (.return_, 1) := by decide +kernel
theorem QT.net {h h' : ax_H} {s0 n nn gg cc p q q' : Nat} {f u b u' b' : Nat → Int32} {ids : List Nat} {ms : List Mg} (hQ : QT h s0 n nn gg cc p f q u b) (hf : ax_fr (NTA n (n + 1)) h h') (hN : NTL h' n (n + 1) ids ms q' u' b') (hP : ∀ x ∈ ms, PQ p nn x.1) : QT h' s0 n nn gg cc p f q' u' b' := by
  obtain ⟨hb, hp, ⟨c, hW⟩, -, hD⟩ := hQ
  refine ⟨hb, hp, ⟨c, hW.fr hf (fun z hz hA => ?_)⟩, ⟨ids, ms, hN, hP⟩, fun k hk => ?_⟩
  · have := W0.lt hb.2.2.2.2.2 z hz
    unfold NTA at hA
    omega
  · obtain ⟨hd, cl, ni, tu, md, fm, h1, h2⟩ := hD k hk
    refine ⟨hd, cl, ni, tu, md, fm, h1.fr hf (fun z hz hA => ?_), h2⟩
    have := QN.lt z hz
    unfold NTA at hA
    omega
theorem SZ.net {h h' : ax_H} {n nn : Nat} (hf : ax_fr (NTA n (n + 1)) h h') (h1 : h'.1 = h.1) (h2 : h'.2.1 = h.2.1) : SZ (n + 329 + 22 * nn) h h' := ⟨h1, h2, hf.mono (fun x hx => by unfold NTA at hx; omega)⟩
theorem QT.calm {h : ax_H} {s0 n nn gg cc p q : Nat} {f u b : Nat → Int32} {c : Int32} (hQ : QT h s0 n nn gg cc p f q u b) : QT (ax_put h s0 (.inr (0, [.ref (n + 264), .ref n, .ref (n + 266), .ref (n + 328), .ref (n + 320), .ref (n + 262), .ref (n + 263), .int 0, .int 0, .int 0, .int c]))) s0 n nn gg cc p f q u b ∧ SZ (n + 329 + 22 * nn) h (ax_put h s0 (.inr (0, [.ref (n + 264), .ref n, .ref (n + 266), .ref (n + 328), .ref (n + 320), .ref (n + 262), .ref (n + 263), .int 0, .int 0, .int 0, .int c]))) := by
  obtain ⟨hb, hp, ⟨c0, hW⟩, ⟨ids, ms, hN, hP⟩, hD⟩ := hQ
  have hf : ax_fr (fun x => x = s0) h (ax_put h s0 (.inr (0, [.ref (n + 264), .ref n, .ref (n + 266), .ref (n + 328), .ref (n + 320), .ref (n + 262), .ref (n + 263), .int 0, .int 0, .int 0, .int c]))) := ax_fr.rf.put rfl
  refine ⟨⟨hb, hp, ⟨c, hW.put 0 _ rfl rfl⟩, ⟨ids, ms, hN.fr hf (fun x hx hA => ?_), hP⟩, fun k hk => ?_⟩, rfl, rfl, hf.mono (fun x hx => by omega)⟩
  · unfold NTA at hx
    omega
  · obtain ⟨hd, cl, ni, tu, md, fm, h1, h2⟩ := hD k hk
    refine ⟨hd, cl, ni, tu, md, fm, h1.fr hf (fun z hz hA => ?_), h2⟩
    have := QN.lt z hz
    omega

/-! the law's loop: its head, its end, its next round -/
theorem law_h {L : Nat} {xs : Nat → Int32} {s0 m : Nat} {x : Int32} {h : ax_H} {post : ax_Po} (hp : Int32.ofNat L - 6 < x → post (some (.int 1)) h) (kk : ¬ (Int32.ofNat L - 6 < x) → ax_A (ax_step L xs) ((219, 57, 11, 394), [(0, .ref 0), (1, .ref s0), (2, .ref m), (3, .int x)], [], h) post) : ax_A (ax_step L xs) ((219, 48, 11, 394), [(0, .ref 0), (1, .ref s0), (2, .ref m), (3, .int x)], [], h) post := by
  refine ar_iload_n 49 d_219_48 rfl rfl ?_
  refine ar_aload_n 50 d_219_49 rfl rfl ?_
  refine ar_slen 51 d_219_50 rfl ?_
  refine ar_bipush 53 (v := 6) d_219_51 rfl (by decide) ?_
  refine ar_isub 54 d_219_53 rfl ?_
  refine ar_icmp_gt 810 57 d_219_54 (by decide) rfl (fun c => ?_) (fun c => ?_)
  · refine ar_iconst 811 (v := 1) d_219_810 rfl (by decide) ?_
    exact ar_iret d_219_811 rfl rfl (hp c)
  · exact kk c
theorem law_n {L : Nat} {xs : Nat → Int32} {s0 m : Nat} {x : Int32} {h : ax_H} {post : ax_Po} (kk : ax_A (ax_step L xs) ((219, 48, 11, 394), [(0, .ref 0), (1, .ref s0), (2, .ref m), (3, .int (x + 6))], [], h) post) : ax_A (ax_step L xs) ((219, 804, 11, 394), [(0, .ref 0), (1, .ref s0), (2, .ref m), (3, .int x)], [], h) post := by
  refine ar_iinc 807 [(0, .ref 0), (1, .ref s0), (2, .ref m), (3, .int (x + 6))] d_219_804 rfl rfl (rfl) (by decide) rfl ?_
  refine ar_goto 48 d_219_807 (by decide) ?_
  exact kk

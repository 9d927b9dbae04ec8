/-! each call of the reference from a state M: what it answers, and which state it leaves -/
theorem vk_20 (M : Nat → Nat → Int32) (a b : Int32) : va_up M 0 (upd (upd (M 0) 37 a) 38 b) 0 20 = M 0 20 ∧ va_up M 0 (upd (upd (M 0) 37 a) 38 b) 0 21 = M 0 21 := ⟨rfl, rfl⟩
def feM (a b c d e : Int32) (M : Nat → Nat → Int32) (y : Int32) (M' : Nat → Nat → Int32) : Prop := ∃ l : Nat, l ≤ 2048 ∧ M 0 9 = nI l ∧ ((2048 < l + 20 ∧ y = -4 ∧ M' = M) ∨ (l + 20 ≤ 2048 ∧ y = nI (l + 20) ∧ M' = fdM M l a b c d e))
def enM (x : Int32) (M : Nat → Nat → Int32) (y : Int32) (M' : Nat → Nat → Int32) : Prop := ∃ l : Nat, l ≤ 2048 ∧ M 0 9 = nI l ∧ (((x < 0 ∨ nI l < x) ∧ y = -1 ∧ M' = M) ∨ (¬ x < 0 ∧ x ≤ nI l ∧ y = x ∧ M' = va_up M 0 (upd (M 0) 9 x)))
def naM (x : Int32) (M : Nat → Nat → Int32) (y : Int32) (M' : Nat → Nat → Int32) : Prop := ∃ l : Nat, l ≤ 2048 ∧ M 0 9 = nI l ∧ (((x < 0 ∨ 1 < x ∨ 200 < l) ∧ y = -1 ∧ M' = M) ∨ ∃ k : Nat, k < 2 ∧ l ≤ 200 ∧ x = nI k ∧ y = nI l ∧ M' = nmM M k l)
def beM (kd a b : Int32) (M : Nat → Nat → Int32) (y : Int32) (M' : Nat → Nat → Int32) : Prop := ∃ l op wt : Nat, l ≤ 2048 ∧ M 0 9 = nI l ∧ M 0 25 = nI op ∧ op < 512 ∧ M 0 26 = nI wt ∧ wt ≤ 12 ∧ ((¬ mayA (M 11 0) (M 11 1) kd a b ∧ y = -1 ∧ M' = M) ∨ (mayA (M 11 0) (M 11 1) kd a b ∧ wt = 12 ∧ y = -4 ∧ M' = M) ∨ (mayA (M 11 0) (M 11 1) kd a b ∧ ¬ wt = 12 ∧ y = nI op ∧ M' = bgM M wt op l kd a b))
def ncM (M : Nat → Nat → Int32) : Nat → Nat → Int32 := va_up M 0 (upd (M 0) 7 0)
def siM (b x : Int32) (M : Nat → Nat → Int32) (y : Int32) (M' : Nat → Nat → Int32) : Prop := ((x < 1 ∨ ¬ x ≤ b) ∧ y = -1 ∧ M' = M) ∨ (¬ x < 1 ∧ x ≤ b ∧ y = x ∧ M' = ncM M)
def upM (M : Nat → Nat → Int32) (x : Int32) : Nat → Nat → Int32 := va_up M 0 (upd (upd (M 0) 3 ((M 0 3) ^^^ ((1 : Int32) <<< (x &&& 31)))) 7 0)
def crM (x : Int32) (M : Nat → Nat → Int32) (y : Int32) (M' : Nat → Nat → Int32) : Prop := (¬ upQ M x ∧ y = 0 ∧ M' = M) ∨ (upQ M x ∧ y = 1 ∧ M' = upM M x)
def reM (x : Int32) (M : Nat → Nat → Int32) (y : Int32) (M' : Nat → Nat → Int32) : Prop := (¬ dnQ M x ∧ y = 0 ∧ M' = M) ∨ (dnQ M x ∧ y = 1 ∧ M' = upM M x)
def maM (x : Int32) (M : Nat → Nat → Int32) (y : Int32) (M' : Nat → Nat → Int32) : Prop := y = M 0 5 + 1 ∧ M' = va_up M 0 (upd (upd (upd (M 0) 4 (x &&& (((1 : Int32) <<< (M 0 0 &&& 31)) - 1))) 5 (M 0 5 + 1)) 7 0)
def rpM (x : Int32) (M : Nat → Nat → Int32) (y : Int32) (M' : Nat → Nat → Int32) : Prop := ((¬ dnQ M x ∨ M 0 6 = M 0 1 - 1) ∧ y = 0 ∧ M' = M) ∨ (dnQ M x ∧ ¬ M 0 6 = M 0 1 - 1 ∧ y = 1 ∧ M' = va_up M 0 (upd (upd (upd (M 0) 6 (M 0 6 + 1)) 5 (M 0 5 + 1)) 7 0))
theorem rq_176 {L : Nat} {xs : Nat → Int32} {fr lo : Nat} {nn cc gg cl m p al AL : Nat} {h : ax_H} {M : Nat → Nat → Int32} {xa xb xc xd xe : Int32} (hfr : 1 ≤ fr) (hlo : 40 ≤ lo) (hcc : cc ≤ nn) (hnn : nn ≤ 6) (hgg1 : 1 ≤ gg) (hgg : gg ≤ 16) (hcl : cl < 512) (hP : RP nn cc gg cl m p h al AL M) : ax_M L xs 176 fr lo [.ref m, .int xa, .int xb, .int xc, .int xd, .int xe] h (fun r h' => ∃ (y : Int32) (al' AL' : Nat) (M' : Nat → Nat → Int32), r = some (.int y) ∧ RP nn cc gg (cl + 1) m p h' al' AL' M' ∧ SZr m AL h h' AL' ∧ feM xa xb xc xd xe M y M') := by
  obtain ⟨hS, hC, hI⟩ := hP
  have hI1 := hI.up (Nat.le_succ cl)
  obtain ⟨l, hl, e9⟩ := hI.len
  refine ax_A.post (r_176 hfr hlo hC hS e9 hl) (fun r h' hq => ?_)
  rcases hq with ⟨hq20, rfl, hS2⟩ | ⟨h20, rfl, hS2⟩
  · exact ⟨_, _, _, _, rfl, ⟨hS2.self, hC, hI1⟩, hS2.szr, ⟨l, hl, e9, Or.inl ⟨hq20, rfl, rfl⟩⟩⟩
  · exact ⟨_, _, _, _, rfl, ⟨hS2.self, hC, hI1.f0 (M' := fdM M l xa xb xc xd xe) (fun k hk => by rcases hk with rfl | rfl | rfl | rfl | rfl | rfl | rfl | rfl <;> rfl) (fun k k0 k8 _ _ => fdM_k k0 k8) ⟨l + 20, by omega, rfl⟩ hI1.2.2.1 hI1.2.2.2.2.2.2.2.1⟩, hS2.szr, ⟨l, hl, e9, Or.inr ⟨h20, rfl, rfl⟩⟩⟩
theorem rq_178 {L : Nat} {xs : Nat → Int32} {fr lo : Nat} {nn cc gg cl m p al AL : Nat} {h : ax_H} {M : Nat → Nat → Int32} {x : Int32} (hfr : 0 ≤ fr) (hlo : 0 ≤ lo) (hcc : cc ≤ nn) (hnn : nn ≤ 6) (hgg1 : 1 ≤ gg) (hgg : gg ≤ 16) (hcl : cl < 512) (hP : RP nn cc gg cl m p h al AL M) : ax_M L xs 178 fr lo [.ref m, .int x] h (fun r h' => ∃ (y : Int32) (al' AL' : Nat) (M' : Nat → Nat → Int32), r = some (.int y) ∧ RP nn cc gg (cl + 1) m p h' al' AL' M' ∧ SZr m AL h h' AL' ∧ enM x M y M') := by
  obtain ⟨hS, hC, hI⟩ := hP
  have hI1 := hI.up (Nat.le_succ cl)
  obtain ⟨l, hl, e9⟩ := hI.len
  refine ax_A.post (r_178 hfr hlo hC hS e9 hl) (fun r h' hq => ?_)
  rcases hq with ⟨hx, rfl, hS2⟩ | ⟨x1, x2, rfl, hS2⟩
  · exact ⟨_, _, _, _, rfl, ⟨hS2.self, hC, hI1⟩, hS2.szr, ⟨l, hl, e9, Or.inl ⟨hx, rfl, rfl⟩⟩⟩
  · obtain ⟨j, hj, rfl⟩ := natOf x1
    exact ⟨_, _, _, _, rfl, ⟨hS2.self, hC, hI1.f0 (fun k hk => by show upd (M 0) 9 _ k = _; exact pk_un (by omega)) ea0 ⟨j, by have := (nI_leI hj (show l < 2 ^ 31 by omega)).mp x2; omega, rfl⟩ hI1.2.2.1 hI1.2.2.2.2.2.2.2.1⟩, hS2.szr, ⟨l, hl, e9, Or.inr ⟨x1, x2, rfl, rfl⟩⟩⟩
theorem rq_179 {L : Nat} {xs : Nat → Int32} {fr lo : Nat} {nn cc gg cl m p al AL : Nat} {h : ax_H} {M : Nat → Nat → Int32} {x : Int32} (hfr : 0 ≤ fr) (hlo : 0 ≤ lo) (hcc : cc ≤ nn) (hnn : nn ≤ 6) (hgg1 : 1 ≤ gg) (hgg : gg ≤ 16) (hcl : cl < 512) (hP : RP nn cc gg cl m p h al AL M) : ax_M L xs 179 fr lo [.ref m, .int x] h (fun r h' => ∃ (y : Int32) (al' AL' : Nat) (M' : Nat → Nat → Int32), r = some (.int y) ∧ RP nn cc gg (cl + 1) m p h' al' AL' M' ∧ SZr m AL h h' AL' ∧ naM x M y M') := by
  obtain ⟨hS, hC, hI⟩ := hP
  have hI1 := hI.up (Nat.le_succ cl)
  obtain ⟨l, hl, e9⟩ := hI.len
  refine ax_A.post (r_179 hfr hlo hC hS e9 hl) (fun r h' hq => ?_)
  rcases hq with ⟨hx, rfl, hS2⟩ | ⟨k, hk, hl2, rfl, rfl, hS2⟩
  · exact ⟨_, _, _, _, rfl, ⟨hS2.self, hC, hI1⟩, hS2.szr, ⟨l, hl, e9, Or.inl ⟨hx, rfl, rfl⟩⟩⟩
  · have hn : ∀ j, inR 201 (M 11 j) → inR 201 (nmM M k l 11 j) := fun j h1 => by
      show inR 201 (upd (M 11) k (nI l) j)
      by_cases z : j = k
      · rw [z, pk_us]; exact ⟨l, by omega, rfl⟩
      · rw [pk_un z]; exact h1
    exact ⟨_, _, _, _, rfl, ⟨hS2.self, hC, hI1.f0 (M' := nmM M k l) (fun k hk => by show upd (M 0) 9 _ k = _; exact pk_un (by omega)) (fun k k0 k8 k10 k11 => by unfold nmM; rw [va_up_n _ _ k11, va_up_n _ _ k10, va_up_n _ _ k0]) ⟨0, by decide, rfl⟩ ⟨hn 0 hI1.2.2.1.1, hn 1 hI1.2.2.1.2⟩ hI1.2.2.2.2.2.2.2.1⟩, hS2.szr, ⟨l, hl, e9, Or.inr ⟨k, hk, hl2, rfl, rfl, rfl⟩⟩⟩
theorem rq_180 {L : Nat} {xs : Nat → Int32} {fr lo : Nat} {nn cc gg cl m p al AL : Nat} {h : ax_H} {M : Nat → Nat → Int32} {x y0 z : Int32} (hfr : 0 ≤ fr) (hlo : 0 ≤ lo) (hcc : cc ≤ nn) (hnn : nn ≤ 6) (hgg1 : 1 ≤ gg) (hgg : gg ≤ 16) (hcl : cl < 512) (hP : RP nn cc gg cl m p h al AL M) : ax_M L xs 180 fr lo [.ref m, .int x, .int y0, .int z] h (fun r h' => ∃ (y : Int32) (al' AL' : Nat) (M' : Nat → Nat → Int32), r = some (.int y) ∧ RP nn cc gg (cl + 1) m p h' al' AL' M' ∧ SZr m AL h h' AL' ∧ beM x y0 z M y M') := by
  obtain ⟨hS, hC, hI⟩ := hP
  have hI1 := hI.up (Nat.le_succ cl)
  obtain ⟨l, hl, e9⟩ := hI.len
  obtain ⟨op, wt, a1, a2, a3, a4, a5, a6, a7⟩ := id hI.2.2.2.2.1
  refine ax_A.post (r_180 hfr hlo hC hS e9 hl a2 a3 a1 (by omega)) (fun r h' hq => ?_)
  rcases hq with ⟨hm1, rfl, hS2⟩ | ⟨hm1, hw1, rfl, hS2⟩ | ⟨hma, hw, rfl, hS2⟩
  · exact ⟨_, _, _, _, rfl, ⟨hS2.self, hC, hI1⟩, hS2.szr, ⟨l, op, wt, hl, e9, a1, by omega, a2, a3, Or.inl ⟨hm1, rfl, rfl⟩⟩⟩
  · exact ⟨_, _, _, _, rfl, ⟨hS2.self, hC, hI1⟩, hS2.szr, ⟨l, op, wt, hl, e9, a1, by omega, a2, a3, Or.inr (Or.inl ⟨hm1, hw1, rfl, rfl⟩)⟩⟩
  · refine ⟨_, _, _, _, rfl, ⟨hS2.self, hC, hI.bg (by omega) a1 a2 (by omega) hl hcl hma⟩, hS2.szr, ⟨l, op, wt, hl, e9, a1, by omega, a2, a3, Or.inr (Or.inr ⟨hma, hw, rfl, rfl⟩)⟩⟩
theorem rq_181 {L : Nat} {xs : Nat → Int32} {fr lo : Nat} {nn cc gg cl m p al AL : Nat} {h : ax_H} {M : Nat → Nat → Int32} {x : Int32} (hfr : 0 ≤ fr) (hlo : 0 ≤ lo) (hcc : cc ≤ nn) (hnn : nn ≤ 6) (hgg1 : 1 ≤ gg) (hgg : gg ≤ 16) (hcl : cl < 512) (hP : RP nn cc gg cl m p h al AL M) : ax_M L xs 181 fr lo [.ref m, .int x] h (fun r h' => ∃ (al' AL' : Nat) (M' : Nat → Nat → Int32), r = none ∧ RP nn cc gg (cl + 1) m p h' al' AL' M' ∧ SZr m AL h h' AL' ∧ M' = ncM M) := by
  obtain ⟨hS, hC, hI⟩ := hP
  have hI1 := hI.up (Nat.le_succ cl)
  refine ax_A.post (r_181 hfr hlo hC hS) (fun r h' hq => ?_)
  obtain ⟨rfl, hS2⟩ := hq
  exact ⟨_, _, _, rfl, ⟨hS2.self, hC, hI1.calm⟩, hS2.szr, rfl⟩
theorem rq_182 {L : Nat} {xs : Nat → Int32} {fr lo : Nat} {nn cc gg cl m p al AL : Nat} {h : ax_H} {M : Nat → Nat → Int32} {x : Int32} (hfr : 0 ≤ fr) (hlo : 0 ≤ lo) (hcc : cc ≤ nn) (hnn : nn ≤ 6) (hgg1 : 1 ≤ gg) (hgg : gg ≤ 16) (hcl : cl < 512) (hP : RP nn cc gg cl m p h al AL M) : ax_M L xs 182 fr lo [.ref m, .int x] h (fun r h' => ∃ (al' AL' : Nat) (M' : Nat → Nat → Int32), r = none ∧ RP nn cc gg (cl + 1) m p h' al' AL' M' ∧ SZr m AL h h' AL' ∧ M' = ncM M) := by
  obtain ⟨hS, hC, hI⟩ := hP
  have hI1 := hI.up (Nat.le_succ cl)
  refine ax_A.post (r_182 hfr hlo hC hS) (fun r h' hq => ?_)
  obtain ⟨rfl, hS2⟩ := hq
  exact ⟨_, _, _, rfl, ⟨hS2.self, hC, hI1.calm⟩, hS2.szr, rfl⟩
theorem rq_183 {L : Nat} {xs : Nat → Int32} {fr lo : Nat} {nn cc gg cl m p al AL : Nat} {h : ax_H} {M : Nat → Nat → Int32} {x : Int32} (hfr : 0 ≤ fr) (hlo : 0 ≤ lo) (hcc : cc ≤ nn) (hnn : nn ≤ 6) (hgg1 : 1 ≤ gg) (hgg : gg ≤ 16) (hcl : cl < 512) (hP : RP nn cc gg cl m p h al AL M) : ax_M L xs 183 fr lo [.ref m, .int x] h (fun r h' => ∃ (al' AL' : Nat) (M' : Nat → Nat → Int32), r = none ∧ RP nn cc gg (cl + 1) m p h' al' AL' M' ∧ SZr m AL h h' AL' ∧ M' = ncM M) := by
  obtain ⟨hS, hC, hI⟩ := hP
  have hI1 := hI.up (Nat.le_succ cl)
  refine ax_A.post (r_183 hfr hlo hC hS) (fun r h' hq => ?_)
  obtain ⟨rfl, hS2⟩ := hq
  exact ⟨_, _, _, rfl, ⟨hS2.self, hC, hI1.calm⟩, hS2.szr, rfl⟩
theorem rq_184 {L : Nat} {xs : Nat → Int32} {fr lo : Nat} {nn cc gg cl m p al AL : Nat} {h : ax_H} {M : Nat → Nat → Int32} {x y0 : Int32} (hfr : 0 ≤ fr) (hlo : 0 ≤ lo) (hcc : cc ≤ nn) (hnn : nn ≤ 6) (hgg1 : 1 ≤ gg) (hgg : gg ≤ 16) (hcl : cl < 512) (hP : RP nn cc gg cl m p h al AL M) : ax_M L xs 184 fr lo [.ref m, .int x, .int y0] h (fun r h' => ∃ (y : Int32) (al' AL' : Nat) (M' : Nat → Nat → Int32), r = some (.int y) ∧ RP nn cc gg (cl + 1) m p h' al' AL' M' ∧ SZr m AL h h' AL' ∧ siM 500 x M y M') := by
  obtain ⟨hS, hC, hI⟩ := hP
  have hI1 := hI.up (Nat.le_succ cl)
  refine ax_A.post (r_184 hfr hlo hC hS) (fun r h' hq => ?_)
  rcases hq with ⟨hx, rfl, hS2⟩ | ⟨x1, x2, rfl, hS2⟩
  · exact ⟨_, _, _, _, rfl, ⟨hS2.self, hC, hI1⟩, hS2.szr, Or.inl ⟨hx, rfl, rfl⟩⟩
  · exact ⟨_, _, _, _, rfl, ⟨hS2.self, hC, hI1.calm⟩, hS2.szr, Or.inr ⟨x1, x2, rfl, rfl⟩⟩
theorem rq_185 {L : Nat} {xs : Nat → Int32} {fr lo : Nat} {nn cc gg cl m p al AL : Nat} {h : ax_H} {M : Nat → Nat → Int32} {x : Int32} (hfr : 0 ≤ fr) (hlo : 0 ≤ lo) (hcc : cc ≤ nn) (hnn : nn ≤ 6) (hgg1 : 1 ≤ gg) (hgg : gg ≤ 16) (hcl : cl < 512) (hP : RP nn cc gg cl m p h al AL M) : ax_M L xs 185 fr lo [.ref m, .int x] h (fun r h' => ∃ (y : Int32) (al' AL' : Nat) (M' : Nat → Nat → Int32), r = some (.int y) ∧ RP nn cc gg (cl + 1) m p h' al' AL' M' ∧ SZr m AL h h' AL' ∧ siM 50 x M y M') := by
  obtain ⟨hS, hC, hI⟩ := hP
  have hI1 := hI.up (Nat.le_succ cl)
  refine ax_A.post (r_185 hfr hlo hC hS) (fun r h' hq => ?_)
  rcases hq with ⟨hx, rfl, hS2⟩ | ⟨x1, x2, rfl, hS2⟩
  · exact ⟨_, _, _, _, rfl, ⟨hS2.self, hC, hI1⟩, hS2.szr, Or.inl ⟨hx, rfl, rfl⟩⟩
  · exact ⟨_, _, _, _, rfl, ⟨hS2.self, hC, hI1.calm⟩, hS2.szr, Or.inr ⟨x1, x2, rfl, rfl⟩⟩
theorem rq_186 {L : Nat} {xs : Nat → Int32} {fr lo : Nat} {nn cc gg cl m p al AL : Nat} {h : ax_H} {M : Nat → Nat → Int32} {x y0 z : Int32} (hfr : 1 ≤ fr) (hlo : 40 ≤ lo) (hcc : cc ≤ nn) (hnn : nn ≤ 6) (hgg1 : 1 ≤ gg) (hgg : gg ≤ 16) (hcl : cl < 512) (hP : RP nn cc gg cl m p h al AL M) : ax_M L xs 186 fr lo [.ref m, .int x, .int y0, .int z] h (fun r h' => ∃ (y : Int32) (al' AL' : Nat) (M' : Nat → Nat → Int32), r = some (.int y) ∧ RP nn cc gg (cl + 1) m p h' al' AL' M' ∧ SZr m AL h h' AL' ∧ crM x M y M') := by
  obtain ⟨hS, hC, hI⟩ := hP
  have hI1 := hI.up (Nat.le_succ cl)
  refine ax_A.post (r_186 hfr hlo hC hS) (fun r h' hq => ?_)
  rcases hq with ⟨hx, rfl, hS2⟩ | ⟨hx, rfl, hS2⟩
  · exact ⟨_, _, _, _, rfl, ⟨hS2.self, hC, hI1⟩, hS2.szr, Or.inl ⟨hx, rfl, rfl⟩⟩
  · exact ⟨_, _, _, _, rfl, ⟨hS2.self, hC, hI1.f0 (fun k hk => by show upd (upd (M 0) 3 _) 7 0 k = _; rw [pk_un (by omega), pk_un (by omega)]) ea0 hI1.2.1 hI1.2.2.1 (Or.inl rfl)⟩, hS2.szr, Or.inr ⟨hx, rfl, rfl⟩⟩
theorem rq_188 {L : Nat} {xs : Nat → Int32} {fr lo : Nat} {nn cc gg cl m p al AL : Nat} {h : ax_H} {M : Nat → Nat → Int32} {x : Int32} (hfr : 1 ≤ fr) (hlo : 40 ≤ lo) (hcc : cc ≤ nn) (hnn : nn ≤ 6) (hgg1 : 1 ≤ gg) (hgg : gg ≤ 16) (hcl : cl < 512) (hP : RP nn cc gg cl m p h al AL M) : ax_M L xs 188 fr lo [.ref m, .int x] h (fun r h' => ∃ (y : Int32) (al' AL' : Nat) (M' : Nat → Nat → Int32), r = some (.int y) ∧ RP nn cc gg (cl + 1) m p h' al' AL' M' ∧ SZr m AL h h' AL' ∧ reM x M y M') := by
  obtain ⟨hS, hC, hI⟩ := hP
  have hI1 := hI.up (Nat.le_succ cl)
  refine ax_A.post (r_188 hfr hlo hC hS) (fun r h' hq => ?_)
  rcases hq with ⟨hx, rfl, hS2⟩ | ⟨hx, rfl, hS2⟩
  · exact ⟨_, _, _, _, rfl, ⟨hS2.self, hC, hI1⟩, hS2.szr, Or.inl ⟨hx, rfl, rfl⟩⟩
  · exact ⟨_, _, _, _, rfl, ⟨hS2.self, hC, hI1.f0 (fun k hk => by show upd (upd (M 0) 3 _) 7 0 k = _; rw [pk_un (by omega), pk_un (by omega)]) ea0 hI1.2.1 hI1.2.2.1 (Or.inl rfl)⟩, hS2.szr, Or.inr ⟨hx, rfl, rfl⟩⟩
theorem rq_190 {L : Nat} {xs : Nat → Int32} {fr lo : Nat} {nn cc gg cl m p al AL : Nat} {h : ax_H} {M : Nat → Nat → Int32} {x : Int32} (hfr : 0 ≤ fr) (hlo : 0 ≤ lo) (hcc : cc ≤ nn) (hnn : nn ≤ 6) (hgg1 : 1 ≤ gg) (hgg : gg ≤ 16) (hcl : cl < 512) (hP : RP nn cc gg cl m p h al AL M) : ax_M L xs 190 fr lo [.ref m, .int x] h (fun r h' => ∃ (y : Int32) (al' AL' : Nat) (M' : Nat → Nat → Int32), r = some (.int y) ∧ RP nn cc gg (cl + 1) m p h' al' AL' M' ∧ SZr m AL h h' AL' ∧ maM x M y M') := by
  obtain ⟨hS, hC, hI⟩ := hP
  have hI1 := hI.up (Nat.le_succ cl)
  refine ax_A.post (r_190 hfr hlo hC hS) (fun r h' hq => ?_)
  obtain ⟨rfl, hS2⟩ := hq
  exact ⟨_, _, _, _, rfl, ⟨hS2.self, hC, hI1.f0 (fun k hk => by show upd (upd (upd (M 0) 4 _) 5 _) 7 0 k = _; rw [pk_un (by omega), pk_un (by omega), pk_un (by omega)]) ea0 hI1.2.1 hI1.2.2.1 (Or.inl rfl)⟩, hS2.szr, ⟨rfl, rfl⟩⟩
theorem rq_191 {L : Nat} {xs : Nat → Int32} {fr lo : Nat} {nn cc gg cl m p al AL : Nat} {h : ax_H} {M : Nat → Nat → Int32} {x : Int32} (hfr : 1 ≤ fr) (hlo : 40 ≤ lo) (hcc : cc ≤ nn) (hnn : nn ≤ 6) (hgg1 : 1 ≤ gg) (hgg : gg ≤ 16) (hcl : cl < 512) (hP : RP nn cc gg cl m p h al AL M) : ax_M L xs 191 fr lo [.ref m, .int x] h (fun r h' => ∃ (y : Int32) (al' AL' : Nat) (M' : Nat → Nat → Int32), r = some (.int y) ∧ RP nn cc gg (cl + 1) m p h' al' AL' M' ∧ SZr m AL h h' AL' ∧ rpM x M y M') := by
  obtain ⟨hS, hC, hI⟩ := hP
  have hI1 := hI.up (Nat.le_succ cl)
  refine ax_A.post (r_191 hfr hlo hC hS) (fun r h' hq => ?_)
  rcases hq with ⟨hx, rfl, hS2⟩ | ⟨hx, hx2, rfl, hS2⟩
  · exact ⟨_, _, _, _, rfl, ⟨hS2.self, hC, hI1⟩, hS2.szr, Or.inl ⟨hx, rfl, rfl⟩⟩
  · exact ⟨_, _, _, _, rfl, ⟨hS2.self, hC, hI1.f0 (fun k hk => by show upd (upd (upd (M 0) 6 _) 5 _) 7 0 k = _; rw [pk_un (by omega), pk_un (by omega), pk_un (by omega)]) ea0 hI1.2.1 hI1.2.2.1 (Or.inl rfl)⟩, hS2.szr, Or.inr ⟨hx, hx2, rfl, rfl⟩⟩
theorem rq_192 {L : Nat} {xs : Nat → Int32} {fr lo : Nat} {nn cc gg cl m p al AL : Nat} {h : ax_H} {M : Nat → Nat → Int32}  (hfr : 6 ≤ fr) (hlo : 210 ≤ lo) (hcc : cc ≤ nn) (hnn : nn ≤ 6) (hgg1 : 1 ≤ gg) (hgg : gg ≤ 16) (hcl : cl < 512) (hP : RP nn cc gg cl m p h al AL M) {ops : Nat → Mg} {sn wt : Nat} (e25 : M 0 25 = nI (sn + wt)) (e26 : M 0 26 = nI wt) (hwt12 : wt ≤ 12) (hs5 : sn + wt ≤ 512) (hA5 : opsOK ops (sn + wt)) (hZ5 : ∀ o, o < sn + wt → OZ (ops o)) (hJ0 : JJ ops sn wt 0 M) : ax_M L xs 192 fr lo [.ref m] h (fun r h' => ∃ (y : Int32) (al' AL' : Nat) (M' : Nat → Nat → Int32), r = some (.int y) ∧ RP nn cc gg (cl + 1) m p h' al' AL' M' ∧ SZr m AL h h' AL' ∧ y = nI wt ∧ SMr nn wt sn M M' ∧ ∃ (M1 : Nat → Nat → Int32) (c : Nat), JJ ops sn wt wt M1 ∧ M' 0 20 = nI c ∧ c ≤ 48 ∧ SMx c M1 M') := by
  obtain ⟨hS, hC, hI⟩ := hP
  have hI1 := hI.up (Nat.le_succ cl)
  obtain ⟨⟨h0, h1, h2⟩, h9, h11, hF, ⟨op, wt', a1, a2, a3, a4, a5, a6, a7⟩, ht, h36, h7, hA⟩ := hI
  have ew : wt' = wt := nI_inj (by omega) (by omega) (a2.symm.trans e26)
  subst ew
  have eo : op = sn + wt' := nI_inj (by omega) (by omega) (a1.symm.trans e25)
  subst eo
  have es : sn + wt' - wt' = sn := by omega
  have hJ1 : JJ ops sn wt' 0 (va_up M 0 (upd (upd (M 0) 37 (nI (sn + wt' - wt'))) 38 (nI wt'))) := by
    obtain ⟨⟨c, to, j1, j2, j3, j4⟩, j5, j6, j7⟩ := hJ0
    exact ⟨⟨c, to, (vk_20 M _ _).1.trans j1, (vk_20 M _ _).2.trans j2, j3, j4⟩, j5, j6, j7⟩
  refine ax_A.post (r_192X hfr hlo hC hS h0 a1 a2 a4 (by omega) a3 a6 hA hF h36 a7 (J := JJ ops sn wt') (by rw [es]; exact JJ.h hs5 hwt12 hA5 hZ5) hJ1) (fun r h' hq => ?_)
  obtain ⟨al', AL', M', rfl, hC2, hR, hA2, hop, hF2, h362, hsm, hx⟩ := hq
  have hsm0 := hsm
  rw [es] at hsm0
  obtain ⟨s1, s2, s3, s4, s5, s6, s7, s8, s9, s10, s11, s12, -, -⟩ := hsm
  refine ⟨_, al', AL', M', rfl, ⟨hR.rs, hC2, ⟨(s1 0 (by omega)).trans h0, (s1 1 (by omega)).trans h1, (s1 2 (by omega)).trans h2⟩, by rw [s1 9 (by omega)]; exact h9, by rw [s12]; exact h11, hF2, ⟨sn + wt', 0, (s1 25 (by omega)).trans a1, s7, by omega, by omega, by omega, by omega, fun w hw => absurd hw (by omega)⟩, ⟨wt', s9, a3⟩, h362, Or.inr s6, hA2⟩, ⟨hR.2.1, hR.2.2.1, hR.2.2.2.1⟩, rfl, hsm0, hx⟩
theorem rq_208 {L : Nat} {xs : Nat → Int32} {fr lo : Nat} {nn cc gg cl m p al AL : Nat} {h : ax_H} {M : Nat → Nat → Int32} {x : Int32} (hfr : 0 ≤ fr) (hlo : 0 ≤ lo) (hcc : cc ≤ nn) (hnn : nn ≤ 6) (hgg1 : 1 ≤ gg) (hgg : gg ≤ 16) (hcl : cl < 512) (hP : RP nn cc gg cl m p h al AL M) : ax_M L xs 208 fr lo [.ref m, .int x] h (fun r h' => ∃ (y : Int32) (al' AL' : Nat) (M' : Nat → Nat → Int32), r = some (.int y) ∧ RP nn cc gg (cl + 1) m p h' al' AL' M' ∧ SZr m AL h h' AL' ∧ y = ranV M x ∧ M' = M) := by
  obtain ⟨hS, hC, hI⟩ := hP
  have hI1 := hI.up (Nat.le_succ cl)
  obtain ⟨op, wt, a1, a2, a3, a4, a5, a6, a7⟩ := id hI.2.2.2.2.1
  have hA := hI.2.2.2.2.2.2.2.2
  refine ax_A.post (r_208 hfr hlo hC hS a1 a2 a4 (by omega) a6 (by unfold AOK at hA; omega)) (fun r h' hq => ?_)
  obtain ⟨rfl, hS2⟩ := hq
  exact ⟨_, _, _, _, rfl, ⟨hS2.self, hC, hI1⟩, hS2.szr, ⟨rfl, rfl⟩⟩
theorem rq_209 {L : Nat} {xs : Nat → Int32} {fr lo : Nat} {nn cc gg cl m p al AL : Nat} {h : ax_H} {M : Nat → Nat → Int32} {x y0 : Int32} (hfr : 0 ≤ fr) (hlo : 0 ≤ lo) (hcc : cc ≤ nn) (hnn : nn ≤ 6) (hgg1 : 1 ≤ gg) (hgg : gg ≤ 16) (hcl : cl < 512) (hP : RP nn cc gg cl m p h al AL M) : ax_M L xs 209 fr lo [.ref m, .int x, .int y0] h (fun r h' => ∃ (y : Int32) (al' AL' : Nat) (M' : Nat → Nat → Int32), r = some (.int y) ∧ RP nn cc gg (cl + 1) m p h' al' AL' M' ∧ SZr m AL h h' AL' ∧ rtlQ M x y0 y ∧ M' = M) := by
  obtain ⟨hS, hC, hI⟩ := hP
  have hI1 := hI.up (Nat.le_succ cl)
  obtain ⟨tc, t1, t2⟩ := hI.2.2.2.2.2.1
  refine ax_A.post (r_209X hfr hlo hC hS t1 t2 hI.2.2.2.2.2.2.1) (fun r h' hq => ?_)
  obtain ⟨y, rfl, hrel, hS2⟩ := hq
  exact ⟨_, _, _, _, rfl, ⟨hS2.self, hC, hI1⟩, hS2.szr, hrel, rfl⟩
theorem rq_210 {L : Nat} {xs : Nat → Int32} {fr lo : Nat} {nn cc gg cl m p al AL : Nat} {h : ax_H} {M : Nat → Nat → Int32} {x y0 : Int32} (hfr : 1 ≤ fr) (hlo : 40 ≤ lo) (hcc : cc ≤ nn) (hnn : nn ≤ 6) (hgg1 : 1 ≤ gg) (hgg : gg ≤ 16) (hcl : cl < 512) (hP : RP nn cc gg cl m p h al AL M) : ax_M L xs 210 fr lo [.ref m, .int x, .int y0] h (fun r h' => ∃ (y : Int32) (al' AL' : Nat) (M' : Nat → Nat → Int32), r = some (.int y) ∧ RP nn cc gg (cl + 1) m p h' al' AL' M' ∧ SZr m AL h h' AL' ∧ y = rfiV M x y0 ∧ M' = M) := by
  obtain ⟨hS, hC, hI⟩ := hP
  have hI1 := hI.up (Nat.le_succ cl)
  refine ax_A.post (r_210X hfr hlo hC hS hI.2.2.2.1) (fun r h' hq => ?_)
  obtain ⟨y, rfl, hrel, hS2⟩ := hq
  exact ⟨_, _, _, _, rfl, ⟨hS2.self, hC, hI1⟩, hS2.szr, hrel, rfl⟩
theorem rq_211 {L : Nat} {xs : Nat → Int32} {fr lo : Nat} {nn cc gg cl m p al AL : Nat} {h : ax_H} {M : Nat → Nat → Int32} {x y0 z : Int32} (hfr : 2 ≤ fr) (hlo : 80 ≤ lo) (hcc : cc ≤ nn) (hnn : nn ≤ 6) (hgg1 : 1 ≤ gg) (hgg : gg ≤ 16) (hcl : cl < 512) (hP : RP nn cc gg cl m p h al AL M) : ax_M L xs 211 fr lo [.ref m, .int x, .int y0, .int z] h (fun r h' => ∃ (y : Int32) (al' AL' : Nat) (M' : Nat → Nat → Int32), r = some (.int y) ∧ RP nn cc gg (cl + 1) m p h' al' AL' M' ∧ SZr m AL h h' AL' ∧ rwhQ nn gg M x y0 z y ∧ M' = M) := by
  obtain ⟨hS, hC, hI⟩ := hP
  have hI1 := hI.up (Nat.le_succ cl)
  refine ax_A.post (r_211X hfr hlo hC hS hI.1.1 hI.1.2.1 hI.1.2.2 hcc hnn hgg1 hgg hI.2.2.2.1) (fun r h' hq => ?_)
  obtain ⟨y, rfl, hrel, hS2⟩ := hq
  exact ⟨_, _, _, _, rfl, ⟨hS2.self, hC, hI1⟩, hS2.szr, hrel, rfl⟩
theorem rq_214 {L : Nat} {xs : Nat → Int32} {fr lo : Nat} {nn cc gg cl m p al AL : Nat} {h : ax_H} {M : Nat → Nat → Int32} {x y0 z v : Int32} (hfr : 3 ≤ fr) (hlo : 110 ≤ lo) (hcc : cc ≤ nn) (hnn : nn ≤ 6) (hgg1 : 1 ≤ gg) (hgg : gg ≤ 16) (hcl : cl < 512) (hP : RP nn cc gg cl m p h al AL M) : ax_M L xs 214 fr lo [.ref m, .int x, .int y0, .int z, .int v] h (fun r h' => ∃ (y : Int32) (al' AL' : Nat) (M' : Nat → Nat → Int32), r = some (.int y) ∧ RP nn cc gg (cl + 1) m p h' al' AL' M' ∧ SZr m AL h h' AL' ∧ rodQ nn gg M x y0 z v y ∧ M' = M) := by
  obtain ⟨hS, hC, hI⟩ := hP
  have hI1 := hI.up (Nat.le_succ cl)
  refine ax_A.post (r_214X hfr hlo hC hS hI.1.1 hI.1.2.1 hI.1.2.2 hcc hnn hgg1 hgg hI.2.2.2.1) (fun r h' hq => ?_)
  obtain ⟨y, rfl, hrel, hS2⟩ := hq
  exact ⟨_, _, _, _, rfl, ⟨hS2.self, hC, hI1⟩, hS2.szr, hrel, rfl⟩
theorem rq_215 {L : Nat} {xs : Nat → Int32} {fr lo : Nat} {nn cc gg cl m p al AL : Nat} {h : ax_H} {M : Nat → Nat → Int32} {x : Int32} (hfr : 2 ≤ fr) (hlo : 80 ≤ lo) (hcc : cc ≤ nn) (hnn : nn ≤ 6) (hgg1 : 1 ≤ gg) (hgg : gg ≤ 16) (hcl : cl < 512) (hP : RP nn cc gg cl m p h al AL M) : ax_M L xs 215 fr lo [.ref m, .int x] h (fun r h' => ∃ (y : Int32) (al' AL' : Nat) (M' : Nat → Nat → Int32), r = some (.int y) ∧ RP nn cc gg (cl + 1) m p h' al' AL' M' ∧ SZr m AL h h' AL' ∧ y = rhoV nn gg M x ∧ M' = M) := by
  obtain ⟨hS, hC, hI⟩ := hP
  have hI1 := hI.up (Nat.le_succ cl)
  refine ax_A.post (r_215X hfr hlo hC hS hI.1.1 hI.1.2.1 hI.1.2.2 hcc hnn hgg1 hgg hI.2.2.2.1) (fun r h' hq => ?_)
  obtain ⟨y, rfl, hrel, hS2⟩ := hq
  exact ⟨_, _, _, _, rfl, ⟨hS2.self, hC, hI1⟩, hS2.szr, hrel, rfl⟩
theorem rq_216 {L : Nat} {xs : Nat → Int32} {fr lo : Nat} {nn cc gg cl m p al AL : Nat} {h : ax_H} {M : Nat → Nat → Int32}  (hfr : 0 ≤ fr) (hlo : 0 ≤ lo) (hcc : cc ≤ nn) (hnn : nn ≤ 6) (hgg1 : 1 ≤ gg) (hgg : gg ≤ 16) (hcl : cl < 512) (hP : RP nn cc gg cl m p h al AL M) : ax_M L xs 216 fr lo [.ref m] h (fun r h' => ∃ (y : Int32) (al' AL' : Nat) (M' : Nat → Nat → Int32), r = some (.int y) ∧ RP nn cc gg (cl + 1) m p h' al' AL' M' ∧ SZr m AL h h' AL' ∧ y = (if M 0 7 = 0 then -6 else 0) ∧ M' = M) := by
  obtain ⟨hS, hC, hI⟩ := hP
  have hI1 := hI.up (Nat.le_succ cl)
  refine ax_A.post (r_216X hfr hlo hC hS) (fun r h' hq => ?_)
  obtain ⟨y, rfl, hrel, hS2⟩ := hq
  exact ⟨_, _, _, _, rfl, ⟨hS2.self, hC, hI1⟩, hS2.szr, hrel, rfl⟩
theorem rq_217 {L : Nat} {xs : Nat → Int32} {fr lo : Nat} {nn cc gg cl m p al AL : Nat} {h : ax_H} {M : Nat → Nat → Int32} {x : Int32} (hfr : 1 ≤ fr) (hlo : 40 ≤ lo) (hcc : cc ≤ nn) (hnn : nn ≤ 6) (hgg1 : 1 ≤ gg) (hgg : gg ≤ 16) (hcl : cl < 512) (hP : RP nn cc gg cl m p h al AL M) {u : Nat} (hu : u < 64) (e3 : M 0 3 = nI u) : ax_M L xs 217 fr lo [.ref m, .int x] h (fun r h' => ∃ (y : Int32) (al' AL' : Nat) (M' : Nat → Nat → Int32), r = some (.int y) ∧ RP nn cc gg (cl + 1) m p h' al' AL' M' ∧ SZr m AL h h' AL' ∧ y = rcnV M x (nI (popN u)) ∧ M' = M) := by
  obtain ⟨hS, hC, hI⟩ := hP
  have hI1 := hI.up (Nat.le_succ cl)
  refine ax_A.post (r_217X hfr hlo hC hS hI.2.2.2.2.2.2.2.1 hu e3) (fun r h' hq => ?_)
  obtain ⟨rfl, hS2⟩ := hq
  exact ⟨_, _, _, _, rfl, ⟨hS2.self, hC, hI1⟩, hS2.szr, rfl, rfl⟩

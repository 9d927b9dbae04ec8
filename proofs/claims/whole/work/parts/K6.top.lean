/-! the first state, side by side; the claim -/
theorem tx00 {P : Pm} {p : Nat} {fm : Nat → Nat → Int32} {ms : List Mg} (hms : ms.map (·.1) = LST p P.nn 1 (allN P.nn)) : TX P (g00 P.nn) (S00 P.nn p fm ms) := by
  refine ⟨fun o ho => absurd ho (Nat.not_lt_zero _), fun x hx => TLx.k ?_, fun j _ _ _ => RDl.no ?_, 0, rfl, Nat.le_refl _, Nat.zero_le _, fun o ho => absurd ho (Nat.not_lt_zero _), fun o _ ho => absurd ho (Nat.not_lt_zero _)⟩
  · have h1 : x.1 ∈ LST p P.nn 1 (allN P.nn) := by rw [← hms]; exact List.mem_map_of_mem hx
    obtain ⟨k, -, e⟩ := List.mem_map.mp h1
    rw [← e]
    show ¬ (4 : Int32) = 3
    decide
  · show ¬ (0 : Int32) = 2
    decide
theorem sim00 {P : Pm} {p cc : Nat} {fm : Nat → Nat → Int32} {ms : List Mg} (h3 : 3 ≤ P.nn) (h6 : P.nn ≤ 6) (hF : FLM (M00 P.nn cc P.gg)) : SIM P (g00 P.nn) (S00 P.nn p fm ms) (M00 P.nn cc P.gg) := by
  have hz : ∀ q y, nby ((S00 P.nn p fm ms).1 6) q y = 0 := fun q y => by
    unfold nby
    rw [byt_0 _ _ rfl]; rfl
  refine ⟨⟨rfl, rfl, rfl, rfl⟩, fun n hn => ?_, ⟨0, Nat.zero_le _, rfl, rfl, fun y hy => absurd hy (Nat.not_lt_zero _)⟩, ⟨⟨fun j _ _ => hz 0 j, fun j _ _ => hz 50 j⟩, fun k _ => ⟨0, Nat.zero_le _, rfl, rfl, fun y hy => absurd hy (Nat.not_lt_zero _)⟩⟩, ⟨rfl, rfl, ?_, fun v hv => absurd hv (Nat.not_lt_zero _), fun o ho => absurd ho (Nat.not_lt_zero _), fun v hv => absurd hv (Nat.not_lt_zero _)⟩, ⟨0, Nat.le_refl _, Nat.zero_le _, rfl, rfl, rfl, fun v hv => absurd hv (Nat.not_lt_zero _)⟩, ⟨rfl, rfl, rfl⟩, Or.inl rfl⟩
  · show bt (allN P.nn) n = true ↔ n < P.nn ∧ ¬ (1 : Int32) = 0
    refine ⟨fun z => ⟨?_, by decide⟩, fun z => b_all h3 h6 n z.1⟩
    rcases Nat.lt_or_ge n P.nn with y | y
    · exact y
    · rw [allN_hi P.nn (by omega) n hn y] at z; cases z
  · obtain ⟨c, to, f1, f2, f3⟩ := hF
    have : c = 0 := nI_inj (by have := f3.1; omega) (by decide) (f1.symm.trans (show M00 P.nn cc P.gg 0 20 = nI 0 from rfl))
    subst this
    exact ⟨0, to, f1, f2, f3, fun f hf => absurd hf List.not_mem_nil, (fun i _ hx => by cases hx), fun f g hf => absurd hf List.not_mem_nil, List.Pairwise.nil⟩
theorem jst00 {nn gg cc p : Nat} {f : Nat → Int32} {fm : Nat → Nat → Int32} {ms : List Mg} (h3 : 3 ≤ nn) (h6 : nn ≤ 6) (hc : 0 < cc) (hp : p < nn) (hpl : nof f 0 (allN nn) nn 0 0 = nI p) (hm : MkE nn gg (nI cc) f (allN nn) (fm p)) (hms : ms.map (·.1) = LST p nn 1 (allN nn)) (hF : FLM (M00 nn cc gg)) : JST (nn, gg, nI cc, f) cc (0 + 1) (S00 nn p fm ms) (M00 nn cc gg) :=
  ⟨g00 nn, 0, 1, Nat.le_refl _, ⟨svx00 (P := (nn, gg, nI cc, f)) h6 hc hp hpl hm hms, tx00 (P := (nn, gg, nI cc, f)) hms⟩, sim00 (P := (nn, gg, nI cc, f)) h3 h6 hF⟩
theorem whole_start {p : Program} {e : Env} {s : State} {m : MethodId} {below : List Frame} {meth : Method} {c : Code} (l : Launch) {b L : Nat} {xs : Nat → Int32} (hL : L ≤ 3075) (C0 : lw_At p s m meth c b L xs) : W p l e room_1 s m #[Value.ref b] below meth c s.heap [] 0 0 (lw_Z below #[Value.ref b] s) (entryFrame m ([Value.ref b] : List Value).toArray 4) := by
  refine ax_law l C0 ?_
  refine law_qX (by omega) (fun h' nn gg cc q m f hm hFr hM h1 h2 => ?_)
  have hb : nn ≤ 6 ∧ gg ≤ 16 := ⟨hFr.1.2.1, hFr.2.2.1.2.1⟩
  have hgn : gg * nn ≤ 16 * 6 := Nat.mul_le_mul hb.2 hb.1
  have hcc : cc ≤ nn := Nat.le_trans hFr.2.1.2.1 hFr.1.1
  obtain ⟨hC, fm, ms, hP1, hP2, hP⟩ := fresh_cx hFr (by decide) (by omega)
  have hR := mw_rp hM (by omega) (by omega)
  obtain ⟨x1, x2, x3, x4⟩ := hFr.2.2.2.1
  have hHP : HPm (nn, gg, nI cc, f) cc := ⟨⟨hFr.2.2.1.1, hb.1, x4.1⟩, hFr.1.1, x4.2, rfl, hcc, by have := hFr.2.1.1; omega⟩
  have hJ := jst00 (gg := gg) (cc := cc) hFr.1.1 hb.1 (by have := hFr.2.1.1; omega) x1 x3 (hP1 x1) hP2 hR.2.2.2.2.2.1
  exact lcX_loop (n := 2) (cc := cc) (B1 := h'.1) (B2 := h'.2.1) hL (by omega) hC hcc hHP (fun cl h3 hW => ⟨rfl, by have := hW.room; omega, by have := hW.room; omega⟩) 520 3 0 h' (by omega) (by omega) rfl ⟨0, _, _, 64, _, hP, hR, hJ, by omega, by omega⟩
set_option maxHeartbeats 4000000 in
theorem lw_walk (l : Launch) (b : Addr) (xs : List Int32) : MetFree l x (headSpec (Jvm.Cond.code x code maxLocals ret :: tables_1) room_1) (lw_P b xs) (fun _ _ _ _ _ => True) lw_Q := by
  refine MetFree.of_bodyS (code := code) (maxLocals := maxLocals) (ret := ret) (by decide) ?_ ?_
  · intro args s m h hn
    obtain ⟨meth, c, h1, h2, h3, h4, h5, h6, -, -⟩ := Cond.code_spec hn (atoms_spec (ws := Jvm.Cond.code x code maxLocals ret :: tables_1) h _ List.mem_cons_self)
    exact ⟨meth, c, h1, h2, h3, h4, h5, h6⟩
  · intro p e s m args below meth c s₁ B hml0 hP _
    obtain ⟨rfl, hx, hbd, hgv⟩ := hP
    obtain ⟨scr, harrAt, hlist, hof, hsmall⟩ := hx
    obtain ⟨hcb, hkn, -, -⟩ := State.arrayAt?_spec harrAt
    have hown : s.vm.findClass R_law = some m.cls := findClass_of_methodNamed B.named
    have hts0 : ∀ c ∈ (Jvm.Cond.code x code maxLocals ret :: tables_1), c.before #[Value.ref b] s = true := atoms_spec (ws := Jvm.Cond.code x code maxLocals ret :: tables_1) B.pre
    have hts : ∀ w ∈ lw_tbl, w.before #[Value.ref b] s = true := k2_hts_sels lw_privs (fun w hw => hts0 w (List.mem_cons_of_mem _ hw)) lw_privs_ok
    have hml : c.maxLocals = 4 := B.maxLocals_eq (hts0 _ List.mem_cons_self)
    have X₀ : Stand p l e room_1 s m #[Value.ref b] below meth c s₁ [] 0 0 := Stand.of_body B
    have hh0 : s₁.heap = s.heap := by rw [B.state]; rfl
    have hsz : scr.slots.size = xs.length := by rw [← Array.length_toList, hlist, List.length_map]
    have hval : ∀ j : Nat, j < xs.length → scr.slots[j]? = some (.int (xs.getD j 0)) := fun j hj => by
      rw [← Array.getElem?_toList, hlist]
      simp [hj]
    have hbl : b < s.heap.size := (Array.getElem?_eq_some_iff.mp hcb).1
    have hX : va_X b xs.length (fun j => xs.getD j 0) s s.heap := ⟨scr, hcb, hof, hkn, hsz, hval⟩
    have K : W p l e room_1 s m #[Value.ref b] below meth c s₁.heap [] 0 0 (lw_Z below #[Value.ref b] s) (entryFrame m ([Value.ref b] : List Value).toArray 4) := by
      rw [hh0]
      exact whole_start l hbd ⟨B.exec, B.bytes, B.returns, hml, hown, hts, hX, hbl, B.notSynchronized, hgv⟩
    obtain ⟨t, a1, o, b1, b2, b3⟩ := K s₁ rfl X₀
    exact ⟨t, o, a1, b1, b2, b3⟩
theorem lw_pre_spec {args : Array Value} {s : State} (h : (Jvm.Cond.and given_1 narrow_1).before args s = true) (hr : rest_1_c.before args s = true) : ∃ (b : Addr) (xs : List Int32), lw_P b xs args s := by
  have hs := flat_of_before _ h
  have hq := flat_of_before _ hr
  have hc : (Cond.count 1).before args s = true := hs _ (by decide +kernel)
  have harr : (Cond.arrayOf (.arg 0) .int).before args s = true := hs _ (by decide +kernel)
  have hle : (Cond.le (.length (.arg 0)) (.int 3075)).before args s = true := hs _ (by decide +kernel)
  have hlen : (Cond.isInt (.length (.arg 0))).before args s = true := hq _ (by decide +kernel)
  have hall : (Cond.all (.arg 0) (.isInt (.elem (.arg 0) (.index 0)))).before args s = true := hq _ (by decide +kernel)
  obtain ⟨b, xs, hb, hx⟩ := State.ints_of_pre rfl harr hlen hall
  have hsm : xs.length < 2 ^ 31 := hx.choose_spec.2.2.2
  have hev : (Term.length (.arg 0)).eval args s none [] s = some (.int xs.length.toInt32) := hx.length_eval hb
  have hv := Cond.le_ints hev (show (Term.int 3075).eval args s none [] s = some (.int 3075) from rfl)
  have hd : xs.length.toInt32 ≤ 3075 := by
    simpa [Cond.before, Cond.holds, hv] using hle
  have hN : xs.length ≤ 3075 := (Int32.ofNat_le_ofNat hsm (by decide)).mp (show Int32.ofNat xs.length ≤ Int32.ofNat 3075 from hd)
  exact ⟨b, xs, Cond.one_arg hc (show args[0]? = some (.ref b) from hb), hx, hN, h⟩
theorem lw_comes (l : Launch) : Comes l x (Jvm.Cond.code x code maxLocals ret :: tables_1) room_1 (fun tb e args s => Calls_1 tb e args s ∧ rest_1 tb e args s ∧ Pre_1 tb e args s)
    (fun _ _ args s o t => lw_Q args s o t) := by
  intro p e ha hc hk s m args below hf hfit hheap happ hpre
  obtain ⟨b, xs, hP⟩ := lw_pre_spec hpre.2.2 hpre.2.1
  obtain ⟨k, o, h1, h2, h3, hQ⟩ := lw_walk l b xs p e ha hc hk s m args below hf ((Spec.applies_iff_loose hf).mp happ).1 hP trivial
  exact ⟨k, o, h1, h2, h3, hQ⟩
theorem lw_frame {s t : State} {o : Outcome} {args : Array Value} (h : Framed s o t [] 600000 7302250) :
    Framed s o t (fieldLocs frame_1_writes args s ++ arrayLocs frame_1_arrays args s ++ staticLocs frame_1_statics s) 600000 7302250 := h
theorem lw_limb (L : Cond) (hL : ∀ (args : Array Value) (s t : State), L.after args s (.returned (some (.int 1))) t = true) :
    ArmFor flags0 classFile x code maxLocals ret World_1 tables_1 room_1 Calls_1 rest_1 Pre_1
      (fun tb e a s o t => postC L tb e a s o t ∧ Framed s o t (fieldLocs frame_1_writes a s ++ arrayLocs frame_1_arrays a s ++ staticLocs frame_1_statics s) 600000 7302250) := by
  intro l _ _ _ p e ha hc hk s m args below hf hfit hheap happ hpre
  obtain ⟨k, o, h1, h2, h3, rfl, hF⟩ := lw_comes l p e ha hc hk s m args below hf hfit hheap happ hpre
  exact ⟨k, _, h1, h2, h3, hL args s _, lw_frame hF⟩
theorem i_vc : Claimed_1_1 ∧ Claimed_1_2 := ⟨lw_limb limb_1_1 (fun args s t => by simp [limb_1_1, Cond.after, Cond.holds, Cond.value]), lw_limb limb_1_2 (fun args s t => Cond.after_iff.mpr (by
  first | (rw [show limb_1_2 = Cond.eq .result (.int 1) from rfl, Cond.eq_ints (x := 1) (y := 1) rfl rfl]; simp; done) | (simp [limb_1_2, Cond.value, Term.eval]; done)))⟩

/-! the net once more: a post that may be lost, what is taken, what is under way; a cell put as it stands -/
theorem ax_fr.same {A : Nat → Prop} {h : ax_H} {a : Nat} {c : va_E} (g : ax_g h a = some c) : ax_fr A h (ax_put h a c) := ⟨⟨Nat.le_refl _, Nat.le_refl _⟩, fun x hx _ => by
  show va_up h.2.2 a c x = _
  by_cases e : x = a
  · subst e
    rw [va_up_s]
    unfold ax_g at g
    rw [if_pos ⟨(ax_g_lt (show ax_g h x = some c by unfold ax_g; exact g)).1, hx⟩] at g
    exact (Option.some.inj g).symm
  · rw [va_up_n _ _ e]⟩
/-- what is under way when one more is sent -/
def pst (ms : List Mg) (x : Mg) : List Mg := if ms.length < 128 then ms ++ [x] else ms
theorem set_perm {α : Type} {x v : α} : ∀ {l : List α} {i : Nat}, l[i]? = some x → (x :: l.set i v).Perm (v :: l)
  | [], i, h => by simp at h
  | a :: l, 0, h => by
    simp at h
    subst h
    exact List.Perm.swap _ _ _
  | a :: l, i + 1, h => by
    have h' : l[i]? = some x := by simpa using h
    have k := set_perm (v := v) h'
    exact (List.Perm.swap _ _ _).trans ((List.Perm.cons a k).trans (List.Perm.swap _ _ _))
/-- what is left behind when the i-th of a list is taken, and the last one comes to its place -/
def tkl {α : Type} (l : List α) (i : Nat) : List α := match l.getLast? with
  | none => []
  | some z => if i + 1 = l.length then l.dropLast else l.dropLast.set i z
theorem tkl_perm {α : Type} {l : List α} {i : Nat} {x : α} (h : l[i]? = some x) : (x :: tkl l i).Perm l := by
  have hi : i < l.length := (List.getElem?_eq_some_iff.mp h).1
  have hne : l ≠ [] := by
    intro e
    rw [e] at hi
    exact absurd hi (Nat.not_lt_zero _)
  have hl : l = l.dropLast ++ [l.getLast hne] := (List.dropLast_concat_getLast hne).symm
  have hg : l.getLast? = some (l.getLast hne) := List.getLast?_eq_some_getLast hne
  unfold tkl
  rw [hg]
  show (x :: if i + 1 = l.length then l.dropLast else l.dropLast.set i (l.getLast hne)).Perm l
  have hdl : l.dropLast.length = l.length - 1 := List.length_dropLast
  by_cases e : i + 1 = l.length
  · rw [if_pos e]
    have hx : x = l.getLast hne := by
      rw [hl, List.getElem?_append_right (by omega), hdl, show i - (l.length - 1) = 0 by omega] at h
      exact (Option.some.inj h).symm
    rw [hx]
    refine List.Perm.trans ?_ (List.Perm.of_eq hl.symm)
    exact (List.perm_append_singleton _ _).symm
  · rw [if_neg e]
    have hx : l.dropLast[i]? = some x := by
      rw [hl, List.getElem?_append_left (by omega)] at h
      exact h
    refine (set_perm (v := l.getLast hne) hx).trans ?_
    refine List.Perm.trans ?_ (List.Perm.of_eq hl.symm)
    exact (List.perm_append_singleton _ _).symm
theorem nI_inj {a b : Nat} (ha : a < 2 ^ 31) (hb : b < 2 ^ 31) (e : nI a = nI b) : a = b := by
  have := congrArg Int32.toNatClampNeg e
  rwa [nI_clamp ha, nI_clamp hb] at this
/-- take: the i-th goes, it is read now -/
theorem c_51G {L : Nat} {xs : Nat → Int32} {fr lo : Nat} {h : ax_H} {nt w q i : Nat} {ids : List Nat} {ms : List Mg} {u b : Nat → Int32} (hN : NTL h nt w ids ms q u b) (hi : i < ids.length) : ax_M L xs 51 fr lo [.ref nt, .int (nI i)] h (fun r h' => ∃ (q' : Nat) (x : Mg) (ids' : List Nat) (ms' : List Mg), r = some (.ref (w + 1 + 2 * q')) ∧ ms[i]? = some x ∧ (x :: ms').Perm ms ∧ NTL h' nt w ids' ms' q' x.1 x.2 ∧ ax_fr (NTA nt w) h h' ∧ h'.1 = h.1 ∧ h'.2.1 = h.2.1) := by
  obtain ⟨p, t, M, B, k1, k2, k3, q1, q2, q3, rfl, rfl⟩ := hN
  refine ax_A.post (c_51 k1 hi) (fun r h' hq => ?_)
  obtain ⟨m1, m2, m3, m4, m5⟩ := hq
  have hc := k1.1.2.1
  have hp := k1.1.2.2.2.2.1
  have hinj := k1.1.2.2.2.2.2
  have key : ∀ {α : Type} (l : List α) (f : Nat → α), l.length = ids.length → (∀ j, j < ids.length → l[j]? = some (f (p j))) → ∀ j, j < ids.length - 1 → (tkl l i)[j]? = some (f (tk p t (ids.length - 1) i j)) := by
    intro α l f hl hf j hj
    have hne : l ≠ [] := by
      intro e
      rw [e] at hl
      have hl : 0 = ids.length := hl
      omega
    have hlast : l.getLast? = some (f (p (ids.length - 1))) := by
      rw [List.getLast?_eq_getElem?, hl]
      exact hf _ (by omega)
    have hdl : l.dropLast.length = ids.length - 1 := by rw [List.length_dropLast, hl]
    have hd : l.dropLast[j]? = some (f (p j)) := by
      have h0 := hf j (by omega)
      rw [(List.dropLast_concat_getLast hne).symm, List.getElem?_append_left (by omega)] at h0
      exact h0
    unfold tkl
    rw [hlast]
    show (if i + 1 = l.length then l.dropLast else l.dropLast.set i (f (p (ids.length - 1))))[j]? = _
    unfold tk
    rw [if_neg (show ¬ j = ids.length - 1 by omega)]
    by_cases e : i + 1 = l.length
    · rw [if_pos e, if_neg (show ¬ j = i by omega)]
      exact hd
    · rw [if_neg e]
      by_cases ej : j = i
      · subst ej
        rw [if_pos rfl, List.getElem?_set_self (by omega)]
      · rw [if_neg ej, List.getElem?_set_ne (Ne.symm ej)]
        exact hd
  have kl : ∀ {α : Type} (l : List α), l.length = ids.length → (tkl l i).length = ids.length - 1 := by
    intro α l hl
    have hne : l ≠ [] := by
      intro e
      rw [e] at hl
      have hl : 0 = ids.length := hl
      omega
    unfold tkl
    rw [List.getLast?_eq_some_getLast hne]
    show (if i + 1 = l.length then l.dropLast else l.dropLast.set i (l.getLast hne)).length = _
    split
    · rw [List.length_dropLast, hl]
    · rw [List.length_set, List.length_dropLast, hl]
  have l1 := kl ids rfl
  have l2 := kl ms k2
  refine ⟨p i, (M (p i), B (p i)), tkl ids i, tkl ms i, m1, (k3 i hi).2, tkl_perm (k3 i hi).2, ⟨tk p t (ids.length - 1) i, p i, M, B, by rw [l1]; exact m5, by rw [l1, l2], fun j hj => ?_, (hp i (by omega)).1, (hp i (by omega)).2.1, fun j h1 h2 => ?_, rfl, rfl⟩, m2, m3, m4⟩
  · rw [l1] at hj
    exact ⟨key ids (fun z => z) rfl (fun j hj => (k3 j hj).1) j hj, key ms (fun z => (M z, B z)) k2 (fun j hj => (k3 j hj).2) j hj⟩
  · rw [l1] at h1
    exact (m5.1.2.2.2.2.1 j h2).2.2
/-- the i-th under way, where it stands: it may be read there -/
theorem NTL.way {h : ax_H} {nt w q : Nat} {ids : List Nat} {ms : List Mg} {u b : Nat → Int32} (hN : NTL h nt w ids ms q u b) : ∃ f, ax_g h w = some (.inl (3, 128, .inr (.inr (.inr (.inr f))))) ∧ ∀ i, i < ids.length → ∃ (q' : Nat) (x : Mg), f i = some (w + 1 + 2 * q') ∧ ms[i]? = some x ∧ NTL h nt w ids ms q' x.1 x.2 := by
  obtain ⟨p, t, M, B, k1, k2, k3, q1, q2, q3, rfl, rfl⟩ := hN
  obtain ⟨f, f1, f2⟩ := k1.2.2.1
  have hp := k1.1.2.2.2.2.1
  have hinj := k1.1.2.2.2.2.2
  refine ⟨f, f1, fun i hi => ?_⟩
  have hi8 : i < 128 := Nat.lt_of_lt_of_le hi k1.1.2.1
  exact ⟨p i, (M (p i), B (p i)), f2 i hi8, (k3 i hi).2, ⟨p, t, M, B, k1, k2, k3, (hp i hi8).1, (hp i hi8).2.1, fun j h1 h2 e => absurd (hinj j i h2 hi8 e) (by omega), rfl, rfl⟩⟩
theorem ax_hs.consN {h : ax_H} {a nt w : Nat} {c : va_E} {F : List (Nat × va_E)} (g : ax_g h a = some c) (hF : ax_hs h F) (ha : NTA nt w a) (hd : ∀ q ∈ F, ¬ NTA nt w q.1) : ax_hs h ((a, c) :: F) := ax_hs.cons g hF (fun q hq e => hd q hq (e ▸ ha))


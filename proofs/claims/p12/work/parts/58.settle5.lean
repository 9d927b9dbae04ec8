/-! settle of the fresh store -/
theorem SQ.net {h h' : ax_H} {s0 n nn gg cc p q q' km kc : Nat} {f u b u' b' : Nat → Int32} {e : Nat → Nat} {ids ids' : List Nat} {ms ms' : List Mg} (hQ : SQ h s0 n nn gg cc p f e km kc ids ms q u b) (hf : ax_fr (NTA n (n + 1)) h h') (hN : NTL h' n (n + 1) ids' ms' q' u' b') : SQ h' s0 n nn gg cc p f e km kc ids' ms' q' u' b' := by
  obtain ⟨hb, hp, ⟨c, hW⟩, -, hD⟩ := hQ
  refine ⟨hb, hp, ⟨c, hW.fr hf (fun z hz hA => ?_)⟩, hN, fun k hk => ?_⟩
  · have := W0.lt hb.2.2.2.2.2 z hz
    unfold NTA at hA
    omega
  · obtain ⟨h0, ep, st, hd, cl, ni, tu, md, fm, h1, h2⟩ := hD k hk
    exact ⟨h0, ep, st, hd, cl, ni, tu, md, fm, h1.fr hf (fun z hz hA => by have := QN.lt z hz; unfold NTA at hA; omega), h2⟩

/-! the law: one case -/
theorem case_both {V : wV} {hs : List wV} {tl : Nat} {tx : Nat → Int32} {f g : wM → Option (Int32 × wM)} {M : wM} (hB : Both V hs tl tx f g) (hc : IC V hs tl tx M) (hm : IM V hs tl tx M) : ∃ (r : Int32) (V2 : wV) (hs2 : List wV) (tl2 : Nat) (tx2 : Nat → Int32) (M2 M3 : wM), f M = some (r, M2) ∧ g M2 = some (r, M3) ∧ TXo tl2 tx2 ∧ IC V2 hs2 tl2 tx2 M3 ∧ IM V2 hs2 tl2 tx2 M3 := by
  obtain ⟨r, V2, hs2, tl2, tx2, ht, h1, h2⟩ := hB
  obtain ⟨M2, a1, a2, a3⟩ := h1 M hc
  obtain ⟨M3, b1, b2, b3⟩ := h2 M2 (hm.keepC a2)
  exact ⟨r, V2, hs2, tl2, tx2, M2, M3, a1, b1, ht, a3.keepM b2, b3⟩
theorem pw_some {f : wM → Option Int32} {M M2 : wM} {r : Int32} (h : pw f M = some (r, M2)) : f M = some r ∧ M2 = M := by
  unfold pw at h
  cases e : f M with
  | none => rw [e] at h; cases h
  | some v =>
    rw [e] at h
    cases h
    exact ⟨rfl, rfl⟩

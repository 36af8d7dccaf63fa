/-! changes: the same answer on both sides, the same new views -/
theorem okP_of {x : Int32} (h : inR x 0 9 = true) : okP x := by
  obtain ⟨a, b⟩ := inR_iff.mp h
  exact ⟨a, b⟩
section CH
variable {V : wV} {hs : List wV} {tl : Nat} {tx : Nat → Int32}
end CH

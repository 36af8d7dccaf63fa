/-! questions: the same answer on both sides, the views stay -/
def TXo (tl : Nat) (tx : Nat → Int32) : Prop := tl ≤ 100 ∧ ∀ k, k < tl → (32 : Int32) ≤ tx k ∧ tx k ≤ 126
def pw (f : wM → Option Int32) (M : wM) : Option (Int32 × wM) := (f M).bind (fun v => some (v, M))
def pu (f : wM → Option wM) (M : wM) : Option (Int32 × wM) := (f M).bind (fun M2 => some (0, M2))
theorem hI_hgt_nf {V : wV} {t p c : Int32} (h : hasB V t = false) : hI (hgt V t p c) = -2000000004 := by
  unfold hgt
  rw [if_neg (by rw [h]; decide)]
  rfl
theorem okR_b {t p c : Int32} (h : okR t p c = true) : (50000 ≤ p.toInt ∧ p.toInt ≤ 110000) ∧ (-300 ≤ c.toInt ∧ c.toInt ≤ 500) := by
  unfold okR at h
  simp only [Bool.and_eq_true] at h
  obtain ⟨⟨-, q2⟩, q3⟩ := h
  obtain ⟨p1, p2⟩ := inR_iff.mp q2
  obtain ⟨c1, c2⟩ := inR_iff.mp q3
  exact ⟨⟨le_lit p1 (by decide), lit_le p2 (by decide)⟩, le_lit c1 (by decide), lit_le c2 (by decide)⟩
section Q1
variable {V : wV} {hs : List wV} {tl : Nat} {tx : Nat → Int32}
theorem isC {x : Int32} {c : Nat} (hc : c < 3) : inR (nI c) 0 2 = true := by
  rcases (show c = 0 ∨ c = 1 ∨ c = 2 by omega) with rfl | rfl | rfl <;> decide
theorem wOf_c {c : Nat} (hc : c < 3) : wOf (nI c) = c + 1 := by unfold wOf; rw [nIp1, nI_clamp (by omega)]
/-- a question for a reading of a cell: ok, or not -/
theorem rd_cell {x r : Int32} (hV : OkV V) (h1 : inR x 0 2 = true) (h2 : rk V x r = true) : ∃ c j : Nat, c < 3 ∧ x = nI c ∧ r = nI j ∧ j < V.2.1 (c + 1) ∧ x + 1 = nI (c + 1) := by
  obtain ⟨c, hc, rfl⟩ := cell_of h1
  obtain ⟨-, -, j, hj, rfl⟩ := rk_of hV h2
  rw [wOf_c hc] at hj
  exact ⟨c, j, hc, rfl, rfl, hj, nIp1 c⟩
theorem lp_of {n : Nat} {x : Int32} (hn : n ≤ 20) (h : inR x 0 (nI n - 1) = true) : ∃ j : Nat, j < n ∧ x = nI j := rd_of hn h
end Q1

/-! the history of the reference -/
theorem wix (b k : Nat) : ((327 : Int32) * nI b) + nI k = nI (327 * b + k) := by rw [show (327 : Int32) = nI 327 from rfl, pk_mul, nI_add]
/-! ranges -/
def inR (x a b : Int32) : Bool := decide (a ≤ x) && decide (x ≤ b)
theorem inR_iff {x a b : Int32} : inR x a b = true ↔ a ≤ x ∧ x ≤ b := by simp [inR]
theorem within_c {x a b : Int32} {M : wM} : fX6_within x a b M = some (inR x a b) := by
  unfold fX6_within inR
  by_cases h1 : x < a
  · rw [if_pos h1, decide_eq_false (Int32.not_le.mpr h1), Bool.false_and]
  · rw [if_neg h1, decide_eq_true (Int32.not_lt.mp h1), Bool.true_and]
    by_cases h2 : b < x
    · rw [if_pos h2, decide_eq_false (Int32.not_le.mpr h2)]
    · rw [if_neg h2, decide_eq_true (Int32.not_lt.mp h2)]
theorem b2i {α : Type} {b : Bool} {A B : α} : (if b2 b = (0 : Int32) then A else B) = if b then B else A := by cases b <;> rfl
def okR (t p c : Int32) : Bool := inR t 0 10000 && inR p 50000 110000 && inR c (-300) 500
theorem isReading_c {t p c : Int32} {M : wM} : fX6_isReading t p c M = some (okR t p c) := by
  unfold fX6_isReading fX6_isTime fX6_isTemperature okR
  simp only [within_c, bs, b2i]
  cases inR t 0 10000 <;> cases inR p 50000 110000 <;> cases inR c (-300) 500 <;> rfl
theorem isCell_c {x : Int32} {M : wM} : fX6_isCell x M = some (inR x 0 2) := by
  unfold fX6_isCell
  simp only [within_c, bs]
theorem isPoint_c {x : Int32} {M : wM} : fX6_isPoint x M = some (inR x 0 9) := by
  unfold fX6_isPoint
  simp only [within_c, bs]
def okS (k v : Int32) : Bool := if k = 0 then inR v (-500000) 9000000 else if k = 1 then inR v 1 5000 else if k = 2 then inR v 1 500 else false
theorem isSetting_c {k v : Int32} {M : wM} : fX6_isSetting k v M = some (okS k v) := by
  unfold fX6_isSetting okS
  simp only [within_c, bs]
  split
  · rfl
  · split
    · rfl
    · split <;> rfl
theorem cell_of {x : Int32} (h : inR x 0 2 = true) : ∃ c : Nat, c < 3 ∧ x = nI c := by
  obtain ⟨h1, h2⟩ := inR_iff.mp h
  obtain ⟨j, hj, e⟩ := nI_of2 (x := x) (M := 2) (n := 2) (by decide) (Int32.not_lt.mpr h1) h2
  exact ⟨j, by omega, e⟩

/-! the readings of one track in the reference: w counts from 0, the base -/
theorem oix (w a r : Nat) : (((7 : Int32) + ((80 : Int32) * nI w)) + nI a) + nI r = nI (7 + 80 * w + a + r) := by
  rw [show (7 : Int32) = nI 7 from rfl, show (80 : Int32) = nI 80 from rfl, pk_mul, nI_add, nI_add, nI_add]
theorem cix (w : Nat) : (3 : Int32) + nI w = nI (3 + w) := by rw [show (3 : Int32) = nI 3 from rfl, nI_add]
def cap (w : Nat) : Nat := if w = 0 then 12 else 20
theorem cap_le (w : Nat) : cap w ≤ 20 := by unfold cap; split <;> omega

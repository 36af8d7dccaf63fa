/-! looks: the same for the reference -/
theorem isSome_hgt {V : wV} {t p c : Int32} : (hgt V t p c).isSome = hasB V t := by
  unfold hgt
  cases hasB V t <;> rfl
def gR (V : wV) (w r : Nat) : Int32 := if go V w r then hI (hh V w r) else 0
section LKS
variable {V : wV} {w : Nat}
end LKS

/-! steps -/
def kthF (p : Nat → Bool) : Nat → Nat → Nat → Option Nat
  | _, _, 0 => none
  | left, r, c + 1 => if p r then (if left = 0 then some r else kthF p (left - 1) (r + 1) c) else kthF p left (r + 1) c
def cntR (p : Nat → Bool) : Nat → Nat → Nat
  | _, 0 => 0
  | r, c + 1 => (if p r then 1 else 0) + cntR p (r + 1) c
theorem cntR_le {p : Nat → Bool} : ∀ {c r : Nat}, cntR p r c ≤ c
  | 0, r => Nat.le_refl _
  | c + 1, r => by
    have := cntR_le (p := p) (c := c) (r := r + 1)
    unfold cntR
    split <;> omega
theorem kthF_none {p : Nat → Bool} : ∀ {c r left : Nat}, kthF p left r c = none ↔ cntR p r c ≤ left
  | 0, r, left => by simp [kthF, cntR]
  | c + 1, r, left => by
    unfold kthF cntR
    cases h : p r
    · simp only [Bool.false_eq_true, if_false, Nat.zero_add]
      exact kthF_none
    · simp only [if_true]
      by_cases e : left = 0
      · rw [if_pos e]
        constructor
        · intro q; cases q
        · intro q; omega
      · rw [if_neg e, kthF_none]
        omega
theorem kthF_lt {p : Nat → Bool} : ∀ {c r left j : Nat}, kthF p left r c = some j → j < r + c
  | 0, r, left, j, h => by cases h
  | c + 1, r, left, j, h => by
    unfold kthF at h
    cases hp : p r
    · rw [hp] at h
      have := kthF_lt (c := c) (r := r + 1) (j := j) h
      omega
    · rw [hp, if_pos rfl] at h
      by_cases e : left = 0
      · rw [if_pos e] at h; cases h; omega
      · rw [if_neg e] at h
        have := kthF_lt (c := c) (r := r + 1) (j := j) h
        omega
def stE (V : wV) (r : Nat) : Bool := decide (V.1 2 ≤ absI (V.2.2 0 2 r - V.2.2 0 2 (r - 1)))
section ST
variable {V : wV} {hs : List wV} {tl : Nat} {tx : Nat → Int32} {M : wM}
theorem stepEnd_c {r : Nat} (hV : OkV V) (hR : RC V 1 M) (h0 : 0 < r) (hr : r < V.2.1 0) : fX2_isStepEnd 1 (nI r) M = some (stE V r) := by
  have hn := hV.n (w := 0) (by omega)
  have hk := kd_tk (show kd 1 = 2 from rfl) (w := 0) (by omega)
  have hT := hR.2 0 (by omega)
  unfold fX2_isStepEnd stE
  rw [show (1 : Nat) + 1 = tk 1 0 from rfl, tv2 hk hT hn hr, bs, nIm1 h0, tv2 hk hT hn (by omega), bs, show M.1 1 6 = V.1 2 from hR.1 2 (by omega)]
  rw [show (if (0 : Int32) ≤ V.2.2 0 2 r - V.2.2 0 2 (r - 1) then V.2.2 0 2 r - V.2.2 0 2 (r - 1) else 0 - (V.2.2 0 2 r - V.2.2 0 2 (r - 1))) = absI (V.2.2 0 2 r - V.2.2 0 2 (r - 1)) from rfl]
  by_cases h : absI (V.2.2 0 2 r - V.2.2 0 2 (r - 1)) < V.1 2
  · rw [if_pos h, decide_eq_false (Int32.not_le.mpr h)]
  · rw [if_neg h, decide_eq_true (Int32.not_lt.mp h)]
theorem absI_m {V : wV} {r : Nat} (hV : OkV V) (h0 : 0 < r) (hr : r < V.2.1 0) : stE V r = true ↔ (V.1 2 ≤ V.2.2 0 2 r - V.2.2 0 2 (r - 1) ∨ ¬ -(V.1 2) < V.2.2 0 2 r - V.2.2 0 2 (r - 1)) := by
  have a := (hV.r (w := 0) (by omega) hr).2.2
  have b := (hV.r (w := 0) (r := r - 1) (by omega) (by omega)).2.2
  have s := hV.s.2.2
  have e : (V.2.2 0 2 r - V.2.2 0 2 (r - 1)).toInt = (V.2.2 0 2 r).toInt - (V.2.2 0 2 (r - 1)).toInt := fb_subI (by omega) (by omega)
  unfold stE
  rw [decide_eq_true_eq]
  generalize V.2.2 0 2 r - V.2.2 0 2 (r - 1) = v at e ⊢
  have h0' : (0 : Int32).toInt = 0 := by decide
  have n : (-(V.1 2)).toInt = -(V.1 2).toInt := fb_negI (by omega)
  unfold absI
  by_cases h : (0 : Int32) ≤ v
  · have h' := Int32.le_iff_toInt_le.mp h
    rw [if_pos h, Int32.le_iff_toInt_le, Int32.lt_iff_toInt_lt, n]
    omega
  · have h' : ¬ (0 : Int32).toInt ≤ v.toInt := fun q => h (Int32.le_iff_toInt_le.mpr q)
    have e2 : (0 - v).toInt = 0 - v.toInt := fb_subI (by rw [h0']; omega) (by rw [h0']; omega)
    rw [if_neg h, Int32.le_iff_toInt_le, Int32.le_iff_toInt_le, Int32.lt_iff_toInt_lt, n, e2]
    omega
end ST

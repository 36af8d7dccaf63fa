/-! the pressure for a height -/
theorem rawZ_step {h bp bt p c : Int} (h1 : 50000 ≤ bp ∧ bp ≤ 110000) (h2 : -300 ≤ bt ∧ bt ≤ 500) (h3 : 50000 ≤ p ∧ p < 110000) (h4 : -300 ≤ c ∧ c ≤ 500) : rawZ h bp bt (p + 1) c ≤ rawZ h bp bt p c := by
  unfold rawZ
  have w1 : 0 ≤ 2930 * (2732 + (bt + c) / 2) := by omega
  generalize 2930 * (2732 + (bt + c) / 2) = K at w1
  have d0 : 0 < (bp + p) / 2 := by omega
  have d1 : 0 < (bp + (p + 1)) / 2 := by omega
  have key : (bp - (p + 1)) * ((bp + p) / 2) ≤ (bp - p) * ((bp + (p + 1)) / 2) := by
    have e : bp - (p + 1) = (bp - p) - 1 := by omega
    rw [e, Int.sub_mul]
    rcases (show (bp + (p + 1)) / 2 = (bp + p) / 2 ∨ (bp + (p + 1)) / 2 = (bp + p) / 2 + 1 by omega) with q | q
    · rw [q]; omega
    · rw [q, Int.mul_add]; omega
  generalize (bp + p) / 2 = D at d0 key
  generalize (bp + (p + 1)) / 2 = D' at d1 key
  have key2 : K * (bp - (p + 1)) * D ≤ K * (bp - p) * D' := by
    rw [Int.mul_assoc, Int.mul_assoc]
    exact Int.mul_le_mul_of_nonneg_left key w1
  generalize K * (bp - (p + 1)) = N' at key2
  generalize K * (bp - p) = N at key2
  have q1 : N' / D' * D' ≤ N' := Int.ediv_mul_le N' (by omega)
  have q2 : N' / D' ≤ N / D := by
    rw [Int.le_ediv_iff_mul_le d0]
    have m := Int.mul_le_mul_of_nonneg_right q1 (show (0 : Int) ≤ D by omega)
    have m2 : N' / D' * D * D' ≤ N * D' := by
      rw [Int.mul_right_comm]
      omega
    exact Int.le_of_mul_le_mul_right m2 d1
  omega
def hP (V : wV) (t c x : Int32) (g : Nat) : Bool := decide (x.toInt ≤ rawZ (V.1 0).toInt (bv V 1 t) (bv V 2 t) (50000 + (g : Int)) c.toInt)
def lastF (P : Nat → Bool) : Nat → Nat
  | 0 => 0
  | n + 1 => if P (n + 1) then n + 1 else lastF P n
theorem lastF_spec {P : Nat → Bool} : ∀ n, P 0 = true → P (lastF P n) = true ∧ lastF P n ≤ n ∧ ∀ g, lastF P n < g → g ≤ n → P g = false
  | 0, h => ⟨h, Nat.le_refl _, fun g h1 h2 => absurd h1 (by unfold lastF; omega)⟩
  | n + 1, h => by
    unfold lastF
    cases e : P (n + 1)
    · obtain ⟨a, b, c⟩ := lastF_spec n h
      rw [if_neg (by decide)]
      refine ⟨a, by omega, fun g h1 h2 => ?_⟩
      rcases Nat.eq_or_lt_of_le h2 with rfl | q
      · exact e
      · exact c g h1 (by omega)
    · rw [if_pos rfl]
      exact ⟨e, Nat.le_refl _, fun g h1 h2 => absurd h1 (by omega)⟩
section PF
variable {V : wV} {hs : List wV} {tl : Nat} {tx : Nat → Int32} {t c x : Int32}
theorem hP_step (hV : OkV V) (hb : hasB V t = true) (hc : -300 ≤ c.toInt ∧ c.toInt ≤ 500) {g : Nat} (hg : g < 60000) (h : hP V t c x (g + 1) = true) : hP V t c x g = true := by
  unfold hP at h ⊢
  rw [decide_eq_true_eq] at h ⊢
  obtain ⟨b1, b2⟩ := bv_b hV hb
  have s := rawZ_step (h := (V.1 0).toInt) (bp := bv V 1 t) (bt := bv V 2 t) (p := 50000 + (g : Int)) (c := c.toInt) b1 b2 (by omega) hc
  rw [show (50000 : Int) + ((g + 1 : Nat) : Int) = 50000 + (g : Int) + 1 by omega] at h
  omega
theorem hP_mono (hV : OkV V) (hb : hasB V t = true) (hc : -300 ≤ c.toInt ∧ c.toInt ≤ 500) : ∀ (d g : Nat), g + d ≤ 60000 → hP V t c x (g + d) = true → hP V t c x g = true
  | 0, g, _, h => h
  | d + 1, g, hd, h => hP_mono hV hb hc d g (by omega) (hP_step hV hb hc (by omega) h)
theorem pI_b {g : Nat} (hg : g ≤ 60000) : 50000 ≤ (nI (50000 + g)).toInt ∧ (nI (50000 + g)).toInt ≤ 110000 := by rw [nI_toInt (by omega)]; omega
theorem hP_lt (hV : OkV V) (hb : hasB V t = true) (hc : -300 ≤ c.toInt ∧ c.toInt ≤ 500) {g : Nat} (hg : g ≤ 60000) : (hI (hgt V t (nI (50000 + g)) c) < x ↔ hP V t c x g = false) ∧ hI (hgt V t (nI (50000 + g)) c) ≠ -2000000004 := by
  have hz : hgt V t (nI (50000 + g)) c = some (rawZ (V.1 0).toInt (bv V 1 t) (bv V 2 t) (50000 + (g : Int)) c.toInt) := by
    unfold hgt
    rw [if_pos hb, nI_toInt (by omega)]
    rfl
  have b := hgt_b hV (pI_b hg) hc hz
  have e : (Int32.ofInt (rawZ (V.1 0).toInt (bv V 1 t) (bv V 2 t) (50000 + (g : Int)) c.toInt)).toInt = rawZ (V.1 0).toInt (bv V 1 t) (bv V 2 t) (50000 + (g : Int)) c.toInt := fb_ofI (by omega) (by omega)
  rw [hz]
  unfold hI hP
  constructor
  · rw [Int32.lt_iff_toInt_lt, e, decide_eq_false_iff_not]
    omega
  · intro q
    have q2 := congrArg Int32.toInt q
    dsimp only at q2
    rw [e, show (-2000000004 : Int32).toInt = -2000000004 from by decide] at q2
    omega
end PF

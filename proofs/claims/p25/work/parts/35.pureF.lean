/-! plain facts of numbers (out of the kit's COUNTS.to-paste) -/
theorem fb_rng (x : Int32) : -2147483648 ≤ x.toInt ∧ x.toInt < 2147483648 := by
  have h1 := Int32.le_toInt x
  have h2 := Int32.toInt_lt x
  omega
theorem fb_bmod {z : Int} (h1 : -2147483648 ≤ z) (h2 : z < 2147483648) : z.bmod (2 ^ 32) = z := by
  rw [Int.bmod_eq_of_le (by omega) (by omega)]
theorem fb_addI {x y : Int32} (h1 : -2147483648 ≤ x.toInt + y.toInt) (h2 : x.toInt + y.toInt < 2147483648) : (x + y).toInt = x.toInt + y.toInt := by
  rw [Int32.toInt_add, fb_bmod h1 h2]
theorem fb_subI {x y : Int32} (h1 : -2147483648 ≤ x.toInt - y.toInt) (h2 : x.toInt - y.toInt < 2147483648) : (x - y).toInt = x.toInt - y.toInt := by
  rw [Int32.toInt_sub, fb_bmod h1 h2]
theorem fb_mulI {x y : Int32} (h1 : -2147483648 ≤ x.toInt * y.toInt) (h2 : x.toInt * y.toInt < 2147483648) : (x * y).toInt = x.toInt * y.toInt := by
  rw [Int32.toInt_mul, fb_bmod h1 h2]
theorem fb_negI {x : Int32} (h : x.toInt ≠ -2147483648) : (-x).toInt = -x.toInt := by
  have := fb_rng x
  rw [Int32.toInt_neg, fb_bmod (by omega) (by omega)]
theorem fb_ofI {z : Int} (h1 : -2147483648 ≤ z) (h2 : z < 2147483648) : (Int32.ofInt z).toInt = z := by
  rw [Int32.toInt_ofInt, fb_bmod h1 h2]
theorem fb_asI (x : Int32) : Int32.ofInt x.toInt = x := Int32.ofInt_toInt x
theorem fb_rngL (x : Int64) : -9223372036854775808 ≤ x.toInt ∧ x.toInt < 9223372036854775808 := by
  have h1 := Int64.le_toInt x
  have h2 := Int64.toInt_lt x
  omega
theorem fb_bmodL {z : Int} (h1 : -9223372036854775808 ≤ z) (h2 : z < 9223372036854775808) : z.bmod (2 ^ 64) = z := by
  rw [Int.bmod_eq_of_le (by omega) (by omega)]
theorem fb_addL {x y : Int64} (h1 : -9223372036854775808 ≤ x.toInt + y.toInt) (h2 : x.toInt + y.toInt < 9223372036854775808) : (x + y).toInt = x.toInt + y.toInt := by
  rw [Int64.toInt_add, fb_bmodL h1 h2]
theorem fb_subL {x y : Int64} (h1 : -9223372036854775808 ≤ x.toInt - y.toInt) (h2 : x.toInt - y.toInt < 9223372036854775808) : (x - y).toInt = x.toInt - y.toInt := by
  rw [Int64.toInt_sub, fb_bmodL h1 h2]
theorem fb_mulL {x y : Int64} (h1 : -9223372036854775808 ≤ x.toInt * y.toInt) (h2 : x.toInt * y.toInt < 9223372036854775808) : (x * y).toInt = x.toInt * y.toInt := by
  rw [Int64.toInt_mul, fb_bmodL h1 h2]
/-! floor division of longs: the class's and the reference's -/
def dn (x y : Int64) : Int64 := Int64.ofInt (x.toInt / y.toInt)
theorem fb_ofL {z : Int} (h1 : -9223372036854775808 ≤ z) (h2 : z < 9223372036854775808) : (Int64.ofInt z).toInt = z := by
  rw [Int64.toInt_ofInt, fb_bmodL h1 h2]
theorem ediv_b {X Y : Int} (hY : 0 < Y) (h1 : -9223372036854775808 ≤ X) (h2 : X < 9223372036854775808) : -9223372036854775808 ≤ X / Y ∧ X / Y < 9223372036854775808 := by
  constructor
  · rw [Int.le_ediv_iff_mul_le hY]; omega
  · rw [Int.ediv_lt_iff_lt_mul hY]; omega
theorem dn_toInt {x y : Int64} (hy : 0 < y.toInt) : (dn x y).toInt = x.toInt / y.toInt := by
  have hb := fb_rngL x
  have h := ediv_b hy hb.1 hb.2
  exact fb_ofL h.1 h.2
theorem dn_of {x y z : Int64} (h : z.toInt = x.toInt / y.toInt) : z = dn x y := by
  unfold dn
  rw [← h, Int64.ofInt_toInt]
theorem quo {x y : Int64} (hy : 0 < y.toInt) : (x / y).toInt = x.toInt / y.toInt + if 0 ≤ x.toInt ∨ x.toInt % y.toInt = 0 then 0 else 1 := by
  have h1 : y ≠ -1 := fun q => by rw [q] at hy; exact absurd hy (by decide)
  rw [Int64.toInt_div_of_ne_right _ _ h1, Int.tdiv_eq_ediv]
  have h2 : (y.toInt ∣ x.toInt) ↔ x.toInt % y.toInt = 0 := Int.dvd_iff_emod_eq_zero
  have h3 : y.toInt.sign = 1 := Int.sign_eq_one_of_pos hy
  rw [h3]
  congr 1
  by_cases a : 0 ≤ x.toInt
  · rw [if_pos (Or.inl a), if_pos (Or.inl a)]
  · by_cases b : x.toInt % y.toInt = 0
    · rw [if_pos (Or.inr (h2.mpr b)), if_pos (Or.inr b)]
    · rw [if_neg (fun q => q.elim a (fun q => b (h2.mp q))), if_neg (fun q => q.elim a b)]
theorem quoMul {x y : Int64} (hy : 0 < y.toInt) : (x / y * y).toInt = x.toInt - x.toInt % y.toInt + if 0 ≤ x.toInt ∨ x.toInt % y.toInt = 0 then 0 else y.toInt := by
  have hb := fb_rngL x
  have hby := fb_rngL y
  have e := Int.mul_ediv_add_emod x.toInt y.toInt
  have r1 := Int.emod_nonneg x.toInt (show y.toInt ≠ 0 by omega)
  have r2 := Int.emod_lt_of_pos x.toInt hy
  have hd := ediv_b hy hb.1 hb.2
  have em : (x / y).toInt * y.toInt = x.toInt - x.toInt % y.toInt + if 0 ≤ x.toInt ∨ x.toInt % y.toInt = 0 then 0 else y.toInt := by
    rw [quo hy, Int.add_mul, Int.mul_comm (x.toInt / y.toInt)]
    split <;> omega
  rw [fb_mulL]
  · exact em
  · rw [em]; split <;> omega
  · rw [em]; split
    · omega
    · next h => omega
theorem xorS {x y : Int64} (hy : 0 < y.toInt) : (0 : Int32) ≤ lg_cmp (x ^^^ y) (0 : Int64) ↔ 0 ≤ x.toInt := by
  rw [lg_cmp_ge, Int64.le_iff_toInt_le]
  have h0 : (0 : Int64).toInt = 0 := by decide
  rw [h0]
  have m : ∀ z : Int64, (0 ≤ z.toInt) ↔ z.toBitVec.msb = false := fun z => by
    rw [← Int64.toInt_toBitVec, BitVec.msb_eq_toInt, decide_eq_false_iff_not, Int.not_lt]
  rw [m, m, Int64.toBitVec_xor, BitVec.msb_xor, (m y).mp (by omega), Bool.xor_false]
theorem dd_c {x y : Int64} {M : wM} (hy : 0 < y.toInt) : fX6_divideDown x y M = some (dn x y) := by
  have y0 : ¬ y = 0 := fun q => by rw [q] at hy; exact absurd hy (by decide)
  have hb := fb_rngL x
  have hby := fb_rngL y
  have h1 : (1 : Int64).toInt = 1 := by decide
  have r1 := Int.emod_nonneg x.toInt (show y.toInt ≠ 0 by omega)
  have r2 := Int.emod_lt_of_pos x.toInt hy
  have hq := quo (x := x) hy
  have hd := ediv_b hy hb.1 hb.2
  unfold fX6_divideDown
  rw [if_neg (by rw [lg_cmp_eq]; exact y0)]
  unfold fJ9_floorDiv_f86c9 fJ9_floorDiv_f86c9_J27
  rw [show dvL x y = some (x / y) from if_neg y0]
  simp only [bs, lg_cmp_eq]
  by_cases hx : 0 ≤ x.toInt
  · rw [if_pos ((xorS hy).mpr hx), bs]
    rw [if_pos (Or.inl hx)] at hq
    exact congrArg some (dn_of (by omega))
  · rw [if_neg (fun q => hx ((xorS hy).mp q))]
    by_cases hr : x.toInt % y.toInt = 0
    · rw [if_pos (Int64.toInt_inj.mp (by rw [quoMul hy, if_pos (Or.inr hr)]; omega)), bs]
      rw [if_pos (Or.inr hr)] at hq
      exact congrArg some (dn_of (by omega))
    · have hne : ¬ (0 ≤ x.toInt ∨ x.toInt % y.toInt = 0) := fun q => q.elim hx hr
      rw [if_neg (fun q => by
        have q2 := congrArg Int64.toInt q
        rw [quoMul hy, if_neg hne] at q2
        omega), bs]
      rw [if_neg hne] at hq
      refine congrArg some (dn_of ?_)
      rw [fb_subL (by rw [hq]; omega) (by rw [hq]; omega), hq]
      omega
/-- floor division of an int by 2, as the class does it -/
theorem fl2 {x : Int32} {M : wM} : ∃ r : Int32, fJ9_floorDiv_7cf53 x (2 : Int32) M = some r ∧ r.toInt = x.toInt / 2 := by
  have h2 : (2 : Int32).toInt = 2 := by decide
  have h1 : (1 : Int32).toInt = 1 := by decide
  have h0 : (0 : Int32).toInt = 0 := by decide
  have hb := fb_rng x
  have hq : (x / 2).toInt = x.toInt / 2 + if 0 ≤ x.toInt ∨ x.toInt % 2 = 0 then 0 else 1 := by
    rw [Int32.toInt_div_of_ne_right _ _ (by decide), h2, Int.tdiv_eq_ediv]
    have h3 : ((2 : Int) ∣ x.toInt) ↔ x.toInt % 2 = 0 := Int.dvd_iff_emod_eq_zero
    congr 1
    by_cases a : 0 ≤ x.toInt
    · rw [if_pos (Or.inl a), if_pos (Or.inl a)]
    · by_cases b : x.toInt % 2 = 0
      · rw [if_pos (Or.inr (h3.mpr b)), if_pos (Or.inr b)]
      · rw [if_neg (fun q => q.elim a (fun q => b (h3.mp q))), if_neg (fun q => q.elim a b)]; rfl
  have hx : (0 : Int32) ≤ (x ^^^ 2) ↔ 0 ≤ x.toInt := by
    rw [Int32.le_iff_toInt_le, h0]
    have m : ∀ z : Int32, (0 ≤ z.toInt) ↔ z.toBitVec.msb = false := fun z => by
      rw [← Int32.toInt_toBitVec, BitVec.msb_eq_toInt, decide_eq_false_iff_not, Int.not_lt]
    rw [m, m, Int32.toBitVec_xor, BitVec.msb_xor, (m 2).mp (by decide), Bool.xor_false]
  have hm : (x / 2 * 2).toInt = (x.toInt / 2 + if 0 ≤ x.toInt ∨ x.toInt % 2 = 0 then 0 else 1) * 2 := by
    rw [fb_mulI, hq, h2]
    · rw [hq, h2]; split <;> omega
    · rw [hq, h2]; split <;> omega
  unfold fJ9_floorDiv_7cf53
  rw [show dvI x 2 = some (x / 2) from if_neg (by decide), bs]
  by_cases a : 0 ≤ x.toInt
  · rw [if_pos (hx.mpr a)]
    rw [if_pos (Or.inl a)] at hq
    exact ⟨_, rfl, by omega⟩
  · rw [if_neg (fun q => a (hx.mp q))]
    by_cases b : x.toInt % 2 = 0
    · rw [if_pos (Int32.toInt_inj.mp (by rw [hm, if_pos (Or.inr b)]; omega))]
      rw [if_pos (Or.inr b)] at hq
      exact ⟨_, rfl, by omega⟩
    · have hne : ¬ (0 ≤ x.toInt ∨ x.toInt % 2 = 0) := fun q => q.elim a b
      rw [if_neg (fun q => by
        have q2 := congrArg Int32.toInt q
        rw [hm, if_neg hne] at q2
        omega)]
      rw [if_neg hne] at hq
      refine ⟨_, rfl, ?_⟩
      rw [fb_subI (by rw [hq]; omega) (by rw [hq]; omega), hq]
      omega

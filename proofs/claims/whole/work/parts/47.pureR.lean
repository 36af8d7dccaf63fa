/-! steps -/
def kthF (p : Nat → Bool) : Nat → Nat → Nat → Option Nat
  | _, _, 0 => none
  | left, r, c + 1 => if p r then (if left = 0 then some r else kthF p (left - 1) (r + 1) c) else kthF p left (r + 1) c
def cntR (p : Nat → Bool) : Nat → Nat → Nat
  | _, 0 => 0
  | r, c + 1 => (if p r then 1 else 0) + cntR p (r + 1) c
theorem cntR_le {p : Nat → Bool} : ∀ {c r : Nat}, cntR p r c ≤ c
  | 0, r => Nat.le_refl _
  | c + 1, r => by
    have := cntR_le (p := p) (c := c) (r := r + 1)
    unfold cntR
    split <;> omega
theorem kthF_none {p : Nat → Bool} : ∀ {c r left : Nat}, kthF p left r c = none ↔ cntR p r c ≤ left
  | 0, r, left => by simp [kthF, cntR]
  | c + 1, r, left => by
    unfold kthF cntR
    cases h : p r
    · simp only [Bool.false_eq_true, if_false, Nat.zero_add]
      exact kthF_none
    · simp only [if_true]
      by_cases e : left = 0
      · rw [if_pos e]
        constructor
        · intro q; cases q
        · intro q; omega
      · rw [if_neg e, kthF_none]
        omega
theorem kthF_lt {p : Nat → Bool} : ∀ {c r left j : Nat}, kthF p left r c = some j → j < r + c
  | 0, r, left, j, h => by cases h
  | c + 1, r, left, j, h => by
    unfold kthF at h
    cases hp : p r
    · rw [hp] at h
      have := kthF_lt (c := c) (r := r + 1) (j := j) h
      omega
    · rw [hp, if_pos rfl] at h
      by_cases e : left = 0
      · rw [if_pos e] at h; cases h; omega
      · rw [if_neg e] at h
        have := kthF_lt (c := c) (r := r + 1) (j := j) h
        omega
def stE (V : wV) (r : Nat) : Bool := decide (V.1 2 ≤ absI (V.2.2 0 2 r - V.2.2 0 2 (r - 1)))
section ST
variable {V : wV} {hs : List wV} {tl : Nat} {tx : Nat → Int32} {M : wM}
theorem stepEnd_c {r : Nat} (hV : OkV V) (hR : RC V 1 M) (h0 : 0 < r) (hr : r < V.2.1 0) : fX2_isStepEnd 1 (nI r) M = some (stE V r) := by
  have hn := hV.n (w := 0) (by omega)
  have hk := kd_tk (show kd 1 = 2 from rfl) (w := 0) (by omega)
  have hT := hR.2 0 (by omega)
  unfold fX2_isStepEnd stE
  rw [show (1 : Nat) + 1 = tk 1 0 from rfl, tv2 hk hT hn hr, bs, nIm1 h0, tv2 hk hT hn (by omega), bs, show M.1 1 6 = V.1 2 from hR.1 2 (by omega)]
  rw [show (if (0 : Int32) ≤ V.2.2 0 2 r - V.2.2 0 2 (r - 1) then V.2.2 0 2 r - V.2.2 0 2 (r - 1) else 0 - (V.2.2 0 2 r - V.2.2 0 2 (r - 1))) = absI (V.2.2 0 2 r - V.2.2 0 2 (r - 1)) from rfl]
  by_cases h : absI (V.2.2 0 2 r - V.2.2 0 2 (r - 1)) < V.1 2
  · rw [if_pos h, decide_eq_false (Int32.not_le.mpr h)]
  · rw [if_neg h, decide_eq_true (Int32.not_lt.mp h)]
theorem stepE_L {i : Nat} (hV : OkV V) (hR : RC V 1 M) (hi : i < 2 ^ 31) : ∀ (c r s fu : Nat), c = V.2.1 0 - r → 0 < r → r ≤ 13 → s ≤ i → s < r → c < fu → fX2_stepEnd_L4 1 (nI i) M fu (nI s) (nI r) = some (oI (kthF (stE V) (i - s) r c))
  | 0, r, s, fu, hc, h0, h13, hsi, hsr, hfu => by
    obtain ⟨fu, rfl⟩ : ∃ z, fu = z + 1 := ⟨fu - 1, by omega⟩
    have hn := hV.n (w := 0) (by omega)
    show fX2_stepEnd_B4 1 _ M _ _ _ = _
    unfold fX2_stepEnd_B4
    rw [show (1 : Nat) + 1 = tk 1 0 from rfl, (hR.2 0 (by omega)).1, if_pos ((nI_leI (by omega) (by omega)).mpr (by omega))]
    rfl
  | c + 1, r, s, fu, hc, h0, h13, hsi, hsr, hfu => by
    obtain ⟨fu, rfl⟩ : ∃ z, fu = z + 1 := ⟨fu - 1, by omega⟩
    have hn := (hV.2 0 (by omega)).1
    rw [show cap 0 = 12 from rfl] at hn
    show fX2_stepEnd_B4 1 _ M _ _ _ = _
    unfold fX2_stepEnd_B4
    rw [show (1 : Nat) + 1 = tk 1 0 from rfl, (hR.2 0 (by omega)).1, if_neg (by rw [nI_leI (by omega) (by omega)]; omega), stepEnd_c hV hR h0 (by omega), bs]
    unfold kthF
    cases h : stE V r
    · rw [if_pos (show b2 false = 0 from rfl), nIp1, stepE_L hV hR hi c (r + 1) s fu (by omega) (by omega) (by omega) hsi (by omega) (by omega)]
      rfl
    · rw [if_neg (show ¬ b2 true = 0 from by decide)]
      by_cases e : s = i
      · rw [if_pos ((nI_eq (by omega) (by omega)).mpr e), if_pos rfl, if_pos (by omega)]
        rfl
      · rw [if_neg (by rw [nI_eq (by omega) (by omega)]; exact e), nIp1, nIp1, stepE_L hV hR hi c (r + 1) (s + 1) fu (by omega) (by omega) (by omega) (by omega) (by omega) (by omega), if_pos rfl, if_neg (by omega), show i - s - 1 = i - (s + 1) by omega]
theorem stepE_neg {x : Int32} (hV : OkV V) (hR : RC V 1 M) (hx : x < 0) : ∀ (c r s fu : Nat), c = V.2.1 0 - r → 0 < r → r ≤ 13 → s < r → c < fu → fX2_stepEnd_L4 1 x M fu (nI s) (nI r) = some (-1)
  | 0, r, s, fu, hc, h0, h13, hsr, hfu => by
    obtain ⟨fu, rfl⟩ : ∃ z, fu = z + 1 := ⟨fu - 1, by omega⟩
    have hn := hV.n (w := 0) (by omega)
    show fX2_stepEnd_B4 1 _ M _ _ _ = _
    unfold fX2_stepEnd_B4
    rw [show (1 : Nat) + 1 = tk 1 0 from rfl, (hR.2 0 (by omega)).1, if_pos ((nI_leI (by omega) (by omega)).mpr (by omega))]
  | c + 1, r, s, fu, hc, h0, h13, hsr, hfu => by
    obtain ⟨fu, rfl⟩ : ∃ z, fu = z + 1 := ⟨fu - 1, by omega⟩
    have hn := (hV.2 0 (by omega)).1
    rw [show cap 0 = 12 from rfl] at hn
    show fX2_stepEnd_B4 1 _ M _ _ _ = _
    unfold fX2_stepEnd_B4
    rw [show (1 : Nat) + 1 = tk 1 0 from rfl, (hR.2 0 (by omega)).1, if_neg (by rw [nI_leI (by omega) (by omega)]; omega), stepEnd_c hV hR h0 (by omega), bs]
    cases h : stE V r
    · rw [if_pos (show b2 false = 0 from rfl), nIp1]
      exact stepE_neg hV hR hx c (r + 1) s fu (by omega) (by omega) (by omega) (by omega) (by omega)
    · rw [if_neg (show ¬ b2 true = 0 from by decide), if_neg (show ¬ nI s = x from fun e => nI_pos (n := s) (by omega) (by rw [e]; exact hx)), nIp1, nIp1]
      exact stepE_neg hV hR hx c (r + 1) (s + 1) fu (by omega) (by omega) (by omega) (by omega) (by omega)
theorem absI_m {V : wV} {r : Nat} (hV : OkV V) (h0 : 0 < r) (hr : r < V.2.1 0) : stE V r = true ↔ (V.1 2 ≤ V.2.2 0 2 r - V.2.2 0 2 (r - 1) ∨ ¬ -(V.1 2) < V.2.2 0 2 r - V.2.2 0 2 (r - 1)) := by
  have a := (hV.r (w := 0) (by omega) hr).2.2
  have b := (hV.r (w := 0) (r := r - 1) (by omega) (by omega)).2.2
  have s := hV.s.2.2
  have e : (V.2.2 0 2 r - V.2.2 0 2 (r - 1)).toInt = (V.2.2 0 2 r).toInt - (V.2.2 0 2 (r - 1)).toInt := fb_subI (by omega) (by omega)
  unfold stE
  rw [decide_eq_true_eq]
  generalize V.2.2 0 2 r - V.2.2 0 2 (r - 1) = v at e ⊢
  have h0' : (0 : Int32).toInt = 0 := by decide
  have n : (-(V.1 2)).toInt = -(V.1 2).toInt := fb_negI (by omega)
  unfold absI
  by_cases h : (0 : Int32) ≤ v
  · have h' := Int32.le_iff_toInt_le.mp h
    rw [if_pos h, Int32.le_iff_toInt_le, Int32.lt_iff_toInt_lt, n]
    omega
  · have h' : ¬ (0 : Int32).toInt ≤ v.toInt := fun q => h (Int32.le_iff_toInt_le.mpr q)
    have e2 : (0 - v).toInt = 0 - v.toInt := fb_subI (by rw [h0']; omega) (by rw [h0']; omega)
    rw [if_neg h, Int32.le_iff_toInt_le, Int32.le_iff_toInt_le, Int32.lt_iff_toInt_lt, n, e2]
    omega
theorem stepsTo_L {x : Int32} (hV : OkV V) (hR : RMr V 97 0 M) : ∀ (c r left fu : Nat), c = V.2.1 0 - r → 0 < r → r ≤ 13 → left < 2 ^ 31 → c < fu → fX7_stepsTo_L4 x M fu (nI left) (nI r) = some (oI (kthF (stE V) left r c))
  | 0, r, left, fu, hc, h0, h13, hl, hfu => by
    obtain ⟨fu, rfl⟩ : ∃ z, fu = z + 1 := ⟨fu - 1, by omega⟩
    have hn := hV.n (w := 0) (by omega)
    show fX7_stepsTo_B4 x M _ _ _ = _
    unfold fX7_stepsTo_B4
    rw [show ix (3 : Int32) (ln 97) = some 3 from cnt_ix (w := 0) (by omega), bs, (hR.D (w := 0) (by omega)).1, if_pos ((nI_leI (by omega) (by omega)).mpr (by omega))]
    rfl
  | c + 1, r, left, fu, hc, h0, h13, hl, hfu => by
    obtain ⟨fu, rfl⟩ : ∃ z, fu = z + 1 := ⟨fu - 1, by omega⟩
    have hn := (hV.2 0 (by omega)).1
    rw [show cap 0 = 12 from rfl] at hn
    have i2 : ix (2 : Int32) (ln 97) = some 2 := ix_in (k := 2) (by rw [ln97]; omega) (by rw [ln97]; omega)
    have o2 : ∀ q, q < V.2.1 0 → fX7_of (0 : Int32) (40 : Int32) (nI q) M = some (V.2.2 0 2 q) := fun q hq => of2 (w := 0) (by omega) (hR.D (by omega)) (by omega) hq
    show fX7_stepsTo_B4 x M _ _ _ = _
    unfold fX7_stepsTo_B4
    rw [show ix (3 : Int32) (ln 97) = some 3 from cnt_ix (w := 0) (by omega), bs, (hR.D (w := 0) (by omega)).1, if_neg (by rw [nI_leI (by omega) (by omega)]; omega), o2 r (by omega), bs, nIm1 h0, o2 (r - 1) (by omega), bs, i2, bs, bs, show M.1 97 2 = V.1 2 from hR.S (k := 2) (by omega)]
    have yes : stE V r = true → fX7_stepsTo_J58 x M (fX7_stepsTo_L4 x M fu) (nI left) (nI r) = some (oI (kthF (stE V) left r (c + 1))) := fun h => by
      unfold fX7_stepsTo_J58 kthF
      rw [h, if_pos rfl]
      by_cases e : left = 0
      · rw [if_pos (show nI left = 0 by rw [e]; rfl), if_pos e]
        rfl
      · rw [if_neg (nI_ne0 (by omega) hl), if_neg e, nId1 (by omega), nIp1]
        exact stepsTo_L hV hR c (r + 1) (left - 1) fu (by omega) (by omega) (by omega) (by omega) (by omega)
    have hm := absI_m hV h0 (show r < V.2.1 0 by omega)
    by_cases h1 : V.1 2 ≤ V.2.2 0 2 r - V.2.2 0 2 (r - 1)
    · rw [if_pos h1]; exact yes (hm.mpr (Or.inl h1))
    · rw [if_neg h1]
      by_cases h2 : -(V.1 2) < V.2.2 0 2 r - V.2.2 0 2 (r - 1)
      · have hf : stE V r = false := by
          rw [← Bool.not_eq_true]
          intro q
          exact (hm.mp q).elim h1 (fun z => z h2)
        have e : kthF (stE V) left r (c + 1) = kthF (stE V) left (r + 1) c := by
          rw [show kthF (stE V) left r (c + 1) = (if stE V r then (if left = 0 then some r else kthF (stE V) (left - 1) (r + 1) c) else kthF (stE V) left (r + 1) c) from rfl, hf]
          rfl
        rw [if_pos h2, nIp1, stepsTo_L hV hR c (r + 1) left fu (by omega) (by omega) (by omega) hl (by omega), e]
      · rw [if_neg h2]; exact yes (hm.mpr (Or.inr h2))
theorem both_step (ht : TXo tl tx) (hV : OkV V) (x : Int32) : Both V hs tl tx (pw (fX6_step x)) (pw (fX7_step x)) := by
  have hn := hV.n (w := 0) (by omega)
  by_cases hx : x < 0
  · refine Both.q ht (-2000000001) (fun M h => ⟨M, ?_, Fr.rf, h⟩) (fun M h => ⟨M, ?_, FrQ.rf⟩)
    · unfold pw fX6_step fX2_stepEnd
      have e := stepE_neg (x := x) hV h.2.1 hx (V.2.1 0 - 1) 1 0 FU rfl (by omega) (by omega) (by omega) (by unfold FU; omega)
      rw [show (0 : Int32) = nI 0 from rfl, show (1 : Int32) = nI 1 from rfl, e]
      rfl
    · unfold pw fX7_step
      rw [if_neg (Int32.not_le.mpr hx)]
      rfl
  · obtain ⟨i, hi, rfl⟩ := nI_of hx
    refine Both.q ht (if oI (kthF (stE V) i 1 (V.2.1 0 - 1)) = -1 then -2000000001 else oI (kthF (stE V) i 1 (V.2.1 0 - 1))) (fun M h => ⟨M, ?_, Fr.rf, h⟩) (fun M h => ⟨M, ?_, FrQ.rf⟩)
    · unfold pw fX6_step fX2_stepEnd
      have e := stepE_L (i := i) hV h.2.1 hi (V.2.1 0 - 1) 1 0 FU rfl (by omega) (by omega) (by omega) (by omega) (by unfold FU; omega)
      rw [show (0 : Int32) = nI 0 from rfl, show (1 : Int32) = nI 1 from rfl, e, bs, Nat.sub_zero]
      by_cases q : oI (kthF (stE V) i 1 (V.2.1 0 - 1)) = -1
      · rw [show (-nI 1 : Int32) = -1 from rfl] at *
        rw [if_pos q, if_pos q]; rfl
      · rw [show (-nI 1 : Int32) = -1 from rfl] at *
        rw [if_neg q, if_neg q]; rfl
    · unfold pw fX7_step fX7_stepsTo fX7_step_J13
      have e := stepsTo_L (x := nI i) hV h.2.1 (V.2.1 0 - 1) 1 i FU rfl (by omega) (by omega) hi (by unfold FU; omega)
      rw [if_pos (nI_pos' hi), show (1 : Int32) = nI 1 from rfl, e, bs]
      by_cases q : oI (kthF (stE V) i 1 (V.2.1 0 - 1)) = -1
      · rw [show (-nI 1 : Int32) = -1 from rfl] at *
        rw [if_pos q, if_pos q]; rfl
      · rw [show (-nI 1 : Int32) = -1 from rfl] at *
        rw [if_neg q, if_neg q]; rfl
end ST

/-! the pressure for a height -/
theorem rawZ_step {h bp bt p c : Int} (h1 : 50000 ≤ bp ∧ bp ≤ 110000) (h2 : -300 ≤ bt ∧ bt ≤ 500) (h3 : 50000 ≤ p ∧ p < 110000) (h4 : -300 ≤ c ∧ c ≤ 500) : rawZ h bp bt (p + 1) c ≤ rawZ h bp bt p c := by
  unfold rawZ
  have w1 : 0 ≤ 2930 * (2732 + (bt + c) / 2) := by omega
  generalize 2930 * (2732 + (bt + c) / 2) = K at w1
  have d0 : 0 < (bp + p) / 2 := by omega
  have d1 : 0 < (bp + (p + 1)) / 2 := by omega
  have key : (bp - (p + 1)) * ((bp + p) / 2) ≤ (bp - p) * ((bp + (p + 1)) / 2) := by
    have e : bp - (p + 1) = (bp - p) - 1 := by omega
    rw [e, Int.sub_mul]
    rcases (show (bp + (p + 1)) / 2 = (bp + p) / 2 ∨ (bp + (p + 1)) / 2 = (bp + p) / 2 + 1 by omega) with q | q
    · rw [q]; omega
    · rw [q, Int.mul_add]; omega
  generalize (bp + p) / 2 = D at d0 key
  generalize (bp + (p + 1)) / 2 = D' at d1 key
  have key2 : K * (bp - (p + 1)) * D ≤ K * (bp - p) * D' := by
    rw [Int.mul_assoc, Int.mul_assoc]
    exact Int.mul_le_mul_of_nonneg_left key w1
  generalize K * (bp - (p + 1)) = N' at key2
  generalize K * (bp - p) = N at key2
  have q1 : N' / D' * D' ≤ N' := Int.ediv_mul_le N' (by omega)
  have q2 : N' / D' ≤ N / D := by
    rw [Int.le_ediv_iff_mul_le d0]
    have m := Int.mul_le_mul_of_nonneg_right q1 (show (0 : Int) ≤ D by omega)
    have m2 : N' / D' * D * D' ≤ N * D' := by
      rw [Int.mul_right_comm]
      omega
    exact Int.le_of_mul_le_mul_right m2 d1
  omega
def hP (V : wV) (t c x : Int32) (g : Nat) : Bool := decide (x.toInt ≤ rawZ (V.1 0).toInt (bv V 1 t) (bv V 2 t) (50000 + (g : Int)) c.toInt)
def lastF (P : Nat → Bool) : Nat → Nat
  | 0 => 0
  | n + 1 => if P (n + 1) then n + 1 else lastF P n
theorem lastF_spec {P : Nat → Bool} : ∀ n, P 0 = true → P (lastF P n) = true ∧ lastF P n ≤ n ∧ ∀ g, lastF P n < g → g ≤ n → P g = false
  | 0, h => ⟨h, Nat.le_refl _, fun g h1 h2 => absurd h1 (by unfold lastF; omega)⟩
  | n + 1, h => by
    unfold lastF
    cases e : P (n + 1)
    · obtain ⟨a, b, c⟩ := lastF_spec n h
      rw [if_neg (by decide)]
      refine ⟨a, by omega, fun g h1 h2 => ?_⟩
      rcases Nat.eq_or_lt_of_le h2 with rfl | q
      · exact e
      · exact c g h1 (by omega)
    · rw [if_pos rfl]
      exact ⟨e, Nat.le_refl _, fun g h1 h2 => absurd h1 (by omega)⟩
section PF
variable {V : wV} {hs : List wV} {tl : Nat} {tx : Nat → Int32} {t c x : Int32}
theorem hP_step (hV : OkV V) (hb : hasB V t = true) (hc : -300 ≤ c.toInt ∧ c.toInt ≤ 500) {g : Nat} (hg : g < 60000) (h : hP V t c x (g + 1) = true) : hP V t c x g = true := by
  unfold hP at h ⊢
  rw [decide_eq_true_eq] at h ⊢
  obtain ⟨b1, b2⟩ := bv_b hV hb
  have s := rawZ_step (h := (V.1 0).toInt) (bp := bv V 1 t) (bt := bv V 2 t) (p := 50000 + (g : Int)) (c := c.toInt) b1 b2 (by omega) hc
  rw [show (50000 : Int) + ((g + 1 : Nat) : Int) = 50000 + (g : Int) + 1 by omega] at h
  omega
theorem hP_mono (hV : OkV V) (hb : hasB V t = true) (hc : -300 ≤ c.toInt ∧ c.toInt ≤ 500) : ∀ (d g : Nat), g + d ≤ 60000 → hP V t c x (g + d) = true → hP V t c x g = true
  | 0, g, _, h => h
  | d + 1, g, hd, h => hP_mono hV hb hc d g (by omega) (hP_step hV hb hc (by omega) h)
theorem pI_b {g : Nat} (hg : g ≤ 60000) : 50000 ≤ (nI (50000 + g)).toInt ∧ (nI (50000 + g)).toInt ≤ 110000 := by rw [nI_toInt (by omega)]; omega
theorem hP_lt (hV : OkV V) (hb : hasB V t = true) (hc : -300 ≤ c.toInt ∧ c.toInt ≤ 500) {g : Nat} (hg : g ≤ 60000) : (hI (hgt V t (nI (50000 + g)) c) < x ↔ hP V t c x g = false) ∧ hI (hgt V t (nI (50000 + g)) c) ≠ -2000000004 := by
  have hz : hgt V t (nI (50000 + g)) c = some (rawZ (V.1 0).toInt (bv V 1 t) (bv V 2 t) (50000 + (g : Int)) c.toInt) := by
    unfold hgt
    rw [if_pos hb, nI_toInt (by omega)]
    rfl
  have b := hgt_b hV (pI_b hg) hc hz
  have e : (Int32.ofInt (rawZ (V.1 0).toInt (bv V 1 t) (bv V 2 t) (50000 + (g : Int)) c.toInt)).toInt = rawZ (V.1 0).toInt (bv V 1 t) (bv V 2 t) (50000 + (g : Int)) c.toInt := fb_ofI (by omega) (by omega)
  rw [hz]
  unfold hI hP
  constructor
  · rw [Int32.lt_iff_toInt_lt, e, decide_eq_false_iff_not]
    omega
  · intro q
    have q2 := congrArg Int32.toInt q
    dsimp only at q2
    rw [e, show (-2000000004 : Int32).toInt = -2000000004 from by decide] at q2
    omega
theorem greatest_L {M : wM} {G : Nat} (hV : OkV V) (hb : hasB V t = true) (hc : -300 ≤ c.toInt ∧ c.toInt ≤ 500) (hR : RC V 1 M) (h1 : hP V t c x G = true) (h2 : ∀ g, G < g → g ≤ 60000 → hP V t c x g = false) : ∀ (k a b i fu : Nat), b - a < 2 ^ k → k + i ≤ 32 → a ≤ G → G ≤ b → b ≤ 60000 → k < fu → fX6_greatestPressure_L11 t c x M fu (nI (50000 + a)) (nI (50000 + b)) (nI i) = some (nI (50000 + G))
  | k, a, b, i, 0, hab, hki, ha, hb2, hb6, hfu => absurd hfu (by omega)
  | k, a, b, i, fu + 1, hab, hki, ha, hb2, hb6, hfu => by
    show fX6_greatestPressure_B11 t c x M _ _ _ _ = _
    unfold fX6_greatestPressure_B11
    by_cases e : b ≤ a
    · have q : a = G := by omega
      rw [q, if_pos (show nI (50000 + b) ≤ nI (50000 + G) from (nI_leI (by omega) (by omega)).mpr (by omega)), ite_self]
    · obtain ⟨k, rfl⟩ : ∃ z, k = z + 1 := by
        cases k with
        | zero => exact absurd hab (by omega)
        | succ z => exact ⟨z, rfl⟩
      rw [if_neg (by rw [show (32 : Int32) = nI 32 from rfl, nI_leI (by omega) (by omega)]; omega), if_neg (by rw [nI_leI (by omega) (by omega)]; omega)]
      have es : nI (50000 + b) - nI (50000 + a) = nI (b - a) := Int32.toInt_inj.mp (by
        rw [fb_subI (by rw [nI_toInt (by omega), nI_toInt (by omega)]; omega) (by rw [nI_toInt (by omega), nI_toInt (by omega)]; omega), nI_toInt (by omega), nI_toInt (by omega), nI_toInt (by omega)]
        omega)
      have hp : 2 ^ (k + 1) = 2 * 2 ^ k := by rw [Nat.pow_succ]; omega
      rw [es, nIp1, show dvI (nI (b - a + 1)) (2 : Int32) = some (nI (b - a + 1) / nI 2) from if_neg (by decide), pk_div (by omega) (by omega) (by omega), bs, nI_add]
      generalize hv : (b - a + 1) / 2 = v
      have v1 : 0 < v := by omega
      have v2 : v ≤ b - a := by omega
      have v3 : v - 1 < 2 ^ k := by omega
      have v4 : b - a - v < 2 ^ k := by omega
      rw [show 50000 + a + v = 50000 + (a + v) by omega, heightAt_s (show kd 1 = 2 from rfl) hV hR (pI_b (by omega)) hc, bs]
      have hl := (hP_lt (x := x) hV hb hc (g := a + v) (by omega)).1
      rw [nIp1]
      cases q : hP V t c x (a + v)
      · rw [if_pos (hl.mpr q), nIm1 (by omega), show 50000 + (a + v) - 1 = 50000 + (a + v - 1) by omega]
        have : G < a + v := by
          apply Nat.lt_of_not_le
          intro w
          have := hP_mono (x := x) hV hb hc (G - (a + v)) (a + v) (by omega) (by rw [show a + v + (G - (a + v)) = G by omega]; exact h1)
          rw [q] at this
          cases this
        exact greatest_L hV hb hc hR h1 h2 k a (a + v - 1) (i + 1) fu (by omega) (by omega) ha (by omega) (by omega) (by omega)
      · rw [if_neg (fun w => by rw [hl.mp w] at q; cases q)]
        have : a + v ≤ G := by
          apply Nat.le_of_not_lt
          intro w
          rw [h2 (a + v) w (by omega)] at q
          cases q
        exact greatest_L hV hb hc hR h1 h2 k (a + v) b (i + 1) fu (by omega) (by omega) this hb2 hb6 (by omega)
theorem down_L {M : wM} {G : Nat} (hV : OkV V) (hb : hasB V t = true) (hc : -300 ≤ c.toInt ∧ c.toInt ≤ 500) (h0 : M.1 97 0 = V.1 0) (b1 : M.1 96 15 = Int32.ofInt (bv V 1 t)) (b2' : M.1 96 16 = Int32.ofInt (bv V 2 t)) (h1 : hP V t c x G = true) (h2 : ∀ g, G < g → g ≤ 60000 → hP V t c x g = false) (tt : Int32) : ∀ (n fu : Nat), G ≤ n → n ≤ 60000 → n < fu → fX7_pressureFor_L53 tt c x fu (nI (50000 + n)) M = some (nI (50000 + G), M)
  | n, 0, _, _, h => absurd h (by omega)
  | n, fu + 1, hG, hn, hfu => by
    show fX7_pressureFor_B53 tt c x _ _ M = _
    unfold fX7_pressureFor_B53
    rw [if_neg (show ¬ nI (50000 + n) < (50000 : Int32) from by rw [show (50000 : Int32) = nI 50000 from rfl, nI_ltI (by omega) (by omega)]; omega), rawOf_m (t := t) hV hb h0 b1 b2' (pI_b hn) hc, bs]
    have hl := (hP_lt (x := x) hV hb hc (g := n) hn).1
    by_cases e : n = G
    · subst e
      rw [if_neg (fun w => by rw [hl.mp w] at h1; cases h1)]
    · rw [if_pos (hl.mpr (h2 n (by omega) hn)), nId1 (by omega), show 50000 + n - 1 = 50000 + (n - 1) by omega]
      exact down_L hV hb hc h0 b1 b2' h1 h2 tt (n - 1) fu (by omega) (by omega) (by omega)
theorem down_N {M : wM} (hV : OkV V) (hb : hasB V t = true) (hc : -300 ≤ c.toInt ∧ c.toInt ≤ 500) (h0 : M.1 97 0 = V.1 0) (b1 : M.1 96 15 = Int32.ofInt (bv V 1 t)) (b2' : M.1 96 16 = Int32.ofInt (bv V 2 t)) (h1 : hP V t c x 0 = false) (tt : Int32) : ∀ (n fu : Nat), n ≤ 60001 → n < fu → fX7_pressureFor_L53 tt c x fu (nI (49999 + n)) M = some (-2000000004, M)
  | n, 0, _, h => absurd h (by omega)
  | 0, fu + 1, hn, hfu => by
    show fX7_pressureFor_B53 tt c x _ _ M = _
    unfold fX7_pressureFor_B53
    rw [if_pos (show nI (49999 + 0) < (50000 : Int32) from by decide)]
  | n + 1, fu + 1, hn, hfu => by
    show fX7_pressureFor_B53 tt c x _ _ M = _
    unfold fX7_pressureFor_B53
    rw [show 49999 + (n + 1) = 50000 + n by omega, if_neg (show ¬ nI (50000 + n) < (50000 : Int32) from by rw [show (50000 : Int32) = nI 50000 from rfl, nI_ltI (by omega) (by omega)]; omega), rawOf_m (t := t) hV hb h0 b1 b2' (pI_b (by omega)) hc, bs]
    have hl := (hP_lt (x := x) hV hb hc (g := n) (by omega)).1
    have hf : hP V t c x n = false := by
      rw [← Bool.not_eq_true]
      intro q
      have := hP_mono (x := x) hV hb hc n 0 (by omega) (by rw [Nat.zero_add]; exact q)
      rw [h1] at this
      cases this
    rw [if_pos (hl.mpr hf), nId1 (by omega), show 50000 + n - 1 = 49999 + n by omega]
    exact down_N hV hb hc h0 b1 b2' h1 tt n fu (by omega) (by omega)
theorem both_pressureFor (ht : TXo tl tx) (hV : OkV V) (t c x : Int32) : Both V hs tl tx (pw (fX6_pressureFor t c x)) (fX7_pressureFor t c x) := by
  by_cases h1 : inR t 0 10000 = false
  · refine Both.q ht (-2000000001) (fun M h => ⟨M, ?_, Fr.rf, h⟩) (fun M h => ⟨M, ?_, FrQ.rf⟩)
    · unfold pw fX6_pressureFor fX6_isTime
      simp only [within_c, bs, h1]; rfl
    · unfold fX7_pressureFor
      rw [in_m, bs, h1]; rfl
  rw [Bool.not_eq_false] at h1
  by_cases h2 : inR c (-300) 500 = false
  · refine Both.q ht (-2000000001) (fun M h => ⟨M, ?_, Fr.rf, h⟩) (fun M h => ⟨M, ?_, FrQ.rf⟩)
    · unfold pw fX6_pressureFor fX6_isTime fX6_isTemperature
      simp only [within_c, bs, h1, h2]; rfl
    · unfold fX7_pressureFor
      rw [in_m, bs, h1, if_neg (by decide), in_m, bs, h2]; rfl
  rw [Bool.not_eq_false] at h2
  by_cases h3 : inR x (-1000000) 10000000 = false
  · refine Both.q ht (-2000000001) (fun M h => ⟨M, ?_, Fr.rf, h⟩) (fun M h => ⟨M, ?_, FrQ.rf⟩)
    · unfold pw fX6_pressureFor fX6_isTime fX6_isTemperature
      simp only [within_c, bs, h1, h2, h3]; rfl
    · unfold fX7_pressureFor
      rw [in_m, bs, h1, if_neg (by decide), in_m, bs, h2, if_neg (by decide), in_m, bs, h3]; rfl
  rw [Bool.not_eq_false] at h3
  have hc : -300 ≤ c.toInt ∧ c.toInt ≤ 500 := by
    obtain ⟨a, b⟩ := inR_iff.mp h2
    exact ⟨le_lit a (by decide), lit_le b (by decide)⟩
  have cls : ∀ (r : Int32), (∀ M, IC V hs tl tx M → fX6_pressureFor_J30 t c x M (1 : Int32) = some r) → ∀ M, IC V hs tl tx M → ∃ M2, pw (fX6_pressureFor t c x) M = some (r, M2) ∧ FrC M M2 ∧ IC V hs tl tx M2 := fun r hr M h => by
    refine ⟨M, ?_, Fr.rf, h⟩
    unfold pw fX6_pressureFor fX6_isTime fX6_isTemperature
    simp only [within_c, bs, h1, h2, h3]
    rw [if_neg (show ¬ b2 true = 0 from by decide), if_neg (show ¬ b2 true = 0 from by decide), if_neg (show ¬ b2 true = 0 from by decide), hr M h, bs]
  have e5 : (50000 : Int32) = nI (50000 + 0) := rfl
  cases hb : hasB V t
  · refine Both.q ht (-2000000004) (cls _ (fun M h => ?_)) (fun M h => ?_)
    · unfold fX6_pressureFor_J30
      rw [if_neg (by decide), e5, heightAt_s (show kd 1 = 2 from rfl) hV h.2.1 (pI_b (by omega)) hc, bs, hI_hgt_nf hb, if_pos rfl]
    · obtain ⟨M2, a1, a2, a3⟩ := hasBase_m (t := t) hV (h.2.1.D (w := 0) (by omega))
      refine ⟨M2, ?_, a2.Q pBP14⟩
      unfold fX7_pressureFor
      rw [in_m, bs, h1, if_neg (by decide), in_m, bs, h2, if_neg (by decide), in_m, bs, h3, if_neg (by decide), a1, bs, hb]
      rfl
  have mdl : ∀ (r : Int32), (∀ M2 : wM, M2.1 97 0 = V.1 0 → M2.1 96 15 = Int32.ofInt (bv V 1 t) → M2.1 96 16 = Int32.ofInt (bv V 2 t) → fX7_pressureFor_L53 t c x FU (110000 : Int32) M2 = some (r, M2)) → ∀ M, IM V hs tl tx M → ∃ M2, fX7_pressureFor t c x M = some (r, M2) ∧ FrQ M M2 := fun r hr M h => by
    obtain ⟨M2, a1, a2, a3⟩ := hasBase_m (t := t) hV (h.2.1.D (w := 0) (by omega))
    refine ⟨M2, ?_, a2.Q pBP14⟩
    have e97 : M2.1 97 = M.1 97 := (a2.1 97 (by omega)).1
    obtain ⟨b1, b2'⟩ := a3 hb
    unfold fX7_pressureFor
    rw [in_m, bs, h1, if_neg (by decide), in_m, bs, h2, if_neg (by decide), in_m, bs, h3, if_neg (by decide), a1, bs, hb]
    exact hr M2 (by rw [e97]; exact h.2.1.S (k := 0) (by omega)) b1 b2'
  have hl := hP_lt (x := x) hV hb hc (g := 0) (by omega)
  cases q : hP V t c x 0
  · refine Both.q ht (-2000000004) (cls _ (fun M h => ?_)) (mdl _ (fun M a b d => ?_))
    · unfold fX6_pressureFor_J30
      rw [if_neg (by decide), e5, heightAt_s (show kd 1 = 2 from rfl) hV h.2.1 (pI_b (by omega)) hc, bs, if_neg hl.2, if_neg (Int32.not_le.mpr (hl.1.mpr q))]
    · exact down_N hV hb hc a b d q t 60001 FU (by omega) (by unfold FU; omega)
  · obtain ⟨p1, p2, p3⟩ := lastF_spec (P := hP V t c x) 60000 q
    refine Both.q ht (nI (50000 + lastF (hP V t c x) 60000)) (cls _ (fun M h => ?_)) (mdl _ (fun M a b d => ?_))
    · unfold fX6_pressureFor_J30
      rw [if_neg (by decide)]
      have e := heightAt_s (t := t) (c := c) (show kd 1 = 2 from rfl) hV h.2.1 (pI_b (g := 0) (by omega)) hc
      rw [e5, e, bs, if_neg hl.2, if_pos (Int32.not_lt.mp (fun w => by rw [hl.1.mp w] at q; cases q))]
      unfold fX6_greatestPressure
      have e2 := greatest_L (x := x) hV hb hc h.2.1 p1 p3 16 0 60000 0 FU (by decide) (by omega) (by omega) p2 (by omega) (by unfold FU; omega)
      rw [show (50000 : Int32) = nI (50000 + 0) from rfl, show (110000 : Int32) = nI (50000 + 60000) from rfl, show (0 : Int32) = nI 0 from rfl, e2, bs]
    · exact down_L hV hb hc a b d p1 p3 t 60000 FU p2 (by omega) (by unfold FU; omega)
end PF

/-! raw heights -/
def rawZ (h bp bt p c : Int) : Int := h + 2930 * (2732 + (bt + c) / 2) * (bp - p) / ((bp + p) / 2)
def hgt (V : wV) (t p c : Int32) : Option Int := if hasB V t then some (rawZ (V.1 0).toInt (bv V 1 t) (bv V 2 t) p.toInt c.toInt) else none
def hI (o : Option Int) : Int32 := match o with
  | some z => Int32.ofInt z
  | none => -2000000004
theorem raw_num {bp bt p c : Int} (h1 : 50000 ≤ bp ∧ bp ≤ 110000) (h2 : -300 ≤ bt ∧ bt ≤ 500) (h3 : 50000 ≤ p ∧ p ≤ 110000) (h4 : -300 ≤ c ∧ c ≤ 500) : (-600000000000 ≤ 2930 * (2732 + (bt + c) / 2) * (bp - p) ∧ 2930 * (2732 + (bt + c) / 2) * (bp - p) ≤ 600000000000) ∧ (-12000000 ≤ 2930 * (2732 + (bt + c) / 2) * (bp - p) / ((bp + p) / 2) ∧ 2930 * (2732 + (bt + c) / 2) * (bp - p) / ((bp + p) / 2) ≤ 12000000) := by
  have w1 : 0 ≤ 2930 * (2732 + (bt + c) / 2) := by omega
  have w2 : 2930 * (2732 + (bt + c) / 2) ≤ 9469760 := by omega
  have m1 := Int.mul_le_mul_of_nonneg_left (show bp - p ≤ 60000 by omega) w1
  have m2 := Int.mul_le_mul_of_nonneg_left (show -60000 ≤ bp - p by omega) w1
  have n : -600000000000 ≤ 2930 * (2732 + (bt + c) / 2) * (bp - p) ∧ 2930 * (2732 + (bt + c) / 2) * (bp - p) ≤ 600000000000 := by omega
  refine ⟨n, ?_, ?_⟩
  · rw [Int.le_ediv_iff_mul_le (by omega)]; omega
  · rw [Int.ediv_le_iff_le_mul (by omega)]; omega
theorem rawZ_b {h bp bt p c : Int} (h0 : -500000 ≤ h ∧ h ≤ 9000000) (h1 : 50000 ≤ bp ∧ bp ≤ 110000) (h2 : -300 ≤ bt ∧ bt ≤ 500) (h3 : 50000 ≤ p ∧ p ≤ 110000) (h4 : -300 ≤ c ∧ c ≤ 500) : -12500000 ≤ rawZ h bp bt p c ∧ rawZ h bp bt p c ≤ 21000000 := by
  have n := (raw_num h1 h2 h3 h4).2
  unfold rawZ
  omega
theorem hgt_b {V : wV} {t p c : Int32} {z : Int} (hV : OkV V) (h3 : 50000 ≤ p.toInt ∧ p.toInt ≤ 110000) (h4 : -300 ≤ c.toInt ∧ c.toInt ≤ 500) (h : hgt V t p c = some z) : -12500000 ≤ z ∧ z ≤ 21000000 := by
  unfold hgt at h
  split at h
  · next q =>
    cases h
    exact rawZ_b hV.s.1 (bv_b hV q).1 (bv_b hV q).2 h3 h4
  · cases h
/-- both ways to the same number: w the warmth, d the middle pressure, as longs -/
theorem raw_fin {h bp bt p c : Int32} {W D : Int64} (h0 : -500000 ≤ h.toInt ∧ h.toInt ≤ 9000000) (h1 : 50000 ≤ bp.toInt ∧ bp.toInt ≤ 110000) (h2 : -300 ≤ bt.toInt ∧ bt.toInt ≤ 500) (h3 : 50000 ≤ p.toInt ∧ p.toInt ≤ 110000) (h4 : -300 ≤ c.toInt ∧ c.toInt ≤ 500) (hW : W.toInt = 2732 + (bt.toInt + c.toInt) / 2) (hD : D.toInt = (bp.toInt + p.toInt) / 2) :
    0 < D.toInt ∧ (h.toInt64 + dn (((2930 : Int64) * W) * ((bp - p).toInt64)) D).toInt32 = Int32.ofInt (rawZ h.toInt bp.toInt bt.toInt p.toInt c.toInt) ∧ h + (dn (((2930 : Int64) * W) * ((bp - p).toInt64)) D).toInt32 = Int32.ofInt (rawZ h.toInt bp.toInt bt.toInt p.toInt c.toInt) := by
  have n := raw_num h1 h2 h3 h4
  have k : (2930 : Int64).toInt = 2930 := by decide
  have e1 : (bp - p).toInt = bp.toInt - p.toInt := fb_subI (by omega) (by omega)
  have e2 : ((2930 : Int64) * W).toInt = 2930 * (2732 + (bt.toInt + c.toInt) / 2) := by
    rw [fb_mulL (by rw [k, hW]; omega) (by rw [k, hW]; omega), k, hW]
  have e3 : (((2930 : Int64) * W) * ((bp - p).toInt64)).toInt = 2930 * (2732 + (bt.toInt + c.toInt) / 2) * (bp.toInt - p.toInt) := by
    rw [fb_mulL (by rw [e2, toI64, e1]; omega) (by rw [e2, toI64, e1]; omega), e2, toI64, e1]
  have hy : 0 < D.toInt := by omega
  have e4 : (dn (((2930 : Int64) * W) * ((bp - p).toInt64)) D).toInt = 2930 * (2732 + (bt.toInt + c.toInt) / 2) * (bp.toInt - p.toInt) / ((bp.toInt + p.toInt) / 2) := by
    rw [dn_toInt hy, e3, hD]
  generalize dn (((2930 : Int64) * W) * ((bp - p).toInt64)) D = q at e4 ⊢
  have ez : rawZ h.toInt bp.toInt bt.toInt p.toInt c.toInt = h.toInt + q.toInt := by unfold rawZ; rw [e4]
  rw [← e4] at n
  refine ⟨hy, Int32.toInt_inj.mp ?_, Int32.toInt_inj.mp ?_⟩
  · rw [ez, fb_ofI (by omega) (by omega)]
    have s1 : (h.toInt64 + q).toInt = h.toInt + q.toInt := by rw [fb_addL (by rw [toI64]; omega) (by rw [toI64]; omega), toI64]
    rw [l2i_b (by rw [s1]; omega) (by rw [s1]; omega), s1]
  · rw [ez, fb_ofI (by omega) (by omega)]
    have s2 := l2i_b (x := q) (by omega) (by omega)
    rw [fb_addI (by rw [s2]; omega) (by rw [s2]; omega), s2]
theorem heightAt_s {V : wV} {s : Nat} {M : wM} {t p c : Int32} (hs : kd s = 2) (hV : OkV V) (hR : RC V s M) (h3 : 50000 ≤ p.toInt ∧ p.toInt ≤ 110000) (h4 : -300 ≤ c.toInt ∧ c.toInt ≤ 500) : fX2_heightAt s t p c M = some (hI (hgt V t p c)) := by
  unfold fX2_heightAt
  rw [show (1 : Int32) = nI 1 from rfl, baseValue_s hs hV hR (by omega), bs]
  unfold hgt
  by_cases hb : hasB V t
  · rw [if_pos hb, if_pos hb]
    obtain ⟨b1, b2⟩ := bv_b hV hb
    have t1 : (Int32.ofInt (bv V 1 t)).toInt = bv V 1 t := fb_ofI (by omega) (by omega)
    have t2 : (Int32.ofInt (bv V 2 t)).toInt = bv V 2 t := fb_ofI (by omega) (by omega)
    have hne : ¬ Int32.ofInt (bv V 1 t) = -2000000004 := fun q => by
      have q2 := congrArg Int32.toInt q
      rw [t1, show (-2000000004 : Int32).toInt = -2000000004 from by decide] at q2
      omega
    rw [if_neg hne, show (2 : Int32) = nI 2 from rfl, baseValue_s hs hV hR (by omega), bs, if_pos hb, show nI 2 = (2 : Int32) from rfl]
    obtain ⟨v4, f4, g4⟩ := fl2 (x := Int32.ofInt (bv V 2 t) + c) (M := M)
    obtain ⟨v5, f5, g5⟩ := fl2 (x := Int32.ofInt (bv V 1 t) + p) (M := M)
    rw [f4, bs, f5, bs]
    have a4 : (Int32.ofInt (bv V 2 t) + c).toInt = bv V 2 t + c.toInt := by rw [fb_addI (by rw [t2]; omega) (by rw [t2]; omega), t2]
    have a5 : (Int32.ofInt (bv V 1 t) + p).toInt = bv V 1 t + p.toInt := by rw [fb_addI (by rw [t1]; omega) (by rw [t1]; omega), t1]
    rw [a4] at g4
    rw [a5] at g5
    have k : (2732 : Int32).toInt = 2732 := by decide
    have hW : (((2732 : Int32) + v4).toInt64).toInt = 2732 + ((Int32.ofInt (bv V 2 t)).toInt + c.toInt) / 2 := by
      rw [toI64, fb_addI (by rw [k, g4]; omega) (by rw [k, g4]; omega), k, g4, t2]
    have hD : (v5.toInt64).toInt = ((Int32.ofInt (bv V 1 t)).toInt + p.toInt) / 2 := by rw [toI64, g5, t1]
    have h0 := hR.1 0 (by omega)
    rw [show 4 + 0 = 4 from rfl] at h0
    obtain ⟨q1, q2, -⟩ := raw_fin (h := V.1 0) (bp := Int32.ofInt (bv V 1 t)) (bt := Int32.ofInt (bv V 2 t)) (p := p) (c := c) hV.s.1 (by omega) (by omega) h3 h4 hW hD
    rw [dd_c q1, bs, h0, q2, t1, t2]
    rfl
  · rw [if_neg hb, if_neg hb, if_pos rfl]
    rfl
/-! the reference -/

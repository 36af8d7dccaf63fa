/-! raw heights -/
def rawZ (h bp bt p c : Int) : Int := h + 2930 * (2732 + (bt + c) / 2) * (bp - p) / ((bp + p) / 2)
def hgt (V : wV) (t p c : Int32) : Option Int := if hasB V t then some (rawZ (V.1 0).toInt (bv V 1 t) (bv V 2 t) p.toInt c.toInt) else none
def hI (o : Option Int) : Int32 := match o with
  | some z => Int32.ofInt z
  | none => -2000000004
theorem raw_num {bp bt p c : Int} (h1 : 50000 ≤ bp ∧ bp ≤ 110000) (h2 : -300 ≤ bt ∧ bt ≤ 500) (h3 : 50000 ≤ p ∧ p ≤ 110000) (h4 : -300 ≤ c ∧ c ≤ 500) : (-600000000000 ≤ 2930 * (2732 + (bt + c) / 2) * (bp - p) ∧ 2930 * (2732 + (bt + c) / 2) * (bp - p) ≤ 600000000000) ∧ (-12000000 ≤ 2930 * (2732 + (bt + c) / 2) * (bp - p) / ((bp + p) / 2) ∧ 2930 * (2732 + (bt + c) / 2) * (bp - p) / ((bp + p) / 2) ≤ 12000000) := by
  have w1 : 0 ≤ 2930 * (2732 + (bt + c) / 2) := by omega
  have w2 : 2930 * (2732 + (bt + c) / 2) ≤ 9469760 := by omega
  have m1 := Int.mul_le_mul_of_nonneg_left (show bp - p ≤ 60000 by omega) w1
  have m2 := Int.mul_le_mul_of_nonneg_left (show -60000 ≤ bp - p by omega) w1
  have n : -600000000000 ≤ 2930 * (2732 + (bt + c) / 2) * (bp - p) ∧ 2930 * (2732 + (bt + c) / 2) * (bp - p) ≤ 600000000000 := by omega
  refine ⟨n, ?_, ?_⟩
  · rw [Int.le_ediv_iff_mul_le (by omega)]; omega
  · rw [Int.ediv_le_iff_le_mul (by omega)]; omega
theorem rawZ_b {h bp bt p c : Int} (h0 : -500000 ≤ h ∧ h ≤ 9000000) (h1 : 50000 ≤ bp ∧ bp ≤ 110000) (h2 : -300 ≤ bt ∧ bt ≤ 500) (h3 : 50000 ≤ p ∧ p ≤ 110000) (h4 : -300 ≤ c ∧ c ≤ 500) : -12500000 ≤ rawZ h bp bt p c ∧ rawZ h bp bt p c ≤ 21000000 := by
  have n := (raw_num h1 h2 h3 h4).2
  unfold rawZ
  omega
theorem hgt_b {V : wV} {t p c : Int32} {z : Int} (hV : OkV V) (h3 : 50000 ≤ p.toInt ∧ p.toInt ≤ 110000) (h4 : -300 ≤ c.toInt ∧ c.toInt ≤ 500) (h : hgt V t p c = some z) : -12500000 ≤ z ∧ z ≤ 21000000 := by
  unfold hgt at h
  split at h
  · next q =>
    cases h
    exact rawZ_b hV.s.1 (bv_b hV q).1 (bv_b hV q).2 h3 h4
  · cases h
/-- both ways to the same number: w the warmth, d the middle pressure, as longs -/
theorem raw_fin {h bp bt p c : Int32} {W D : Int64} (h0 : -500000 ≤ h.toInt ∧ h.toInt ≤ 9000000) (h1 : 50000 ≤ bp.toInt ∧ bp.toInt ≤ 110000) (h2 : -300 ≤ bt.toInt ∧ bt.toInt ≤ 500) (h3 : 50000 ≤ p.toInt ∧ p.toInt ≤ 110000) (h4 : -300 ≤ c.toInt ∧ c.toInt ≤ 500) (hW : W.toInt = 2732 + (bt.toInt + c.toInt) / 2) (hD : D.toInt = (bp.toInt + p.toInt) / 2) :
    0 < D.toInt ∧ (h.toInt64 + dn (((2930 : Int64) * W) * ((bp - p).toInt64)) D).toInt32 = Int32.ofInt (rawZ h.toInt bp.toInt bt.toInt p.toInt c.toInt) ∧ h + (dn (((2930 : Int64) * W) * ((bp - p).toInt64)) D).toInt32 = Int32.ofInt (rawZ h.toInt bp.toInt bt.toInt p.toInt c.toInt) := by
  have n := raw_num h1 h2 h3 h4
  have k : (2930 : Int64).toInt = 2930 := by decide
  have e1 : (bp - p).toInt = bp.toInt - p.toInt := fb_subI (by omega) (by omega)
  have e2 : ((2930 : Int64) * W).toInt = 2930 * (2732 + (bt.toInt + c.toInt) / 2) := by
    rw [fb_mulL (by rw [k, hW]; omega) (by rw [k, hW]; omega), k, hW]
  have e3 : (((2930 : Int64) * W) * ((bp - p).toInt64)).toInt = 2930 * (2732 + (bt.toInt + c.toInt) / 2) * (bp.toInt - p.toInt) := by
    rw [fb_mulL (by rw [e2, toI64, e1]; omega) (by rw [e2, toI64, e1]; omega), e2, toI64, e1]
  have hy : 0 < D.toInt := by omega
  have e4 : (dn (((2930 : Int64) * W) * ((bp - p).toInt64)) D).toInt = 2930 * (2732 + (bt.toInt + c.toInt) / 2) * (bp.toInt - p.toInt) / ((bp.toInt + p.toInt) / 2) := by
    rw [dn_toInt hy, e3, hD]
  generalize dn (((2930 : Int64) * W) * ((bp - p).toInt64)) D = q at e4 ⊢
  have ez : rawZ h.toInt bp.toInt bt.toInt p.toInt c.toInt = h.toInt + q.toInt := by unfold rawZ; rw [e4]
  rw [← e4] at n
  refine ⟨hy, Int32.toInt_inj.mp ?_, Int32.toInt_inj.mp ?_⟩
  · rw [ez, fb_ofI (by omega) (by omega)]
    have s1 : (h.toInt64 + q).toInt = h.toInt + q.toInt := by rw [fb_addL (by rw [toI64]; omega) (by rw [toI64]; omega), toI64]
    rw [l2i_b (by rw [s1]; omega) (by rw [s1]; omega), s1]
  · rw [ez, fb_ofI (by omega) (by omega)]
    have s2 := l2i_b (x := q) (by omega) (by omega)
    rw [fb_addI (by rw [s2]; omega) (by rw [s2]; omega), s2]
theorem heightAt_s {V : wV} {s : Nat} {M : wM} {t p c : Int32} (hs : kd s = 2) (hV : OkV V) (hR : RC V s M) (h3 : 50000 ≤ p.toInt ∧ p.toInt ≤ 110000) (h4 : -300 ≤ c.toInt ∧ c.toInt ≤ 500) : fX2_heightAt s t p c M = some (hI (hgt V t p c)) := by
  unfold fX2_heightAt
  rw [show (1 : Int32) = nI 1 from rfl, baseValue_s hs hV hR (by omega), bs]
  unfold hgt
  by_cases hb : hasB V t
  · rw [if_pos hb, if_pos hb]
    obtain ⟨b1, b2⟩ := bv_b hV hb
    have t1 : (Int32.ofInt (bv V 1 t)).toInt = bv V 1 t := fb_ofI (by omega) (by omega)
    have t2 : (Int32.ofInt (bv V 2 t)).toInt = bv V 2 t := fb_ofI (by omega) (by omega)
    have hne : ¬ Int32.ofInt (bv V 1 t) = -2000000004 := fun q => by
      have q2 := congrArg Int32.toInt q
      rw [t1, show (-2000000004 : Int32).toInt = -2000000004 from by decide] at q2
      omega
    rw [if_neg hne, show (2 : Int32) = nI 2 from rfl, baseValue_s hs hV hR (by omega), bs, if_pos hb, show nI 2 = (2 : Int32) from rfl]
    obtain ⟨v4, f4, g4⟩ := fl2 (x := Int32.ofInt (bv V 2 t) + c) (M := M)
    obtain ⟨v5, f5, g5⟩ := fl2 (x := Int32.ofInt (bv V 1 t) + p) (M := M)
    rw [f4, bs, f5, bs]
    have a4 : (Int32.ofInt (bv V 2 t) + c).toInt = bv V 2 t + c.toInt := by rw [fb_addI (by rw [t2]; omega) (by rw [t2]; omega), t2]
    have a5 : (Int32.ofInt (bv V 1 t) + p).toInt = bv V 1 t + p.toInt := by rw [fb_addI (by rw [t1]; omega) (by rw [t1]; omega), t1]
    rw [a4] at g4
    rw [a5] at g5
    have k : (2732 : Int32).toInt = 2732 := by decide
    have hW : (((2732 : Int32) + v4).toInt64).toInt = 2732 + ((Int32.ofInt (bv V 2 t)).toInt + c.toInt) / 2 := by
      rw [toI64, fb_addI (by rw [k, g4]; omega) (by rw [k, g4]; omega), k, g4, t2]
    have hD : (v5.toInt64).toInt = ((Int32.ofInt (bv V 1 t)).toInt + p.toInt) / 2 := by rw [toI64, g5, t1]
    have h0 := hR.1 0 (by omega)
    rw [show 4 + 0 = 4 from rfl] at h0
    obtain ⟨q1, q2, -⟩ := raw_fin (h := V.1 0) (bp := Int32.ofInt (bv V 1 t)) (bt := Int32.ofInt (bv V 2 t)) (p := p) (c := c) hV.s.1 (by omega) (by omega) h3 h4 hW hD
    rw [dd_c q1, bs, h0, q2, t1, t2]
    rfl
  · rw [if_neg hb, if_neg hb, if_pos rfl]
    rfl
/-! the reference -/
def Fr96 (P : Nat → Prop) (M M' : wM) : Prop := Fr (fun i => i = 96) M M' ∧ (∀ j, ¬ P j → M'.1 96 j = M.1 96 j) ∧ M'.2 96 = M.2 96
theorem Fr96.rf {P : Nat → Prop} {M : wM} : Fr96 P M M := ⟨Fr.rf, fun _ _ => rfl, rfl⟩
theorem Fr96.tr {P : Nat → Prop} {M M' M'' : wM} (h : Fr96 P M M') (h2 : Fr96 P M' M'') : Fr96 P M M'' := ⟨h.1.tr h2.1, fun j hj => (h2.2.1 j hj).trans (h.2.1 j hj), h2.2.2.trans h.2.2⟩
theorem Fr96.st {P : Nat → Prop} {M : wM} {k : Nat} {v : Int32} (h : P k) : Fr96 P M (st M 96 k v) := ⟨Fr.st (P := fun i => i = 96) rfl, fun j hj => st_col (fun q => hj (q ▸ h)), rfl⟩
def pBP (j : Nat) : Prop := j = 15 ∨ j = 16
theorem RD.keep {w n : Nat} {M M2 : wM} {d : Nat → Nat → Int32} (h : RD w M n d) (e : M2.1 97 = M.1 97) : RD w M2 n d := ⟨by rw [e]; exact h.1, fun r f hr hf => by rw [e]; exact h.2 r f hr hf⟩
theorem hasBase_L {V : wV} {t : Int32} (hV : OkV V) : ∀ (c k fu : Nat) (M : wM), RD 0 M (V.2.1 0) (V.2.2 0) → k + c = V.2.1 0 → c < fu → (∀ j, j < k → ¬ t ≤ V.2.2 0 0 j) → fstF (fun r => decide (t ≤ V.2.2 0 0 r)) k c = bk V t → ∃ M', fX7_hasBase_L2 t fu (nI k) M = some (hasB V t, M') ∧ Fr96 pBP M M' ∧ (hasB V t = true → M'.1 96 15 = Int32.ofInt (bv V 1 t) ∧ M'.1 96 16 = Int32.ofInt (bv V 2 t))
  | 0, k, fu, M, hR, hkc, hfu, hlo, hk0 => by
    obtain ⟨fu, rfl⟩ : ∃ z, fu = z + 1 := ⟨fu - 1, by omega⟩
    have hn := hV.n (w := 0) (by omega)
    have e : hasB V t = false := by
      rw [← Bool.not_eq_true]
      intro q
      have := (hasB_iff.mp q).1
      simp only [fstF] at hk0
      omega
    refine ⟨M, ?_, Fr96.rf, fun q => by rw [e] at q; cases q⟩
    show fX7_hasBase_B2 t _ (nI k) M = _
    unfold fX7_hasBase_B2
    rw [show ix (3 : Int32) (ln 97) = some 3 from cnt_ix (w := 0) (by omega), bs, hR.1, if_pos ((nI_leI (by omega) (by omega)).mpr (by omega)), e]
  | c + 1, k, fu, M, hR, hkc, hfu, hlo, hk0 => by
    obtain ⟨fu, rfl⟩ : ∃ z, fu = z + 1 := ⟨fu - 1, by omega⟩
    have hn := hV.n (w := 0) (by omega)
    have i3 : ix (3 : Int32) (ln 97) = some 3 := cnt_ix (w := 0) (by omega)
    show ∃ M', fX7_hasBase_B2 t _ (nI k) M = _ ∧ _
    unfold fX7_hasBase_B2
    rw [i3, bs, hR.1, if_neg (by rw [nI_leI (by omega) (by omega)]; omega), show (0 : Int32) = nI 0 from rfl]
    simp only [show nI 0 = nI (20 * 0) from rfl]
    have o0 : ∀ (N : wM) (r : Nat), N.1 97 = M.1 97 → r < V.2.1 0 → fX7_of (nI (20 * 0)) (nI (20 * 0)) (nI r) N = some (V.2.2 0 0 r) := fun N r hN hr => of_d (w := 0) (f := 0) (by omega) (hR.keep hN) hn hr (by omega)
    have o1 : ∀ (N : wM) (r : Nat), N.1 97 = M.1 97 → r < V.2.1 0 → fX7_of (nI (20 * 0)) (20 : Int32) (nI r) N = some (V.2.2 0 1 r) := fun N r hN hr => of1 (w := 0) (by omega) (hR.keep hN) hn hr
    have o2 : ∀ (N : wM) (r : Nat), N.1 97 = M.1 97 → r < V.2.1 0 → fX7_of (nI (20 * 0)) (40 : Int32) (nI r) N = some (V.2.2 0 2 r) := fun N r hN hr => of2 (w := 0) (by omega) (hR.keep hN) hn hr
    have e97 : ∀ (N : wM) (j : Nat) (v : Int32), (st N 96 j v).1 97 = N.1 97 := fun N j v => st_row (by omega)
    rw [o0 M k rfl (by omega), bs]
    unfold fstF at hk0
    by_cases e : V.2.2 0 0 k = t
    · have hbk : bk V t = k := by
        rw [if_pos (decide_eq_true (show t ≤ V.2.2 0 0 k by rw [e]; exact Int32.le_refl t))] at hk0
        exact hk0.symm
      have hb : hasB V t = true := hasB_iff.mpr ⟨by omega, Or.inl (by rw [hbk]; exact e)⟩
      rw [if_pos e, o1 M k rfl (by omega), bs, o2 _ k (e97 _ _ _) (by omega), bs]
      refine ⟨_, by rw [hb], (Fr96.st (Or.inl rfl)).tr (Fr96.st (Or.inr rfl)), fun _ => ?_⟩
      unfold bv
      rw [hbk, if_pos e, if_pos e, fb_asI, fb_asI, st_col (by omega), st_same, st_same]
      exact ⟨rfl, rfl⟩
    · rw [if_neg e]
      by_cases hle : V.2.2 0 0 k ≤ t
      · have hnt : ¬ t ≤ V.2.2 0 0 k := fun q => e (Int32.le_antisymm hle q)
        rw [if_neg (by rw [decide_eq_false hnt]; decide)] at hk0
        rw [if_pos hle]
        unfold fX7_hasBase_J131
        rw [if_pos hle, nIp1]
        exact hasBase_L hV c (k + 1) fu M hR (by omega) (by omega) (fun j hj => by
          rcases Nat.eq_or_lt_of_le (show j ≤ k by omega) with rfl | h
          · exact hnt
          · exact hlo j h) hk0
      · have hlt : t ≤ V.2.2 0 0 k := Int32.le_of_lt (Int32.not_le.mp hle)
        rw [if_pos (decide_eq_true hlt)] at hk0
        have hbk : bk V t = k := hk0.symm
        rw [if_neg hle]
        by_cases h0 : k = 0
        · subst h0
          rw [if_pos (show nI 0 ≤ nI (20 * 0) from by decide)]
          unfold fX7_hasBase_J131
          rw [if_neg hle]
          have hb : hasB V t = false := by
            rw [← Bool.not_eq_true]
            intro q
            have q2 := (hasB_iff.mp q).2
            rw [hbk] at q2
            exact q2.elim e (fun q => absurd q (by omega))
          exact ⟨M, by rw [hb], Fr96.rf, fun q => by rw [hb] at q; cases q⟩
        · rw [if_neg (show ¬ nI k ≤ nI (20 * 0) from nI_nle (by omega) (by omega)), nIm1 (by omega)]
          have hb : hasB V t = true := hasB_iff.mpr ⟨by omega, Or.inr (by omega)⟩
          have ha := bk_around (t := t) hV (by omega) (by rw [hbk]; exact e) (by omega)
          rw [hbk] at ha
          have d1 := hV.r (w := 0) (r := k) (by omega) (by omega)
          have d2 := hV.r (w := 0) (r := k - 1) (by omega) (by omega)
          obtain ⟨p1, -, p3⟩ := interp_q (a := V.2.2 0 1 (k - 1)) (b := V.2.2 0 1 k) (t := t) (t1 := V.2.2 0 0 (k - 1)) (t2 := V.2.2 0 0 k) (by omega) (by omega) (by omega) (by omega) (by omega) (by omega) (by omega)
          obtain ⟨-, -, r3⟩ := interp_q (a := V.2.2 0 2 (k - 1)) (b := V.2.2 0 2 k) (t := t) (t1 := V.2.2 0 0 (k - 1)) (t2 := V.2.2 0 0 k) (by omega) (by omega) (by omega) (by omega) (by omega) (by omega) (by omega)
          rw [o0 M (k - 1) rfl (by omega), bs, o1 M (k - 1) rfl (by omega), bs, o1 M k rfl (by omega), bs]
          unfold fX7_between
          rw [dd_m p1, bs, bs, o2 _ (k - 1) (e97 _ _ _) (by omega), bs, o2 _ k (e97 _ _ _) (by omega), bs, dd_m p1, bs, bs, p3, r3]
          refine ⟨_, by rw [hb], (Fr96.st (Or.inl rfl)).tr (Fr96.st (Or.inr rfl)), fun _ => ?_⟩
          unfold bv
          rw [hbk, if_neg e, if_neg e, st_col (by omega), st_same, st_same]
          exact ⟨rfl, rfl⟩
theorem hasBase_m {V : wV} {t : Int32} {M : wM} (hV : OkV V) (hR : RD 0 M (V.2.1 0) (V.2.2 0)) : ∃ M', fX7_hasBase t M = some (hasB V t, M') ∧ Fr96 pBP M M' ∧ (hasB V t = true → M'.1 96 15 = Int32.ofInt (bv V 1 t) ∧ M'.1 96 16 = Int32.ofInt (bv V 2 t)) :=
  hasBase_L hV (V.2.1 0) 0 FU M hR (by omega) (by have := hV.n (w := 0) (by omega); unfold FU; omega) (fun j hj => absurd hj (by omega)) rfl
theorem rawOf_m {V : wV} {t p c : Int32} {M : wM} (hV : OkV V) (hb : hasB V t = true) (h0 : M.1 97 0 = V.1 0) (h1 : M.1 96 15 = Int32.ofInt (bv V 1 t)) (h2 : M.1 96 16 = Int32.ofInt (bv V 2 t)) (h3 : 50000 ≤ p.toInt ∧ p.toInt ≤ 110000) (h4 : -300 ≤ c.toInt ∧ c.toInt ≤ 500) : fX7_rawOf p c M = some (hI (hgt V t p c)) := by
  obtain ⟨b1, b2⟩ := bv_b hV hb
  have t1 : (Int32.ofInt (bv V 1 t)).toInt = bv V 1 t := fb_ofI (by omega) (by omega)
  have t2 : (Int32.ofInt (bv V 2 t)).toInt = bv V 2 t := fb_ofI (by omega) (by omega)
  unfold fX7_rawOf hgt
  rw [h1, h2, if_pos hb]
  have k2 : (2 : Int64).toInt = 2 := by decide
  have a4 : (Int32.ofInt (bv V 2 t) + c).toInt = bv V 2 t + c.toInt := by rw [fb_addI (by rw [t2]; omega) (by rw [t2]; omega), t2]
  have a5 : (Int32.ofInt (bv V 1 t) + p).toInt = bv V 1 t + p.toInt := by rw [fb_addI (by rw [t1]; omega) (by rw [t1]; omega), t1]
  have y2 : 0 < (2 : Int64).toInt := by decide
  have q4 : (dn ((Int32.ofInt (bv V 2 t) + c).toInt64) 2).toInt = (bv V 2 t + c.toInt) / 2 := by rw [dn_toInt y2, toI64, a4, k2]
  have k27 : (2732 : Int64).toInt = 2732 := by decide
  have hW : ((2732 : Int64) + dn ((Int32.ofInt (bv V 2 t) + c).toInt64) 2).toInt = 2732 + ((Int32.ofInt (bv V 2 t)).toInt + c.toInt) / 2 := by
    rw [fb_addL (by rw [k27, q4]; omega) (by rw [k27, q4]; omega), k27, q4, t2]
  have q5 : ((Int32.ofInt (bv V 1 t) + p) / 2).toInt = (bv V 1 t + p.toInt) / 2 := by
    rw [Int32.toInt_div_of_ne_right _ _ (by decide), a5, show (2 : Int32).toInt = 2 from by decide, Int.tdiv_eq_ediv_of_nonneg (by omega)]
  have hD : (((Int32.ofInt (bv V 1 t) + p) / 2).toInt64).toInt = ((Int32.ofInt (bv V 1 t)).toInt + p.toInt) / 2 := by rw [toI64, q5, t1]
  obtain ⟨q1, -, q3⟩ := raw_fin (h := V.1 0) (bp := Int32.ofInt (bv V 1 t)) (bt := Int32.ofInt (bv V 2 t)) (p := p) (c := c) hV.s.1 (by omega) (by omega) h3 h4 hW hD
  rw [dd_m y2, bs, show ix (0 : Int32) (ln 97) = some 0 from ix_in (k := 0) (by rw [ln97]; omega) (by rw [ln97]; omega), bs, show dvI (Int32.ofInt (bv V 1 t) + p) 2 = some ((Int32.ofInt (bv V 1 t) + p) / 2) from if_neg (by decide), bs, dd_m q1, bs, h0, q3, t1, t2]
  rfl

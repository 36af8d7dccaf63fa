/-! the base at a time; raw heights -/
theorem le_lit {x : Int32} {a : Int32} {z : Int} (h : a ≤ x) (ha : a.toInt = z) : z ≤ x.toInt := by rw [← ha]; exact Int32.le_iff_toInt_le.mp h
theorem lit_le {x : Int32} {a : Int32} {z : Int} (h : x ≤ a) (ha : a.toInt = z) : x.toInt ≤ z := by rw [← ha]; exact Int32.le_iff_toInt_le.mp h
theorem OkV.r {V : wV} (h : OkV V) {w r : Nat} (hw : w < 4) (hr : r < V.2.1 w) : (0 ≤ (V.2.2 w 0 r).toInt ∧ (V.2.2 w 0 r).toInt ≤ 10000) ∧ (50000 ≤ (V.2.2 w 1 r).toInt ∧ (V.2.2 w 1 r).toInt ≤ 110000) ∧ (-300 ≤ (V.2.2 w 2 r).toInt ∧ (V.2.2 w 2 r).toInt ≤ 500) := by
  obtain ⟨h1, h2, h3, h4, h5, h6, -, -⟩ := (h.2 w hw).2.1 r hr
  exact ⟨⟨le_lit h1 (by decide), lit_le h2 (by decide)⟩, ⟨le_lit h3 (by decide), lit_le h4 (by decide)⟩, le_lit h5 (by decide), lit_le h6 (by decide)⟩
theorem OkV.s {V : wV} (h : OkV V) : (-500000 ≤ (V.1 0).toInt ∧ (V.1 0).toInt ≤ 9000000) ∧ (1 ≤ (V.1 1).toInt ∧ (V.1 1).toInt ≤ 5000) ∧ (1 ≤ (V.1 2).toInt ∧ (V.1 2).toInt ≤ 500) := by
  obtain ⟨h1, h2, h3, h4, h5, h6⟩ := h.1
  exact ⟨⟨le_lit h1 (by decide), lit_le h2 (by decide)⟩, ⟨le_lit h3 (by decide), lit_le h4 (by decide)⟩, le_lit h5 (by decide), lit_le h6 (by decide)⟩
theorem OkV.t {V : wV} (h : OkV V) {w r r' : Nat} (hw : w < 4) (h1 : r < r') (h2 : r' < V.2.1 w) : (V.2.2 w 0 r).toInt < (V.2.2 w 0 r').toInt := Int32.lt_iff_toInt_lt.mp ((h.2 w hw).2.2 r r' h1 h2)
def interpZ (a b t t1 t2 : Int) : Int := a + (b - a) * (t - t1) / (t2 - t1)
theorem part_b {D x y : Int} (h1 : 0 ≤ x) (h2 : x ≤ y) (h3 : 0 < y) : (0 ≤ D → 0 ≤ D * x / y ∧ D * x / y ≤ D) ∧ (D ≤ 0 → D ≤ D * x / y ∧ D * x / y ≤ 0) := by
  refine ⟨fun hD => ⟨?_, ?_⟩, fun hD => ⟨?_, ?_⟩⟩
  · rw [Int.le_ediv_iff_mul_le h3]
    have := Int.mul_nonneg hD h1
    omega
  · rw [Int.ediv_le_iff_le_mul h3]
    have := Int.mul_le_mul_of_nonneg_left h2 hD
    omega
  · rw [Int.le_ediv_iff_mul_le h3]
    exact Int.mul_le_mul_of_nonpos_left hD h2
  · rw [Int.ediv_le_iff_le_mul h3]
    have := Int.mul_nonneg (show 0 ≤ -D by omega) h1
    rw [Int.neg_mul] at this
    omega
theorem interp_b {a b t t1 t2 lo hi : Int} (h1 : t1 ≤ t) (h2 : t ≤ t2) (h3 : t1 < t2) (ha : lo ≤ a ∧ a ≤ hi) (hb : lo ≤ b ∧ b ≤ hi) : lo ≤ interpZ a b t t1 t2 ∧ interpZ a b t t1 t2 ≤ hi := by
  have p := part_b (D := b - a) (x := t - t1) (y := t2 - t1) (by omega) (by omega) (by omega)
  unfold interpZ
  rcases Int.le_total 0 (b - a) with h | h
  · have := p.1 h; omega
  · have := p.2 h; omega
theorem toI64 (x : Int32) : x.toInt64.toInt = x.toInt := Int32.toInt_toInt64 x
theorem l2i_b {x : Int64} (h1 : -2147483648 ≤ x.toInt) (h2 : x.toInt < 2147483648) : x.toInt32.toInt = x.toInt := by rw [Int64.toInt_toInt32, fb_bmod h1 h2]
theorem interp_q {a b t t1 t2 : Int32} (ha : -300 ≤ a.toInt ∧ a.toInt ≤ 110000) (hb : -300 ≤ b.toInt ∧ b.toInt ≤ 110000) (h0 : 0 ≤ t1.toInt) (h1 : t1.toInt ≤ t.toInt) (h2 : t.toInt ≤ t2.toInt) (h3 : t1.toInt < t2.toInt) (h4 : t2.toInt ≤ 10000) :
    0 < ((t2 - t1).toInt64).toInt ∧ (a.toInt64 + dn (((b - a).toInt64) * ((t - t1).toInt64)) ((t2 - t1).toInt64)).toInt32 = Int32.ofInt (interpZ a.toInt b.toInt t.toInt t1.toInt t2.toInt) ∧ a + (dn (((b - a).toInt64) * ((t - t1).toInt64)) ((t2 - t1).toInt64)).toInt32 = Int32.ofInt (interpZ a.toInt b.toInt t.toInt t1.toInt t2.toInt) := by
  have e1 : (b - a).toInt = b.toInt - a.toInt := fb_subI (by omega) (by omega)
  have e2 : (t - t1).toInt = t.toInt - t1.toInt := fb_subI (by omega) (by omega)
  have e3 : (t2 - t1).toInt = t2.toInt - t1.toInt := fb_subI (by omega) (by omega)
  have p := part_b (D := b.toInt - a.toInt) (x := t.toInt - t1.toInt) (y := t2.toInt - t1.toInt) (by omega) (by omega) (by omega)
  have pb : -110300 * 10000 ≤ (b.toInt - a.toInt) * (t.toInt - t1.toInt) ∧ (b.toInt - a.toInt) * (t.toInt - t1.toInt) ≤ 110300 * 10000 := by
    have x0 : 0 ≤ t.toInt - t1.toInt := by omega
    have x1 : t.toInt - t1.toInt ≤ 10000 := by omega
    have m1 := Int.mul_le_mul_of_nonneg_right (show b.toInt - a.toInt ≤ 110300 by omega) x0
    have m2 := Int.mul_le_mul_of_nonneg_right (show -110300 ≤ b.toInt - a.toInt by omega) x0
    omega
  have em : (((b - a).toInt64) * ((t - t1).toInt64)).toInt = (b.toInt - a.toInt) * (t.toInt - t1.toInt) := by
    rw [fb_mulL (by rw [toI64, toI64, e1, e2]; omega) (by rw [toI64, toI64, e1, e2]; omega), toI64, toI64, e1, e2]
  have hy : 0 < ((t2 - t1).toInt64).toInt := by rw [toI64, e3]; omega
  have eq : (dn (((b - a).toInt64) * ((t - t1).toInt64)) ((t2 - t1).toInt64)).toInt = (b.toInt - a.toInt) * (t.toInt - t1.toInt) / (t2.toInt - t1.toInt) := by
    rw [dn_toInt hy, em, toI64, e3]
  generalize dn (((b - a).toInt64) * ((t - t1).toInt64)) ((t2 - t1).toInt64) = q at eq ⊢
  have qb : -110300 ≤ q.toInt ∧ q.toInt ≤ 110300 := by
    rw [eq]
    rcases Int.le_total 0 (b.toInt - a.toInt) with h | h
    · have := p.1 h; omega
    · have := p.2 h; omega
  have ez : interpZ a.toInt b.toInt t.toInt t1.toInt t2.toInt = a.toInt + q.toInt := by unfold interpZ; rw [eq]
  refine ⟨hy, Int32.toInt_inj.mp ?_, Int32.toInt_inj.mp ?_⟩
  · rw [ez, fb_ofI (by omega) (by omega)]
    have s1 : (a.toInt64 + q).toInt = a.toInt + q.toInt := by rw [fb_addL (by rw [toI64]; omega) (by rw [toI64]; omega), toI64]
    rw [l2i_b (by rw [s1]; omega) (by rw [s1]; omega), s1]
  · rw [ez, fb_ofI (by omega) (by omega)]
    have s2 := l2i_b (x := q) (by omega) (by omega)
    rw [fb_addI (by rw [s2]; omega) (by rw [s2]; omega), s2]
/-- the first base reading that isn't earlier than t -/
def bk (V : wV) (t : Int32) : Nat := fstF (fun r => decide (t ≤ V.2.2 0 0 r)) 0 (V.2.1 0)
theorem fstF_spec {p : Nat → Bool} : ∀ {c k : Nat}, k ≤ fstF p k c ∧ fstF p k c ≤ k + c ∧ (∀ j, k ≤ j → j < fstF p k c → p j = false) ∧ (fstF p k c < k + c → p (fstF p k c) = true)
  | 0, k => by simp only [fstF]; exact ⟨Nat.le_refl _, Nat.le_refl _, fun j h1 h2 => absurd h1 (by omega), fun h => absurd h (by omega)⟩
  | c + 1, k => by
    simp only [fstF]
    split
    · next h => exact ⟨Nat.le_refl _, by omega, fun j h1 h2 => absurd h1 (by omega), fun _ => h⟩
    · next h =>
      obtain ⟨a1, a2, a3, a4⟩ := fstF_spec (p := p) (c := c) (k := k + 1)
      refine ⟨by omega, by omega, fun j h1 h2 => ?_, fun h2 => a4 (by omega)⟩
      rcases Nat.eq_or_lt_of_le h1 with rfl | hlt
      · simpa using h
      · exact a3 j hlt h2
def hasB (V : wV) (t : Int32) : Bool := decide (bk V t < V.2.1 0) && (decide (V.2.2 0 0 (bk V t) = t) || decide (0 < bk V t))
def bv (V : wV) (f : Nat) (t : Int32) : Int := if V.2.2 0 0 (bk V t) = t then (V.2.2 0 f (bk V t)).toInt else interpZ (V.2.2 0 f (bk V t - 1)).toInt (V.2.2 0 f (bk V t)).toInt t.toInt (V.2.2 0 0 (bk V t - 1)).toInt (V.2.2 0 0 (bk V t)).toInt
theorem hasB_iff {V : wV} {t : Int32} : hasB V t = true ↔ bk V t < V.2.1 0 ∧ (V.2.2 0 0 (bk V t) = t ∨ 0 < bk V t) := by simp [hasB]
/-- what lies around a time at which the base has something, not exactly at a reading -/
theorem bk_around {V : wV} {t : Int32} (hV : OkV V) (h1 : bk V t < V.2.1 0) (h2 : ¬ V.2.2 0 0 (bk V t) = t) (h3 : 0 < bk V t) : (V.2.2 0 0 (bk V t - 1)).toInt < t.toInt ∧ t.toInt < (V.2.2 0 0 (bk V t)).toInt ∧ 0 ≤ (V.2.2 0 0 (bk V t - 1)).toInt ∧ (V.2.2 0 0 (bk V t)).toInt ≤ 10000 := by
  obtain ⟨a1, a2, a3, a4⟩ := fstF_spec (p := fun r => decide (t ≤ V.2.2 0 0 r)) (c := V.2.1 0) (k := 0)
  rw [show fstF (fun r => decide (t ≤ V.2.2 0 0 r)) 0 (V.2.1 0) = bk V t from rfl] at a1 a2 a3 a4
  have b1 : t ≤ V.2.2 0 0 (bk V t) := of_decide_eq_true (a4 (by omega))
  have b2 : ¬ t ≤ V.2.2 0 0 (bk V t - 1) := of_decide_eq_false (a3 (bk V t - 1) (by omega) (by omega))
  have c1 := Int32.le_iff_toInt_le.mp b1
  have c2 : ¬ t.toInt ≤ (V.2.2 0 0 (bk V t - 1)).toInt := fun q => b2 (Int32.le_iff_toInt_le.mpr q)
  have c3 : t.toInt ≠ (V.2.2 0 0 (bk V t)).toInt := fun q => h2 (Int32.toInt_inj.mp q.symm)
  have d1 := hV.r (w := 0) (by omega) h1
  have d2 := hV.r (w := 0) (r := bk V t - 1) (by omega) (by omega)
  omega
theorem bv_b {V : wV} {t : Int32} (hV : OkV V) (h : hasB V t = true) : (50000 ≤ bv V 1 t ∧ bv V 1 t ≤ 110000) ∧ (-300 ≤ bv V 2 t ∧ bv V 2 t ≤ 500) := by
  obtain ⟨h1, h2⟩ := hasB_iff.mp h
  have d1 := hV.r (w := 0) (by omega) h1
  unfold bv
  by_cases e : V.2.2 0 0 (bk V t) = t
  · rw [if_pos e, if_pos e]; omega
  · rw [if_neg e, if_neg e]
    have h3 : 0 < bk V t := h2.resolve_left e
    have ha := bk_around hV h1 e h3
    have d2 := hV.r (w := 0) (r := bk V t - 1) (by omega) (by omega)
    exact ⟨interp_b (by omega) (by omega) (by omega) (by omega) (by omega), interp_b (by omega) (by omega) (by omega) (by omega) (by omega)⟩
section BASE
variable {V : wV} {s : Nat} {M : wM} {t : Int32}
theorem baseValue_J {f : Nat} (hs : kd s = 2) (hV : OkV V) (hR : RC V s M) (hf : f < 3) : fX2_baseValue_J32 s t (nI f) M (nI (bk V t)) = some (if hasB V t then Int32.ofInt (bv V f t) else -2000000004) := by
  have hT := hR.2 0 (by omega)
  have hk := kd_tk hs (w := 0) (by omega)
  have hn := hV.n (w := 0) (by omega)
  have hle := (fstF_spec (p := fun r => decide (t ≤ V.2.2 0 0 r)) (c := V.2.1 0) (k := 0)).2.1
  rw [show fstF (fun r => decide (t ≤ V.2.2 0 0 r)) 0 (V.2.1 0) = bk V t from rfl] at hle
  unfold fX2_baseValue_J32
  rw [show s + 1 = tk s 0 from rfl, hT.1]
  by_cases h1 : bk V t < V.2.1 0
  · rw [if_pos ((nI_ltI (by omega) (by omega)).mpr h1), tv0 hk hT hn h1, bs, tv hk hT hn h1 (by omega), bs]
    by_cases e : V.2.2 0 0 (bk V t) = t
    · rw [if_pos e, if_pos (hasB_iff.mpr ⟨h1, Or.inl e⟩)]
      unfold bv
      rw [if_pos e, fb_asI]
    · rw [if_neg e]
      by_cases h3 : bk V t = 0
      · rw [if_pos (show nI (bk V t) = (0 : Int32) by rw [h3]; rfl), if_neg (fun q => by
          have := (hasB_iff.mp q).2.resolve_left e
          omega)]
      · have hb : hasB V t = true := hasB_iff.mpr ⟨h1, Or.inr (by omega)⟩
        have ha := bk_around hV h1 e (by omega)
        have d1 := hV.r (w := 0) (by omega) h1
        have d2 := hV.r (w := 0) (r := bk V t - 1) (by omega) (by omega)
        rw [if_neg (nI_ne0 (by omega) (by omega)), nIm1 (by omega), tv0 hk hT hn (by omega), bs, tv hk hT hn (by omega) (by omega), bs, if_pos hb]
        have fb : ∀ r, r < V.2.1 0 → -300 ≤ (V.2.2 0 f r).toInt ∧ (V.2.2 0 f r).toInt ≤ 110000 := fun r hr => by
          have d := hV.r (w := 0) (by omega) hr
          rcases (show f = 0 ∨ f = 1 ∨ f = 2 by omega) with rfl | rfl | rfl <;> omega
        obtain ⟨q1, q2, -⟩ := interp_q (a := V.2.2 0 f (bk V t - 1)) (b := V.2.2 0 f (bk V t)) (t := t) (t1 := V.2.2 0 0 (bk V t - 1)) (t2 := V.2.2 0 0 (bk V t)) (fb _ (by omega)) (fb _ h1) (by omega) (by omega) (by omega) (by omega) (by omega)
        rw [dd_c q1, bs, q2]
        unfold bv
        rw [if_neg e]
  · rw [if_neg (fun q => h1 ((nI_ltI (by omega) (by omega)).mp q)), if_neg (fun q => h1 (hasB_iff.mp q).1)]
theorem baseValue_L {f : Nat} (hs : kd s = 2) (hV : OkV V) (hR : RC V s M) : ∀ (c k fu : Nat), k + c = V.2.1 0 → c < fu → fX2_baseValue_L2 s t (nI f) M fu (nI k) = fX2_baseValue_J32 s t (nI f) M (nI (fstF (fun r => decide (t ≤ V.2.2 0 0 r)) k c))
  | 0, k, fu, hkc, hfu => by
    have hn := hV.n (w := 0) (by omega)
    obtain ⟨fu, rfl⟩ : ∃ z, fu = z + 1 := ⟨fu - 1, by omega⟩
    show fX2_baseValue_B2 s t (nI f) M _ (nI k) = _
    unfold fX2_baseValue_B2
    rw [show s + 1 = tk s 0 from rfl, (hR.2 0 (by omega)).1, if_pos ((nI_leI (by omega) (by omega)).mpr (by omega))]
    rfl
  | c + 1, k, fu, hkc, hfu => by
    have hn := hV.n (w := 0) (by omega)
    obtain ⟨fu, rfl⟩ : ∃ z, fu = z + 1 := ⟨fu - 1, by omega⟩
    show fX2_baseValue_B2 s t (nI f) M _ (nI k) = _
    unfold fX2_baseValue_B2
    rw [show s + 1 = tk s 0 from rfl, (hR.2 0 (by omega)).1, if_neg (by rw [nI_leI (by omega) (by omega)]; omega), tv0 (kd_tk hs (by omega)) (hR.2 0 (by omega)) hn (by omega), bs, nIp1]
    unfold fstF
    by_cases h : t ≤ V.2.2 0 0 k
    · rw [if_pos h, if_pos (decide_eq_true h)]
    · rw [if_neg h, if_neg (by rw [decide_eq_false h]; decide), baseValue_L hs hV hR c (k + 1) fu (by omega) (by omega)]
theorem baseValue_s {f : Nat} (hs : kd s = 2) (hV : OkV V) (hR : RC V s M) (hf : f < 3) : fX2_baseValue s t (nI f) M = some (if hasB V t then Int32.ofInt (bv V f t) else -2000000004) := by
  have h := baseValue_L (t := t) (f := f) hs hV hR (V.2.1 0) 0 FU (by omega) (by have := hV.n (w := 0) (by omega); unfold FU; omega)
  exact h.trans (baseValue_J hs hV hR hf)
end BASE

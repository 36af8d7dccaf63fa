/-! questions: the same answer on both sides, the views stay -/
def TXo (tl : Nat) (tx : Nat → Int32) : Prop := tl ≤ 100 ∧ ∀ k, k < tl → (32 : Int32) ≤ tx k ∧ tx k ≤ 126
def Both (V : wV) (hs : List wV) (tl : Nat) (tx : Nat → Int32) (f g : wM → Option (Int32 × wM)) : Prop := ∃ (r : Int32) (V2 : wV) (hs2 : List wV) (tl2 : Nat) (tx2 : Nat → Int32), TXo tl2 tx2 ∧ (∀ M, IC V hs tl tx M → ∃ M2, f M = some (r, M2) ∧ FrC M M2 ∧ IC V2 hs2 tl2 tx2 M2) ∧ ∀ M, IM V hs tl tx M → ∃ M2, g M = some (r, M2) ∧ FrM M M2 ∧ IM V2 hs2 tl2 tx2 M2
def pw (f : wM → Option Int32) (M : wM) : Option (Int32 × wM) := (f M).bind (fun v => some (v, M))
def pu (f : wM → Option wM) (M : wM) : Option (Int32 × wM) := (f M).bind (fun M2 => some (0, M2))
theorem Both.q {V : wV} {hs : List wV} {tl : Nat} {tx : Nat → Int32} {f g : wM → Option (Int32 × wM)} (ht : TXo tl tx) (r : Int32) (hc : ∀ M, IC V hs tl tx M → ∃ M2, f M = some (r, M2) ∧ FrC M M2 ∧ IC V hs tl tx M2) (hm : ∀ M, IM V hs tl tx M → ∃ M2, g M = some (r, M2) ∧ FrQ M M2) : Both V hs tl tx f g :=
  ⟨r, V, hs, tl, tx, ht, hc, fun M hM => by
    obtain ⟨M2, a, b⟩ := hm M hM
    exact ⟨M2, a, b.M, hM.keepQ b⟩⟩
theorem Fr96.Q {P : Nat → Prop} {M M' : wM} (h : Fr96 P M M') (hP : ∀ j, P j → 14 ≤ j) : FrQ M M' := ⟨h.1.mono (fun i q => Or.inl q), fun j hj => h.2.1 j (fun q => by have := hP j q; omega)⟩
theorem pBP14 : ∀ j, pBP j → 14 ≤ j := fun j q => by unfold pBP at q; omega
theorem hI_hgt_nf {V : wV} {t p c : Int32} (h : hasB V t = false) : hI (hgt V t p c) = -2000000004 := by
  unfold hgt
  rw [if_neg (by rw [h]; decide)]
  rfl
theorem okR_b {t p c : Int32} (h : okR t p c = true) : (50000 ≤ p.toInt ∧ p.toInt ≤ 110000) ∧ (-300 ≤ c.toInt ∧ c.toInt ≤ 500) := by
  unfold okR at h
  simp only [Bool.and_eq_true] at h
  obtain ⟨⟨-, q2⟩, q3⟩ := h
  obtain ⟨p1, p2⟩ := inR_iff.mp q2
  obtain ⟨c1, c2⟩ := inR_iff.mp q3
  exact ⟨⟨le_lit p1 (by decide), lit_le p2 (by decide)⟩, le_lit c1 (by decide), lit_le c2 (by decide)⟩
section Q1
variable {V : wV} {hs : List wV} {tl : Nat} {tx : Nat → Int32}
theorem both_baseAt (ht : TXo tl tx) (hV : OkV V) (x y : Int32) : Both V hs tl tx (pw (fX6_baseAt x y)) (fX7_baseAt x y) := by
  have k2 : kd 1 = 2 := rfl
  by_cases h1 : inR x 0 10000 = false
  · refine Both.q ht (-2000000001) (fun M h => ⟨M, ?_, Fr.rf, h⟩) (fun M h => ⟨M, ?_, FrQ.rf⟩)
    · unfold pw fX6_baseAt fX6_isTime
      simp only [within_c, bs, h1]; rfl
    · unfold fX7_baseAt
      rw [in_m, bs, h1]; rfl
  rw [Bool.not_eq_false] at h1
  by_cases h2 : inR y 0 1 = false
  · refine Both.q ht (-2000000001) (fun M h => ⟨M, ?_, Fr.rf, h⟩) (fun M h => ⟨M, ?_, FrQ.rf⟩)
    · unfold pw fX6_baseAt fX6_isTime
      simp only [within_c, bs, h1, h2]; rfl
    · unfold fX7_baseAt
      rw [in_m, bs, h1, if_neg (by decide), in_m, bs, h2]; rfl
  rw [Bool.not_eq_false] at h2
  refine Both.q ht (if hasB V x then Int32.ofInt (bv V (if y = 0 then 1 else 2) x) else -2000000004) (fun M h => ⟨M, ?_, Fr.rf, h⟩) (fun M h => ?_)
  · unfold pw fX6_baseAt fX6_isTime fX6_baseAt_J33
    simp only [within_c, bs, h1, h2]
    rw [if_neg (show ¬ b2 true = 0 from by decide), if_neg (show ¬ b2 true = 0 from by decide)]
    by_cases e : y = 0
    · simp only [if_pos e]
      rw [show (1 : Int32) = nI 1 from rfl, baseValue_s k2 hV h.2.1 (by omega), bs, bs]
    · simp only [if_neg e]
      rw [show (2 : Int32) = nI 2 from rfl, baseValue_s k2 hV h.2.1 (by omega), bs, bs]
  · obtain ⟨M2, a1, a2, a3⟩ := hasBase_m (t := x) hV (h.2.1.D (w := 0) (by omega))
    refine ⟨M2, ?_, a2.Q pBP14⟩
    unfold fX7_baseAt
    rw [in_m, bs, h1, if_neg (by decide), in_m, bs, h2, if_neg (by decide), a1, bs]
    cases hb : hasB V x
    · rw [if_pos (show b2 (false, M2).1 = 0 from rfl)]; rfl
    · rw [if_neg (show ¬ b2 (true, M2).1 = 0 from (by decide : ¬ b2 true = 0))]
      obtain ⟨b1, b2'⟩ := a3 hb
      by_cases e : y = 0
      · rw [if_pos e, if_pos e, if_pos rfl]; exact congrArg (fun z => some (z, M2)) b1
      · rw [if_neg e, if_neg e, if_pos rfl]; exact congrArg (fun z => some (z, M2)) b2'
theorem both_would (ht : TXo tl tx) (hV : OkV V) (t p c : Int32) : Both V hs tl tx (pw (fX6_would t p c)) (fX7_would t p c) := by
  by_cases h1 : okR t p c = false
  · refine Both.q ht (-2000000001) (fun M h => ⟨M, ?_, Fr.rf, h⟩) (fun M h => ⟨M, ?_, FrQ.rf⟩)
    · unfold pw fX6_would
      rw [isReading_c, bs, h1]; rfl
    · unfold fX7_would
      rw [areValues_m, bs, h1]; rfl
  rw [Bool.not_eq_false] at h1
  obtain ⟨q1, q2⟩ := okR_b h1
  refine Both.q ht (hI (hgt V t p c)) (fun M h => ⟨M, ?_, Fr.rf, h⟩) (fun M h => ?_)
  · unfold pw fX6_would
    rw [isReading_c, bs, h1, if_neg (by decide), heightAt_s (show kd 1 = 2 from rfl) hV h.2.1 q1 q2, bs, bs]
  · obtain ⟨M2, a1, a2, a3⟩ := hasBase_m (t := t) hV (h.2.1.D (w := 0) (by omega))
    refine ⟨M2, ?_, a2.Q pBP14⟩
    unfold fX7_would
    rw [areValues_m, bs, h1, if_neg (by decide), a1, bs]
    cases hb : hasB V t
    · rw [if_pos (show b2 (false, M2).1 = 0 from rfl), hI_hgt_nf hb]
    · rw [if_neg (show ¬ b2 (true, M2).1 = 0 from (by decide : ¬ b2 true = 0))]
      obtain ⟨b1, b2'⟩ := a3 hb
      have e97 : M2.1 97 = M.1 97 := (a2.1 97 (by omega)).1
      show (fX7_rawOf p c M2).bind _ = _
      rw [rawOf_m (t := t) hV hb (by rw [e97]; exact h.2.1.S (k := 0) (by omega)) b1 b2' q1 q2, bs]
theorem isC {x : Int32} {c : Nat} (hc : c < 3) : inR (nI c) 0 2 = true := by
  rcases (show c = 0 ∨ c = 1 ∨ c = 2 by omega) with rfl | rfl | rfl <;> decide
theorem wOf_c {c : Nat} (hc : c < 3) : wOf (nI c) = c + 1 := by unfold wOf; rw [nIp1, nI_clamp (by omega)]
/-- a question for a reading of a cell: ok, or not -/
theorem rd_cell {x r : Int32} (hV : OkV V) (h1 : inR x 0 2 = true) (h2 : rk V x r = true) : ∃ c j : Nat, c < 3 ∧ x = nI c ∧ r = nI j ∧ j < V.2.1 (c + 1) ∧ x + 1 = nI (c + 1) := by
  obtain ⟨c, hc, rfl⟩ := cell_of h1
  obtain ⟨-, -, j, hj, rfl⟩ := rk_of hV h2
  rw [wOf_c hc] at hj
  exact ⟨c, j, hc, rfl, rfl, hj, nIp1 c⟩
theorem both_raw (ht : TXo tl tx) (hV : OkV V) (x r : Int32) : Both V hs tl tx (fX6_raw x r) (fX7_raw x r) := by
  by_cases h1 : inR x 0 2 = false
  · refine Both.q ht (-2000000001) (fun M h => ⟨M, ?_, Fr.rf, h⟩) (fun M h => ⟨M, ?_, FrQ.rf⟩)
    · unfold fX6_raw; rw [isCell_c, bs, h1]; rfl
    · unfold fX7_raw; rw [isCell_m, bs, h1]; rfl
  rw [Bool.not_eq_false] at h1
  by_cases h2 : rk V x r = false
  · refine Both.q ht (-2000000001) (fun M h => ⟨M, ?_, Fr.rf, h⟩) (fun M h => ⟨M, ?_, FrQ.rf⟩)
    · unfold fX6_raw; rw [isCell_c, bs, h1, if_neg (by decide), isReadingOf_c h, bs, h2]; rfl
    · unfold fX7_raw; rw [isCell_m, bs, h1, if_neg (by decide), isReading_m h, bs, h2]; rfl
  rw [Bool.not_eq_false] at h2
  obtain ⟨c, j, hc, rfl, rfl, hj, e1⟩ := rd_cell hV h1 h2
  have hn := hV.n (w := c + 1) (by omega)
  refine Both.q ht (hI (hh V (c + 1) j)) (fun M h => ?_) (fun M h => ?_)
  · obtain ⟨M2, a1, a2, a3, a4⟩ := refresh_c h
    refine ⟨M2, ?_, a2, a3⟩
    unfold fX6_raw
    rw [isCell_c, bs, h1, if_neg (by decide), isReadingOf_c h, bs, h2, if_neg (by decide), a1, bs, surveyOf_c hc, bs, gk_ok (kd_sv hc), bs, raw_v (kd_sv hc) hn (a4 c hc).1.1 hj, bs]
  · have d := hV.r (w := c + 1) (by omega) hj
    obtain ⟨M2, a1, a2, a3⟩ := hasBase_m (t := V.2.2 (c + 1) 0 j) hV (h.2.1.D (w := 0) (by omega))
    have e97 : M2.1 97 = M.1 97 := (a2.1 97 (by omega)).1
    have R2 := h.2.1.keep e97
    refine ⟨M2, ?_, a2.Q pBP14⟩
    unfold fX7_raw
    rw [isCell_m, bs, h1, if_neg (by decide), isReading_m h, bs, h2, if_neg (by decide), e1, of0 (by omega) (h.2.1.D (w := c + 1) (by omega)) hn hj, bs, a1, bs]
    cases hb : hasB V (V.2.2 (c + 1) 0 j)
    · rw [if_pos (show b2 (false, M2).1 = 0 from rfl)]
      unfold hh
      rw [hI_hgt_nf hb]
    · rw [if_neg (show ¬ b2 (true, M2).1 = 0 from (by decide : ¬ b2 true = 0))]
      obtain ⟨b1, b2'⟩ := a3 hb
      show (fX7_of (nI (c + 1)) (20 : Int32) (nI j) M2).bind _ = _
      rw [of1 (by omega) (R2.D (w := c + 1) (by omega)) hn hj, bs]
      show (fX7_of (nI (c + 1)) (40 : Int32) (nI j) M2).bind _ = _
      rw [of2 (by omega) (R2.D (w := c + 1) (by omega)) hn hj, bs]
      show (fX7_rawOf (V.2.2 (c + 1) 1 j) (V.2.2 (c + 1) 2 j) M2).bind _ = _
      rw [rawOf_m (t := V.2.2 (c + 1) 0 j) hV hb (R2.S (k := 0) (by omega)) b1 b2' d.2.1 d.2.2, bs]
      rfl
theorem both_loops (ht : TXo tl tx) (hV : OkV V) (x : Int32) : Both V hs tl tx (fX6_loops x) (fX7_loops x) := by
  by_cases h1 : inR x 0 2 = false
  · refine Both.q ht (-2000000001) (fun M h => ⟨M, ?_, Fr.rf, h⟩) (fun M h => ⟨M, ?_, FrQ.rf⟩)
    · unfold fX6_loops; rw [isCell_c, bs, h1]; rfl
    · unfold fX7_loops; rw [isCell_m, bs, h1]; rfl
  rw [Bool.not_eq_false] at h1
  obtain ⟨c, hc, rfl⟩ := cell_of h1
  refine Both.q ht (nI (lpL V (c + 1)).length) (fun M h => ?_) (fun M h => ?_)
  · obtain ⟨M2, a1, a2, a3, a4⟩ := refresh_c h
    refine ⟨M2, ?_, a2, a3⟩
    unfold fX6_loops
    rw [isCell_c, bs, h1, if_neg (by decide), a1, bs, surveyOf_c hc, bs, gk_ok (kd_sv hc), bs, (a4 c hc).1.2.1]
  · obtain ⟨M2, a1, a2, a3⟩ := looks_m hV (w := c + 1) (by omega) h.2.1
    refine ⟨M2, ?_, a2.Q⟩
    unfold fX7_loops
    rw [isCell_m, bs, h1, if_neg (by decide), nIp1, a1, bs, a3.1]
theorem lp_of {n : Nat} {x : Int32} (hn : n ≤ 20) (h : inR x 0 (nI n - 1) = true) : ∃ j : Nat, j < n ∧ x = nI j := rd_of hn h
theorem both_loop (ht : TXo tl tx) (hV : OkV V) (x l y : Int32) : Both V hs tl tx (fX6_loop x l y) (fX7_loop x l y) := by
  by_cases h1 : inR x 0 2 = false
  · refine Both.q ht (-2000000001) (fun M h => ⟨M, ?_, Fr.rf, h⟩) (fun M h => ⟨M, ?_, FrQ.rf⟩)
    · unfold fX6_loop; rw [isCell_c, bs, h1]; rfl
    · unfold fX7_loop; rw [isCell_m, bs, h1]; rfl
  rw [Bool.not_eq_false] at h1
  obtain ⟨c, hc, rfl⟩ := cell_of h1
  have hn := hV.n (w := c + 1) (by omega)
  have hl := lpL_len (V := V) (w := c + 1)
  -- the class, up to the loop's number
  have cls : ∀ (r : Int32), (∀ M2, IC V hs tl tx M2 → SVF V (c + 1) (sv c) M2 → ((fX6_within l (0 : Int32) ((M2.1 (sv c) 11) - (1 : Int32)) M2).bind (fun v6 => if (b2 v6) = (0 : Int32) then some ((-2000000001 : Int32), M2)
    else if y = (0 : Int32) then (fX3_begin (sv c) l M2).bind (fun v9 => some (v9, M2))
    else if y = (1 : Int32) then (fX3_end (sv c) l M2).bind (fun v11 => some (v11, M2))
    else if y = (2 : Int32) then (fX3_misclosure (sv c) l M2).bind (fun v13 => some (v13, M2))
    else if y = (3 : Int32) then (fX3_misclosureBySteps (sv c) l M2).bind (fun v15 => some (v15, M2))
    else if y = (4 : Int32) then (fX3_minutes (sv c) l M2).bind (fun v17 => some (v17, M2))
    else some ((-2000000001 : Int32), M2))) = some (r, M2)) → ∀ M, IC V hs tl tx M → ∃ M2, fX6_loop (nI c) l y M = some (r, M2) ∧ FrC M M2 ∧ IC V hs tl tx M2 := fun r hr M h => by
    obtain ⟨M2, a1, a2, a3, a4⟩ := refresh_c h
    refine ⟨M2, ?_, a2, a3⟩
    unfold fX6_loop
    rw [isCell_c, bs, h1, if_neg (by decide), a1, bs, surveyOf_c hc, bs, gk_ok (kd_sv hc), bs]
    exact hr M2 a3 (a4 c hc)
  by_cases h3 : inR y 0 4 = false
  · refine Both.q ht (-2000000001) (cls _ (fun M2 hi hS => ?_)) (fun M h => ⟨M, ?_, FrQ.rf⟩)
    · rw [within_c, bs]
      have n0 : ∀ k : Int32, inR k 0 4 = true → ¬ y = k := fun k hk e => by rw [e, hk] at h3; cases h3
      rw [if_neg (n0 0 (by decide)), if_neg (n0 1 (by decide)), if_neg (n0 2 (by decide)), if_neg (n0 3 (by decide)), if_neg (n0 4 (by decide))]
      cases inR l 0 (M2.1 (sv c) 11 - 1) <;> rfl
    · unfold fX7_loop; rw [isCell_m, bs, h1, if_neg (by decide), in_m, bs, h3]; rfl
  rw [Bool.not_eq_false] at h3
  by_cases h2 : inR l 0 (nI (lpL V (c + 1)).length - 1) = false
  · refine Both.q ht (-2000000001) (cls _ (fun M2 hi hS => ?_)) (fun M h => ?_)
    · rw [within_c, bs, hS.1.2.1, h2]; rfl
    · obtain ⟨M2, a1, a2, a3⟩ := looks_m hV (w := c + 1) (by omega) h.2.1
      refine ⟨M2, ?_, a2.Q⟩
      unfold fX7_loop
      rw [isCell_m, bs, h1, if_neg (by decide), in_m, bs, h3, if_neg (by decide), nIp1, a1, bs, in_m, bs, a3.1, h2]; rfl
  rw [Bool.not_eq_false] at h2
  obtain ⟨k, hk, rfl⟩ := lp_of (by omega) h2
  obtain ⟨g1, g2, g3, g4⟩ := lpL_in hk
  have mdl : ∀ (r : Int32), (∀ M2, RMr V 97 0 M2 → LK V (c + 1) M2 → (if y = (0 : Int32) then (ix (nI k) (ln 104)).bind (fun k9 => some (M2.1 104 k9, M2))
    else if y = (1 : Int32) then (ix (nI k) (ln 105)).bind (fun k11 => some (M2.1 105 k11, M2))
    else if y = (2 : Int32) then (ix (nI k) (ln 105)).bind (fun k13 => (ix (M2.1 105 k13) (ln 102)).bind (fun k14 => (ix (nI k) (ln 104)).bind (fun k15 => (ix (M2.1 104 k15) (ln 102)).bind (fun k16 => some ((M2.1 102 k14) - (M2.1 102 k16), M2)))))
    else if y = (3 : Int32) then (fX7_bySteps (nI k) M2).bind (fun v18 => some (v18, M2))
    else (fX7_timeOf (nI (c + 1)) (nI k) M2).bind (fun v19 => some (v19, M2))) = some (r, M2)) → ∀ M, IM V hs tl tx M → ∃ M2, fX7_loop (nI c) (nI k) y M = some (r, M2) ∧ FrQ M M2 := fun r hr M h => by
    obtain ⟨M2, a1, a2, a3⟩ := looks_m hV (w := c + 1) (by omega) h.2.1
    refine ⟨M2, ?_, a2.Q⟩
    unfold fX7_loop
    rw [isCell_m, bs, h1, if_neg (by decide), in_m, bs, h3, if_neg (by decide), nIp1, a1, bs, in_m, bs, a3.1, h2, if_neg (by decide)]
    exact hr M2 (h.2.1.keep a2.e97) a3
  have wI : ∀ M2, SVF V (c + 1) (sv c) M2 → fX6_within (nI k) (0 : Int32) ((M2.1 (sv c) 11) - (1 : Int32)) M2 = some true := fun M2 hS => by rw [within_c, hS.1.2.1, h2]
  by_cases y0 : y = 0
  · refine Both.q ht (nI (lb V (c + 1) k)) (cls _ (fun M2 hi hS => ?_)) (mdl _ (fun M2 hR hK => ?_))
    · rw [wI M2 hS, bs, if_neg (by decide), if_pos y0, begin_v (kd_sv hc) hn hS.1 hk, bs]
    · obtain ⟨p1, p2⟩ := bgn_m hn hK hk
      rw [if_pos y0, p1, bs, p2]
  by_cases y1 : y = 1
  · refine Both.q ht (nI (le2 V (c + 1) k)) (cls _ (fun M2 hi hS => ?_)) (mdl _ (fun M2 hR hK => ?_))
    · rw [wI M2 hS, bs, if_neg (by decide), if_neg y0, if_pos y1, end_v (kd_sv hc) hn hS.1 hk, bs]
    · obtain ⟨p1, p2⟩ := en_m hn hK hk
      rw [if_neg y0, if_pos y1, p1, bs, p2]
  by_cases y2 : y = 2
  · refine Both.q ht (mis V (c + 1) k) (cls _ (fun M2 hi hS => ?_)) (mdl _ (fun M2 hR hK => ?_))
    · rw [wI M2 hS, bs, if_neg (by decide), if_neg y0, if_neg y1, if_pos y2, mis_v (kd_sv hc) hn hS.1 hk, bs]
    · obtain ⟨p1, p2⟩ := bgn_m hn hK hk
      obtain ⟨q1, q2⟩ := en_m hn hK hk
      obtain ⟨u1, u2⟩ := raws_m hn hK g2 g4
      obtain ⟨v1, v2⟩ := raws_m hn hK (show lb V (c + 1) k < V.2.1 (c + 1) by omega) g3
      rw [if_neg y0, if_neg y1, if_pos y2, q1, bs, q2, u1, bs, p1, bs, p2, v1, bs, u2, v2]
      rfl
  by_cases y3 : y = 3
  · refine Both.q ht (bySt V (c + 1) k) (cls _ (fun M2 hi hS => ?_)) (mdl _ (fun M2 hR hK => ?_))
    · rw [wI M2 hS, bs, if_neg (by decide), if_neg y0, if_neg y1, if_neg y2, if_pos y3, byS_v (kd_sv hc) hV (by omega) hS.1 hk, bs]
    · rw [if_neg y0, if_neg y1, if_neg y2, if_pos y3, byS_m hV (by omega) hK hk, bs]
  have y4 : y = 4 := by
    obtain ⟨a, b⟩ := inR_iff.mp h3
    obtain ⟨j, hj, e⟩ := nI_of2 (x := y) (M := 4) (n := 4) (by decide) (Int32.not_lt.mpr a) b
    rcases (show j = 0 ∨ j = 1 ∨ j = 2 ∨ j = 3 ∨ j = 4 by omega) with rfl | rfl | rfl | rfl | rfl
    · exact absurd e y0
    · exact absurd e y1
    · exact absurd e y2
    · exact absurd e y3
    · exact e
  refine Both.q ht (mn V (c + 1) k) (cls _ (fun M2 hi hS => ?_)) (mdl _ (fun M2 hR hK => ?_))
  · rw [wI M2 hS, bs, if_neg (by decide), if_neg y0, if_neg y1, if_neg y2, if_neg y3, if_pos y4, minutes_v (kd_sv hc) hn hS.1 hk, bs]
  · rw [if_neg y0, if_neg y1, if_neg y2, if_neg y3, timeOf_m hV (by omega) hR hK hk, bs]
theorem both_open (ht : TXo tl tx) (hV : OkV V) (x r : Int32) : Both V hs tl tx (fX6_openLoop x r) (fX7_openLoop x r) := by
  by_cases h1 : inR x 0 2 = false
  · refine Both.q ht (-2000000001) (fun M h => ⟨M, ?_, Fr.rf, h⟩) (fun M h => ⟨M, ?_, FrQ.rf⟩)
    · unfold fX6_openLoop; rw [isCell_c, bs, h1]; rfl
    · unfold fX7_openLoop; rw [isCell_m, bs, h1]; rfl
  rw [Bool.not_eq_false] at h1
  by_cases h2 : rk V x r = false
  · refine Both.q ht (-2000000001) (fun M h => ⟨M, ?_, Fr.rf, h⟩) (fun M h => ⟨M, ?_, FrQ.rf⟩)
    · unfold fX6_openLoop; rw [isCell_c, bs, h1, if_neg (by decide), isReadingOf_c h, bs, h2]; rfl
    · unfold fX7_openLoop; rw [isCell_m, bs, h1, if_neg (by decide), isReading_m h, bs, h2]; rfl
  rw [Bool.not_eq_false] at h2
  obtain ⟨c, j, hc, rfl, rfl, hj, e1⟩ := rd_cell hV h1 h2
  have hn := hV.n (w := c + 1) (by omega)
  refine Both.q ht (if oV V (c + 1) j = -1 then -2000000004 else oV V (c + 1) j) (fun M h => ?_) (fun M h => ?_)
  · obtain ⟨M2, a1, a2, a3, a4⟩ := refresh_c h
    refine ⟨M2, ?_, a2, a3⟩
    unfold fX6_openLoop
    rw [isCell_c, bs, h1, if_neg (by decide), isReadingOf_c h, bs, h2, if_neg (by decide), a1, bs, surveyOf_c hc, bs, gk_ok (kd_sv hc), bs, openOf_v (kd_sv hc) hn (a4 c hc) hj, bs]
    by_cases e : oV V (c + 1) j = -1
    · rw [if_pos e, if_pos e]
    · rw [if_neg e, if_neg e]
  · obtain ⟨M2, a1, a2, a3⟩ := looks_m hV (w := c + 1) (by omega) h.2.1
    refine ⟨M2, ?_, a2.Q⟩
    unfold fX7_openLoop
    rw [isCell_m, bs, h1, if_neg (by decide), isReading_m h, bs, h2, if_neg (by decide), e1, a1, bs, ix_in (by rw [ln103]; omega) (by rw [ln103]; omega), bs, (a3.2.2 j hj).1]
    unfold fX7_openLoop_J47 oV
    cases hg : go V (c + 1) j
    · rfl
    · rw [if_neg (show ¬ b2 true = 0 from by decide), open_m hV (by omega) (h.2.1.keep a2.e97) a3 hj, bs, if_pos rfl]
      by_cases e : oI (opn V (c + 1) j) = -1
      · rw [if_pos e, if_pos e]
      · rw [if_neg e, if_neg e]
theorem both_corr (ht : TXo tl tx) (hV : OkV V) (x r : Int32) : Both V hs tl tx (fX6_corrected x r) (fX7_corrected x r) := by
  by_cases h1 : inR x 0 2 = false
  · refine Both.q ht (-2000000001) (fun M h => ⟨M, ?_, Fr.rf, h⟩) (fun M h => ⟨M, ?_, FrQ.rf⟩)
    · unfold fX6_corrected; rw [isCell_c, bs, h1]; rfl
    · unfold fX7_corrected; rw [isCell_m, bs, h1]; rfl
  rw [Bool.not_eq_false] at h1
  by_cases h2 : rk V x r = false
  · refine Both.q ht (-2000000001) (fun M h => ⟨M, ?_, Fr.rf, h⟩) (fun M h => ⟨M, ?_, FrQ.rf⟩)
    · unfold fX6_corrected; rw [isCell_c, bs, h1, if_neg (by decide), isReadingOf_c h, bs, h2]; rfl
    · unfold fX7_corrected; rw [isCell_m, bs, h1, if_neg (by decide), isReading_m h, bs, h2]; rfl
  rw [Bool.not_eq_false] at h2
  obtain ⟨c, j, hc, rfl, rfl, hj, e1⟩ := rd_cell hV h1 h2
  have hn := hV.n (w := c + 1) (by omega)
  refine Both.q ht (cV V (c + 1) j) (fun M h => ?_) (fun M h => ?_)
  · obtain ⟨M2, a1, a2, a3, a4⟩ := refresh_c h
    refine ⟨M2, ?_, a2, a3⟩
    unfold fX6_corrected
    rw [isCell_c, bs, h1, if_neg (by decide), isReadingOf_c h, bs, h2, if_neg (by decide), a1, bs, surveyOf_c hc, bs, gk_ok (kd_sv hc), bs, corrH_v (kd_sv hc) hn (a4 c hc) hj, bs]
  · obtain ⟨M2, a1, a2, a3⟩ := looks_m hV (w := c + 1) (by omega) h.2.1
    refine ⟨M2, ?_, a2.Q⟩
    unfold fX7_corrected
    rw [isCell_m, bs, h1, if_neg (by decide), isReading_m h, bs, h2, if_neg (by decide), e1, a1, bs, ix_in (by rw [ln103]; omega) (by rw [ln103]; omega), bs, (a3.2.2 j hj).1]
    unfold cV
    cases hg : go V (c + 1) j
    · rfl
    · rw [if_neg (show ¬ b2 true = 0 from by decide), corr_m hV (by omega) (h.2.1.keep a2.e97) a3 hj hg, bs, if_pos rfl]
end Q1

/-! reading, point, worst, step -/
theorem ptA_num {V : wV} {p : Int32} (hV : OkV V) : (ptA V p).2.1 ≤ 60 := by
  have n1 := hV.n (w := 1) (by omega)
  have n2 := hV.n (w := 2) (by omega)
  have n3 := hV.n (w := 3) (by omega)
  have a1 : (foldF (ptS V 1 p) 0 (V.2.1 1) (0, 0, 0, 0)).2.1 ≤ 0 + V.2.1 1 := ptF_num (V := V) (w := 1) (p := p) (c := V.2.1 1) (k := 0) (s := (0, 0, 0, 0))
  have a2 := ptF_num (V := V) (w := 2) (p := p) (c := V.2.1 2) (k := 0) (s := ptW V p 1 (0, 0, 0, 0))
  have a3 := ptF_num (V := V) (w := 3) (p := p) (c := V.2.1 3) (k := 0) (s := ptW V p 2 (ptW V p 1 (0, 0, 0, 0)))
  unfold ptW at a2 a3
  unfold ptA ptW
  omega
theorem num5 {y : Int32} (h : inR y 0 5 = true) : ∃ f : Nat, f ≤ 5 ∧ y = nI f := by
  obtain ⟨a, b⟩ := inR_iff.mp h
  exact nI_of2 (x := y) (M := 5) (n := 5) (by decide) (Int32.not_lt.mpr a) b
section Q2
variable {V : wV} {hs : List wV} {tl : Nat} {tx : Nat → Int32}
theorem both_reading (ht : TXo tl tx) (hV : OkV V) (x r y : Int32) : Both V hs tl tx (fX6_reading x r y) (fX7_reading x r y) := by
  by_cases h2 : rk V x r = false
  · refine Both.q ht (-2000000001) (fun M h => ⟨M, ?_, Fr.rf, h⟩) (fun M h => ⟨M, ?_, FrQ.rf⟩)
    · unfold fX6_reading; rw [isReadingOf_c h, bs, h2]; rfl
    · unfold fX7_reading; rw [isReading_m h, bs, h2]; rfl
  rw [Bool.not_eq_false] at h2
  by_cases h3 : inR y 0 5 = false
  · refine Both.q ht (-2000000001) (fun M h => ⟨M, ?_, Fr.rf, h⟩) (fun M h => ⟨M, ?_, FrQ.rf⟩)
    · unfold fX6_reading; rw [isReadingOf_c h, bs, h2, if_neg (by decide), within_c, bs, h3]; rfl
    · unfold fX7_reading; rw [isReading_m h, bs, h2, if_neg (by decide), in_m, bs, h3]; rfl
  rw [Bool.not_eq_false] at h3
  obtain ⟨hx, hw, j, hj, rfl⟩ := rk_of hV h2
  obtain ⟨-, ex, hcase⟩ := cell4 hx
  obtain ⟨f, hf, rfl⟩ := num5 h3
  have hn := hV.n hw
  have hcls : ∀ (a : Int32), (∀ M, IC V hs tl tx M → (if x = (-1 : Int32) then if nI f < (3 : Int32) then fX6_reading_J34 x (nI j) (nI f) M else some ((-2000000004 : Int32), M) else fX6_reading_J34 x (nI j) (nI f) M) = some (a, M) ∨ ∃ M2, (if x = (-1 : Int32) then if nI f < (3 : Int32) then fX6_reading_J34 x (nI j) (nI f) M else some ((-2000000004 : Int32), M) else fX6_reading_J34 x (nI j) (nI f) M) = some (a, M2) ∧ FrC M M2 ∧ IC V hs tl tx M2) → ∀ M, IC V hs tl tx M → ∃ M2, fX6_reading x (nI j) (nI f) M = some (a, M2) ∧ FrC M M2 ∧ IC V hs tl tx M2 := fun a hr M h => by
    unfold fX6_reading
    rw [isReadingOf_c h, bs, h2, if_neg (by decide), within_c, bs, h3, if_neg (by decide)]
    rcases hr M h with q | q
    · exact ⟨M, q, Fr.rf, h⟩
    · exact q
  have hmod : ∀ (a : Int32), (∀ M, IM V hs tl tx M → ∃ M2, (if nI (wOf x) = (0 : Int32) then if nI f ≤ (2 : Int32) then fX7_reading_J39 x (nI j) (nI f) (nI (wOf x)) M else some ((-2000000004 : Int32), M) else fX7_reading_J39 x (nI j) (nI f) (nI (wOf x)) M) = some (a, M2) ∧ FrQ M M2) → ∀ M, IM V hs tl tx M → ∃ M2, fX7_reading x (nI j) (nI f) M = some (a, M2) ∧ FrQ M M2 := fun a hr M h => by
    unfold fX7_reading
    rw [isReading_m h, bs, h2, if_neg (by decide), in_m, bs, h3, if_neg (by decide), ex]
    exact hr M h
  -- what is told of the reading itself
  have valC : f < 4 → ∀ M, IC V hs tl tx M → ∃ M2, fX6_reading_J34 x (nI j) (nI f) M = some (V.2.2 (wOf x) f j, M2) ∧ FrC M M2 ∧ IC V hs tl tx M2 := fun hf4 M h => by
    obtain ⟨M2, a1, a2, a3, a4⟩ := refresh_c h
    refine ⟨M2, ?_, a2, a3⟩
    unfold fX6_reading_J34
    rw [a1, bs, if_neg (show ¬ nI f = (4 : Int32) from fun q => absurd ((nI_eq (b := 4) (by omega) (by omega)).mp q) (by omega)), if_neg (show ¬ nI f = (5 : Int32) from fun q => absurd ((nI_eq (b := 5) (by omega) (by omega)).mp q) (by omega)), track_w hx, bs, gk_ok (kd_tk (show kd 1 = 2 from rfl) hw), bs, tv (kd_tk (show kd 1 = 2 from rfl) hw) (a3.2.1.2 _ hw) hn hj hf4, bs]
  have valM : f < 4 → ∀ M, IM V hs tl tx M → fX7_reading_J39 x (nI j) (nI f) (nI (wOf x)) M = some (V.2.2 (wOf x) f j, M) := fun hf4 M h => by
    unfold fX7_reading_J39
    rw [if_neg (show ¬ nI f = (4 : Int32) from fun q => absurd ((nI_eq (b := 4) (by omega) (by omega)).mp q) (by omega)), if_neg (show ¬ nI f = (5 : Int32) from fun q => absurd ((nI_eq (b := 5) (by omega) (by omega)).mp q) (by omega)), show (20 : Int32) * nI f = nI (20 * f) from by rw [show (20 : Int32) = nI 20 from rfl, pk_mul], of_d hw (h.2.1.D hw) hn hj hf4, bs]
  rcases hcase with ⟨rfl, e0⟩ | ⟨c, hc, rfl, e0⟩
  · by_cases f3 : f < 3
    · refine Both.q ht (V.2.2 (wOf (-1)) f j) (hcls _ (fun M h => Or.inr ?_)) (hmod _ (fun M h => ⟨M, ?_, FrQ.rf⟩))
      · rw [if_pos rfl, if_pos (show nI f < (3 : Int32) from (nI_ltI (b := 3) (by omega) (by omega)).mpr f3)]
        exact valC (by omega) M h
      · rw [e0, if_pos (show nI 0 = (0 : Int32) from rfl), if_pos (show nI f ≤ (2 : Int32) from (nI_leI (b := 2) (by omega) (by omega)).mpr (by omega))]
        have q := valM (by omega) M h
        rw [e0] at q
        exact q
    · refine Both.q ht (-2000000004) (hcls _ (fun M h => Or.inl ?_)) (hmod _ (fun M h => ⟨M, ?_, FrQ.rf⟩))
      · rw [if_pos rfl, if_neg (show ¬ nI f < (3 : Int32) from fun q => f3 ((nI_ltI (b := 3) (by omega) (by omega)).mp q))]
      · rw [e0, if_pos (show nI 0 = (0 : Int32) from rfl), if_neg (show ¬ nI f ≤ (2 : Int32) from fun q => absurd ((nI_leI (b := 2) (by omega) (by omega)).mp q) (by omega))]
  · have nx : ¬ nI c = (-1 : Int32) := oI_ne (by omega)
    have nw : ¬ nI (wOf (nI c)) = (0 : Int32) := by rw [e0]; exact nI_ne0 (by omega) (by omega)
    rw [e0] at hj hn
    by_cases f4 : f < 4
    · refine Both.q ht (V.2.2 (wOf (nI c)) f j) (hcls _ (fun M h => Or.inr ?_)) (hmod _ (fun M h => ⟨M, ?_, FrQ.rf⟩))
      · rw [if_neg nx]; exact valC f4 M h
      · rw [if_neg nw]; exact valM f4 M h
    · by_cases f5 : f = 4
      · subst f5
        refine Both.q ht (b2 (gu V (c + 1) j)) (hcls _ (fun M h => Or.inr ?_)) (hmod _ (fun M h => ⟨M, ?_, FrQ.rf⟩))
        · obtain ⟨M2, a1, a2, a3, a4⟩ := refresh_c h
          refine ⟨M2, ?_, a2, a3⟩
          rw [if_neg nx]
          unfold fX6_reading_J34
          rw [a1, bs, if_pos (show nI 4 = (4 : Int32) from rfl), surveyOf_c hc, bs, gk_ok (kd_sv hc), bs, isGust_v (kd_sv hc) (a4 c hc).1.1.2 hn hj, bs]
          cases gu V (c + 1) j <;> rfl
        · rw [if_neg nw]
          unfold fX7_reading_J39
          rw [if_pos (show nI 4 = (4 : Int32) from rfl), e0, isGust_d (by omega) (h.2.1.D (w := c + 1) (by omega)) hn hj (h.2.1.S (k := 1) (by omega)), bs, show gustF (V.2.1 (c + 1)) (V.2.2 (c + 1)) (V.1 1) j = gu V (c + 1) j from rfl]
          cases gu V (c + 1) j <;> rfl
      · have f6 : f = 5 := by omega
        subst f6
        refine Both.q ht (b2 (go V (c + 1) j)) (hcls _ (fun M h => Or.inr ?_)) (hmod _ (fun M h => ?_))
        · obtain ⟨M2, a1, a2, a3, a4⟩ := refresh_c h
          refine ⟨M2, ?_, a2, a3⟩
          rw [if_neg nx]
          unfold fX6_reading_J34
          rw [a1, bs, if_neg (show ¬ nI 5 = (4 : Int32) from by decide), if_pos (show nI 5 = (5 : Int32) from rfl), surveyOf_c hc, bs, gk_ok (kd_sv hc), bs, isGood_v (kd_sv hc) hV (by omega) (a4 c hc).1.1.2 hj, bs]
          cases go V (c + 1) j <;> rfl
        · obtain ⟨M2, a1, a2, a3⟩ := looks_m hV (w := c + 1) (by omega) h.2.1
          refine ⟨M2, ?_, a2.Q⟩
          rw [if_neg nw]
          unfold fX7_reading_J39
          rw [if_neg (show ¬ nI 5 = (4 : Int32) from by decide), if_pos (show nI 5 = (5 : Int32) from rfl), e0, a1, bs, ix_in (by rw [ln103]; omega) (by rw [ln103]; omega), bs, (a3.2.2 j hj).1]
          cases go V (c + 1) j <;> rfl
def ptR (s : wT) (y : Int32) : Int32 := if y = 2 then nI s.2.1 else if s.2.1 = 0 then -2000000004 else if y = 0 then (dn s.1 (nI s.2.1).toInt64).toInt32 else s.2.2.2 - s.2.2.1
theorem both_point (ht : TXo tl tx) (hV : OkV V) (p y : Int32) : Both V hs tl tx (fX6_point p y) (fX7_point p y) := by
  by_cases h1 : inR p 0 9 = false
  · refine Both.q ht (-2000000001) (fun M h => ⟨M, ?_, Fr.rf, h⟩) (fun M h => ⟨M, ?_, FrQ.rf⟩)
    · unfold fX6_point; rw [isPoint_c, bs, h1]; rfl
    · unfold fX7_point; rw [in_m, bs, h1]; rfl
  rw [Bool.not_eq_false] at h1
  by_cases h2 : inR y 0 2 = false
  · refine Both.q ht (-2000000001) (fun M h => ⟨M, ?_, Fr.rf, h⟩) (fun M h => ⟨M, ?_, FrQ.rf⟩)
    · unfold fX6_point; rw [isPoint_c, bs, h1, if_neg (by decide), within_c, bs, h2]; rfl
    · unfold fX7_point; rw [in_m, bs, h1, if_neg (by decide), in_m, bs, h2]; rfl
  rw [Bool.not_eq_false] at h2
  have hnum := ptA_num (p := p) hV
  refine Both.q ht (ptR (ptA V p) y) (fun M h => ?_) (fun M h => ?_)
  · obtain ⟨M2, a1, a2, a3, a4⟩ := refresh_c h
    obtain ⟨M3, b1, b2', b3⟩ := gather_c (p := p) hV a4
    refine ⟨M3, ?_, a2.tr (b2'.mono (fun i q => by omega)), a3.keepR (fun i hi h93 => (b2' i h93).1)⟩
    unfold fX6_point ptR
    rw [isPoint_c, bs, h1, if_neg (by decide), within_c, bs, h2, if_neg (by decide), a1, bs, b1, bs, b3.2.1]
    generalize ptA V p = s at hnum b3 ⊢
    by_cases y2 : y = 2
    · rw [if_pos y2, if_pos y2]
    · rw [if_neg y2, if_neg y2]
      by_cases e : s.2.1 = 0
      · rw [if_pos (show nI s.2.1 = 0 by rw [e]; rfl), if_pos e]
      · rw [if_neg (nI_ne0 (by omega) (by omega)), if_neg e]
        have pos : 0 < ((nI s.2.1).toInt64).toInt := by rw [toI64, nI_toInt (by omega)]; omega
        obtain ⟨g1, g2⟩ := b3.2.2 (by omega)
        by_cases y0 : y = 0
        · rw [if_pos y0, if_pos y0]
          unfold fX1_height
          rw [b3.1, b3.2.1, dd_c pos, bs, bs]
        · rw [if_neg y0, if_neg y0]
          unfold fX1_spread
          rw [bs, g1, g2]
  · obtain ⟨M2, a1, a2, a3⟩ := gives_m (p := p) hV h.2.1
    refine ⟨M2, ?_, a2⟩
    unfold fX7_point ptR
    rw [in_m, bs, h1, if_neg (by decide), in_m, bs, h2, if_neg (by decide), a1, bs, a3.2.1]
    generalize ptA V p = s at hnum a3 ⊢
    by_cases y2 : y = 2
    · rw [if_pos y2, if_pos y2]
    · rw [if_neg y2, if_neg y2]
      by_cases e : s.2.1 = 0
      · rw [if_pos (show nI s.2.1 = 0 by rw [e]; rfl), if_pos e]
      · rw [if_neg (nI_ne0 (by omega) (by omega)), if_neg e]
        have pos : 0 < ((nI s.2.1).toInt64).toInt := by rw [toI64, nI_toInt (by omega)]; omega
        obtain ⟨g1, g2⟩ := a3.2.2 (by omega)
        by_cases y0 : y = 0
        · rw [if_pos y0, if_pos y0, a3.1, dd_m pos, bs]
        · rw [if_neg y0, if_neg y0, g1, g2]
/-! worst -/
def absI (x : Int32) : Int32 := if (0 : Int32) ≤ x then x else 0 - x
abbrev wB3 : Type := Int32 × Option (Nat × Nat)
def wS (V : wV) (w : Nat) (a : wB3) (k : Nat) : wB3 := if a.1 < absI (mis V w k) then (absI (mis V w k), some (w - 1, k)) else a
def wW (V : wV) (w : Nat) (a : wB3) : wB3 := foldF (wS V w) 0 (lpL V w).length a
def wAll (V : wV) : wB3 := wW V 3 (wW V 2 (wW V 1 (-1, none)))
def cI (o : Option (Nat × Nat)) : Int32 := match o with
  | none => -2000000004
  | some x => nI x.1
def kI (o : Option (Nat × Nat)) : Int32 := match o with
  | none => -2000000004
  | some x => nI x.2
def fI (o : Option (Nat × Nat)) : Int32 := match o with
  | none => -1
  | some x => nI (20 * x.1 + x.2)
theorem worst_L45 {y : Int32} {c : Nat} {bk28 : Int32 → Int32 → Int32 → Int32 → wM → Option (Int32 × wM)} {M : wM} (hc : c < 3) (hn : V.2.1 (c + 1) ≤ 20) (hS : SVF V (c + 1) (sv c) M) : ∀ (n k fu : Nat) (a : wB3), k + n = (lpL V (c + 1)).length → n < fu → fX6_worst_L45 y bk28 fu a.1 (cI a.2) (kI a.2) (nI c) (sv c) (nI k) M = bk28 (foldF (wS V (c + 1)) k n a).1 (cI (foldF (wS V (c + 1)) k n a).2) (kI (foldF (wS V (c + 1)) k n a).2) (nI (c + 1)) M
  | 0, k, fu, a, hkn, hfu => by
    obtain ⟨fu, rfl⟩ : ∃ z, fu = z + 1 := ⟨fu - 1, by omega⟩
    have hl := lpL_len (V := V) (w := c + 1)
    show fX6_worst_B45 y bk28 _ _ _ _ _ _ _ M = _
    unfold fX6_worst_B45
    rw [hS.1.2.1, if_pos ((nI_leI (by omega) (by omega)).mpr (by omega)), nIp1]
    rfl
  | n + 1, k, fu, a, hkn, hfu => by
    obtain ⟨fu, rfl⟩ : ∃ z, fu = z + 1 := ⟨fu - 1, by omega⟩
    have hl := lpL_len (V := V) (w := c + 1)
    show fX6_worst_B45 y bk28 _ _ _ _ _ _ _ M = _
    unfold fX6_worst_B45
    rw [hS.1.2.1, if_neg (by rw [nI_leI (by omega) (by omega)]; omega), mis_v (kd_sv hc) hn hS.1 (by omega), bs, nIp1]
    rw [show (if (0 : Int32) ≤ mis V (c + 1) k then mis V (c + 1) k else 0 - mis V (c + 1) k) = absI (mis V (c + 1) k) from rfl]
    rw [show foldF (wS V (c + 1)) k (n + 1) a = foldF (wS V (c + 1)) (k + 1) n (wS V (c + 1) a k) from rfl]
    by_cases h : a.1 < absI (mis V (c + 1) k)
    · have e : wS V (c + 1) a k = (absI (mis V (c + 1) k), some (c, k)) := by unfold wS; rw [if_pos h]; rfl
      rw [if_neg (Int32.not_le.mpr h), e]
      exact worst_L45 hc hn hS n (k + 1) fu (absI (mis V (c + 1) k), some (c, k)) (by omega) (by omega)
    · have e : wS V (c + 1) a k = a := by unfold wS; rw [if_neg h]
      rw [if_pos (Int32.not_lt.mp h), e]
      exact worst_L45 hc hn hS n (k + 1) fu a (by omega) (by omega)
theorem worst_L34 {y : Int32} {w : Nat} {bk19 : Int32 → Int32 → Int32 → wM → Option (Int32 × wM)} {M : wM} (hw0 : 0 < w) (hw : w < 4) (hV : OkV V) (hK : LK V w M) : ∀ (n k fu : Nat) (a : wB3), k + n = (lpL V w).length → n < fu → fX7_worst_L34 y bk19 fu (fI a.2) a.1 (nI w) (nI k) M = bk19 (fI (foldF (wS V w) k n a).2) (foldF (wS V w) k n a).1 (nI (w + 1)) M
  | 0, k, fu, a, hkn, hfu => by
    obtain ⟨fu, rfl⟩ : ∃ z, fu = z + 1 := ⟨fu - 1, by omega⟩
    have hl := lpL_len (V := V) (w := w)
    have hn := hV.n hw
    show fX7_worst_B34 y bk19 _ _ _ _ _ M = _
    unfold fX7_worst_B34
    rw [hK.1, if_pos ((nI_leI (by omega) (by omega)).mpr (by omega)), nIp1]
    rfl
  | n + 1, k, fu, a, hkn, hfu => by
    obtain ⟨fu, rfl⟩ : ∃ z, fu = z + 1 := ⟨fu - 1, by omega⟩
    have hl := lpL_len (V := V) (w := w)
    have hn := hV.n hw
    have hk : k < (lpL V w).length := by omega
    obtain ⟨g1, g2, g3, g4⟩ := lpL_in hk
    obtain ⟨p1, p2⟩ := bgn_m hn hK hk
    obtain ⟨q1, q2⟩ := en_m hn hK hk
    obtain ⟨u1, u2⟩ := raws_m hn hK g2 g4
    obtain ⟨v1, v2⟩ := raws_m hn hK (show lb V w k < V.2.1 w by omega) g3
    rw [show foldF (wS V w) k (n + 1) a = foldF (wS V w) (k + 1) n (wS V w a k) from rfl]
    show fX7_worst_B34 y bk19 _ _ _ _ _ M = _
    unfold fX7_worst_B34
    rw [hK.1, if_neg (by rw [nI_leI (by omega) (by omega)]; omega), q1, bs, q2, u1, bs, p1, bs, p2, v1, bs, u2, v2, show hI (hh V w (le2 V w k)) - hI (hh V w (lb V w k)) = mis V w k from rfl]
    have J : ∀ z : Int32, z = absI (mis V w k) → fX7_worst_J83 y bk19 (fX7_worst_L34 y bk19 fu) (fI a.2) a.1 (nI w) (nI k) z M = bk19 (fI (foldF (wS V w) (k + 1) n (wS V w a k)).2) (foldF (wS V w) (k + 1) n (wS V w a k)).1 (nI (w + 1)) M := fun z hz => by
      unfold fX7_worst_J83 fX7_worst_J105
      rw [hz]
      by_cases h : a.1 < absI (mis V w k)
      · have e : wS V w a k = (absI (mis V w k), some (w - 1, k)) := by unfold wS; rw [if_pos h]
        have ef : ((20 : Int32) * (nI w - (1 : Int32))) + nI k = fI (some (w - 1, k)) := by
          rw [nIm1 hw0, show (20 : Int32) = nI 20 from rfl, pk_mul, nI_add]; rfl
        rw [if_neg (Int32.not_le.mpr h), if_neg (Int32.not_le.mpr h), ef, nIp1, e]
        exact worst_L34 hw0 hw hV hK n (k + 1) fu (absI (mis V w k), some (w - 1, k)) (by omega) (by omega)
      · have e : wS V w a k = a := by unfold wS; rw [if_neg h]
        rw [if_pos (Int32.not_lt.mp h), if_pos (Int32.not_lt.mp h), nIp1, e]
        exact worst_L34 hw0 hw hV hK n (k + 1) fu a (by omega) (by omega)
    by_cases h0 : (0 : Int32) ≤ mis V w k
    · rw [if_pos h0]
      exact J _ (by unfold absI; rw [if_pos h0])
    · rw [if_neg h0]
      exact J _ (by unfold absI; rw [if_neg h0, Int32.zero_sub])
/-- the worst one's numbers are small -/
def wOk (a : wB3) : Prop := ∀ x, a.2 = some x → x.1 < 3 ∧ x.2 < 20
theorem wS_ok {w : Nat} (hw0 : 0 < w) (hw : w < 4) (hV : OkV V) : ∀ {n k : Nat} {a : wB3}, k + n = (lpL V w).length → wOk a → wOk (foldF (wS V w) k n a)
  | 0, k, a, _, h => h
  | n + 1, k, a, hkn, h => by
    have hl := lpL_len (V := V) (w := w)
    have hn := hV.n hw
    refine wS_ok hw0 hw hV (n := n) (k := k + 1) (by omega) ?_
    unfold wS
    rcases ite_or (c := a.1 < absI (mis V w k)) (a := (absI (mis V w k), some (w - 1, k))) (b := a) with e | e
    · rw [e]
      intro x hx
      cases hx
      have hm : k < (lpL V w).length := by omega
      obtain ⟨g1, g2, -, -⟩ := lpL_in hm
      refine ⟨by omega, ?_⟩
      show k < 20
      omega
    · rw [e]; exact h
theorem both_worst (ht : TXo tl tx) (hV : OkV V) (y : Int32) : Both V hs tl tx (fX6_worst y) (fX7_worst y) := by
  by_cases h1 : inR y 0 1 = false
  · refine Both.q ht (-2000000001) (fun M h => ⟨M, ?_, Fr.rf, h⟩) (fun M h => ⟨M, ?_, FrQ.rf⟩)
    · unfold fX6_worst; rw [within_c, bs, h1]; rfl
    · unfold fX7_worst; rw [in_m, bs, h1]; rfl
  rw [Bool.not_eq_false] at h1
  have k0 : wOk (-1, none) := fun x hx => by cases hx
  have k1 := wS_ok (V := V) (w := 1) (by omega) (by omega) hV (n := (lpL V 1).length) (k := 0) (by omega) k0
  have k2 := wS_ok (V := V) (w := 2) (by omega) (by omega) hV (n := (lpL V 2).length) (k := 0) (by omega) k1
  have k3 : wOk (wAll V) := wS_ok (V := V) (w := 3) (by omega) (by omega) hV (n := (lpL V 3).length) (k := 0) (by omega) k2
  refine Both.q ht (if y = 0 then cI (wAll V).2 else kI (wAll V).2) (fun M h => ?_) (fun M h => ?_)
  · obtain ⟨M2, a1, a2, a3, a4⟩ := refresh_c h
    refine ⟨M2, ?_, a2, a3⟩
    have step : ∀ (c fu : Nat) (a : wB3), c < 3 → fX6_worst_L28 y (fu + 1) a.1 (cI a.2) (kI a.2) (nI c) M2 = fX6_worst_L28 y fu (wW V (c + 1) a).1 (cI (wW V (c + 1) a).2) (kI (wW V (c + 1) a).2) (nI (c + 1)) M2 := fun c fu a hc => by
      have hn := hV.n (w := c + 1) (by omega)
      have hl := lpL_len (V := V) (w := c + 1)
      show fX6_worst_B28 y _ _ _ _ _ M2 = _
      unfold fX6_worst_B28
      rw [if_neg (show ¬ (3 : Int32) ≤ nI c from fun q => absurd ((nI_leI (a := 3) (by omega) (by omega)).mp q) (by omega)), surveyOf_c hc, bs, gk_ok (kd_sv hc), bs]
      exact worst_L45 hc hn (a4 c hc) (lpL V (c + 1)).length 0 FU a (by omega) (by unfold FU; omega)
    unfold fX6_worst
    rw [within_c, bs, h1, if_neg (by decide), a1, bs]
    have e : fX6_worst_L28 y FU (-1 : Int32) (-2000000004 : Int32) (-2000000004 : Int32) (0 : Int32) M2 = fX6_worst_L28 y 99997 (wAll V).1 (cI (wAll V).2) (kI (wAll V).2) (nI 3) M2 := by
      rw [show FU = 99999 + 1 from rfl]
      exact (step 0 99999 (-1, none) (by omega)).trans ((step 1 99998 _ (by omega)).trans (step 2 99997 _ (by omega)))
    rw [e]
    show fX6_worst_B28 y _ _ _ _ _ M2 = _
    unfold fX6_worst_B28
    rw [if_pos (show (3 : Int32) ≤ nI 3 from by decide)]
    by_cases y0 : y = 0
    · rw [if_pos y0, if_pos y0]
    · rw [if_neg y0, if_neg y0]
  · have step : ∀ (w fu : Nat) (a : wB3) (N : wM), 0 < w → w < 4 → RMr V 97 0 N → ∃ N2, fX7_worst_L19 y (fu + 1) (fI a.2) a.1 (nI w) N = fX7_worst_L19 y fu (fI (wW V w a).2) (wW V w a).1 (nI (w + 1)) N2 ∧ FrQ N N2 ∧ RMr V 97 0 N2 := fun w fu a N h0 hw hR => by
      have hn := hV.n hw
      have hl := lpL_len (V := V) (w := w)
      obtain ⟨N2, b1, b2', b3⟩ := looks_m hV hw hR
      refine ⟨N2, ?_, b2'.Q, hR.keep b2'.e97⟩
      show fX7_worst_B19 y _ _ _ _ N = _
      unfold fX7_worst_B19
      rw [if_neg (show ¬ (4 : Int32) ≤ nI w from fun q => absurd ((nI_leI (a := 4) (by omega) (by omega)).mp q) (by omega)), b1, bs]
      exact worst_L34 h0 hw hV b3 (lpL V w).length 0 FU a (by omega) (by unfold FU; omega)
    obtain ⟨N1, a1, a2, a3⟩ := step 1 99999 (-1, none) M (by omega) (by omega) h.2.1
    obtain ⟨N2, b1, b2', b3⟩ := step 2 99998 _ N1 (by omega) (by omega) a3
    obtain ⟨N3, c1, c2, c3⟩ := step 3 99997 _ N2 (by omega) (by omega) b3
    refine ⟨N3, ?_, (a2.tr b2').tr c2⟩
    unfold fX7_worst
    rw [in_m, bs, h1, if_neg (by decide)]
    have e : fX7_worst_L19 y FU (-1 : Int32) (-1 : Int32) (1 : Int32) M = fX7_worst_L19 y 99997 (fI (wAll V).2) (wAll V).1 (nI 4) N3 := by
      rw [show FU = 99999 + 1 from rfl]
      exact a1.trans (b1.trans c1)
    rw [e]
    show fX7_worst_B19 y _ _ _ _ N3 = _
    unfold fX7_worst_B19
    rw [if_pos (show (4 : Int32) ≤ nI 4 from by decide)]
    cases ew : (wAll V).2 with
    | none =>
      rw [if_pos (show fI none = -1 from rfl)]
      by_cases y0 : y = 0
      · rw [if_pos y0]; rfl
      · rw [if_neg y0]; rfl
    | some x =>
      obtain ⟨x1, x2⟩ := k3 x ew
      rw [if_neg (show ¬ fI (some x) = -1 from oI_ne (j := 20 * x.1 + x.2) (by omega)), show fI (some x) = nI (20 * x.1 + x.2) from rfl]
      by_cases y0 : y = 0
      · rw [if_pos y0, if_pos y0, show dvI (nI (20 * x.1 + x.2)) (20 : Int32) = some (nI (20 * x.1 + x.2) / 20) from if_neg (by decide), bs, show (20 : Int32) = nI 20 from rfl, pk_div (by omega) (by omega) (by omega), show (20 * x.1 + x.2) / 20 = x.1 by omega]
        rfl
      · rw [if_neg y0, if_neg y0, show rmI (nI (20 * x.1 + x.2)) (20 : Int32) = some (nI (20 * x.1 + x.2) - nI (20 * x.1 + x.2) / 20 * 20) from if_neg (by decide), bs, show (20 : Int32) = nI 20 from rfl, pk_rem (by omega) (by omega) (by omega), show (20 * x.1 + x.2) % 20 = x.2 by omega]
        rfl
end Q2

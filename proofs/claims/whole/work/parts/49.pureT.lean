/-! how many -/
theorem cntF_R {p : Nat → Bool} : ∀ (c r : Nat), cntF p (r + c) = cntF p r + cntR p r c
  | 0, r => rfl
  | c + 1, r => by
    have h := cntF_R (p := p) c (r + 1)
    rw [show r + (c + 1) = r + 1 + c by omega, h]
    show cntF p r + (if p r then 1 else 0) + _ = _ + ((if p r then 1 else 0) + _)
    omega
theorem cntR_0 {p : Nat → Bool} (n : Nat) : cntR p 0 n = cntF p n := by
  have h := cntF_R (p := p) n 0
  rw [Nat.zero_add] at h
  rw [h]
  show _ = 0 + _
  omega
theorem cntR_no {c r : Nat} : cntR (fun _ => false) r c = 0 := by
  induction c generalizing r with
  | zero => rfl
  | succ c ih =>
    show (if false = true then 1 else 0) + cntR (fun _ => false) (r + 1) c = 0
    rw [ih, if_neg (by decide)]
def hasP (V : wV) (p : Nat) : Bool := decide (0 < (ptA V (nI p)).2.1)
section CN
variable {V : wV} {hs : List wV} {tl : Nat} {tx : Nat → Int32} {M : wM}
theorem cstep {p : Nat → Bool} {r c : Nat} : cntR p r (c + 1) = (if p r then 1 else 0) + cntR p (r + 1) c := rfl
theorem withHeight_L (hV : OkV V) : ∀ (c k s fu : Nat) (M : wM), k + c = 10 → c < fu → SVA V M → ∃ M', fX6_pointsWithHeight_L4 fu (nI s) (nI k) M = some (nI (s + cntR (hasP V) k c), M') ∧ Fr (fun i => i = 93) M M'
  | c, k, s, 0, M, _, h, _ => absurd h (by omega)
  | 0, k, s, fu + 1, M, hk, _, hS => by
    refine ⟨M, ?_, Fr.rf⟩
    show fX6_pointsWithHeight_B4 _ _ _ M = _
    unfold fX6_pointsWithHeight_B4
    rw [if_pos (show (10 : Int32) ≤ nI k from (nI_leI (a := 10) (by omega) (by omega)).mpr (by omega))]
    rfl
  | c + 1, k, s, fu + 1, M, hk, hfu, hS => by
    obtain ⟨N, a1, a2, a3⟩ := gather_c (p := nI k) hV hS
    have hS2 : SVA V N := hS.keep (fun i h1 h2 => (a2 i (by omega)).1)
    have hnum := ptA_num (p := nI k) hV
    show ∃ M', fX6_pointsWithHeight_B4 _ _ _ M = _ ∧ _
    unfold fX6_pointsWithHeight_B4
    rw [if_neg (show ¬ (10 : Int32) ≤ nI k from fun q => absurd ((nI_leI (a := 10) (by omega) (by omega)).mp q) (by omega)), a1, bs, a3.2.1, nIp1, nIp1, Int32.add_zero, cstep]
    by_cases e : (ptA V (nI k)).2.1 = 0
    · obtain ⟨M', b1, b2⟩ := withHeight_L hV c (k + 1) s fu N (by omega) (by omega) hS2
      rw [if_pos (show nI (ptA V (nI k)).2.1 ≤ 0 from by rw [e]; decide), b1, show hasP V k = false from decide_eq_false (by omega), if_neg (by decide), Nat.zero_add]
      exact ⟨M', rfl, a2.tr b2⟩
    · obtain ⟨M', b1, b2⟩ := withHeight_L hV c (k + 1) (s + 1) fu N (by omega) (by omega) hS2
      rw [if_neg (nI_nle (by omega) (by omega)), b1, show hasP V k = true from decide_eq_true (by omega), if_pos rfl]
      exact ⟨M', by rw [show s + 1 + cntR (hasP V) (k + 1) c = s + (1 + cntR (hasP V) (k + 1) c) by omega], a2.tr b2⟩
theorem heights_L (hV : OkV V) : ∀ (c k s fu : Nat) (M : wM), k + c = 10 → c < fu → RMr V 97 0 M → ∃ M', fX7_heights_L4 fu (nI s) (nI k) M = some (nI (s + cntR (hasP V) k c), M') ∧ FrQ M M'
  | c, k, s, 0, M, _, h, _ => absurd h (by omega)
  | 0, k, s, fu + 1, M, hk, _, hS => by
    refine ⟨M, ?_, FrQ.rf⟩
    show fX7_heights_B4 _ _ _ M = _
    unfold fX7_heights_B4
    rw [if_pos (show (10 : Int32) ≤ nI k from (nI_leI (a := 10) (by omega) (by omega)).mpr (by omega))]
    rfl
  | c + 1, k, s, fu + 1, M, hk, hfu, hS => by
    obtain ⟨N, a1, a2, a3⟩ := gives_m (p := nI k) hV hS
    have hS2 : RMr V 97 0 N := hS.keep a2.e97
    have hnum := ptA_num (p := nI k) hV
    show ∃ M', fX7_heights_B4 _ _ _ M = _ ∧ _
    unfold fX7_heights_B4
    rw [if_neg (show ¬ (10 : Int32) ≤ nI k from fun q => absurd ((nI_leI (a := 10) (by omega) (by omega)).mp q) (by omega)), a1, bs, a3.2.1, nIp1, nIp1, Int32.add_zero, cstep]
    by_cases e : (ptA V (nI k)).2.1 = 0
    · obtain ⟨M', b1, b2⟩ := heights_L hV c (k + 1) s fu N (by omega) (by omega) hS2
      rw [if_pos (show nI (ptA V (nI k)).2.1 ≤ 0 from by rw [e]; decide), b1, show hasP V k = false from decide_eq_false (by omega), if_neg (by decide), Nat.zero_add]
      exact ⟨M', rfl, a2.tr b2⟩
    · obtain ⟨M', b1, b2⟩ := heights_L hV c (k + 1) (s + 1) fu N (by omega) (by omega) hS2
      rw [if_neg (nI_nle (by omega) (by omega)), b1, show hasP V k = true from decide_eq_true (by omega), if_pos rfl]
      exact ⟨M', by rw [show s + 1 + cntR (hasP V) (k + 1) c = s + (1 + cntR (hasP V) (k + 1) c) by omega], a2.tr b2⟩
theorem steps_cL (hV : OkV V) (hR : RC V 1 M) : ∀ (c r s fu : Nat), c = V.2.1 0 - r → 0 < r → r ≤ 13 → s < r → c < fu → fX2_steps_L4 1 M fu (nI s) (nI r) = some (nI (s + cntR (stE V) r c))
  | c, r, s, 0, _, _, _, _, h => absurd h (by omega)
  | 0, r, s, fu + 1, hc, h0, h13, hsr, hfu => by
    have hn := hV.n (w := 0) (by omega)
    show fX2_steps_B4 1 M _ _ _ = _
    unfold fX2_steps_B4
    rw [show (1 : Nat) + 1 = tk 1 0 from rfl, (hR.2 0 (by omega)).1, if_pos ((nI_leI (by omega) (by omega)).mpr (by omega))]
    rfl
  | c + 1, r, s, fu + 1, hc, h0, h13, hsr, hfu => by
    have hn := (hV.2 0 (by omega)).1
    rw [show cap 0 = 12 from rfl] at hn
    show fX2_steps_B4 1 M _ _ _ = _
    unfold fX2_steps_B4
    rw [show (1 : Nat) + 1 = tk 1 0 from rfl, (hR.2 0 (by omega)).1, if_neg (by rw [nI_leI (by omega) (by omega)]; omega), stepEnd_c hV hR h0 (by omega), bs, nIp1, nIp1, Int32.add_zero, cstep]
    cases h : stE V r
    · rw [if_pos (show b2 false = 0 from rfl), steps_cL hV hR c (r + 1) s fu (by omega) (by omega) (by omega) (by omega) (by omega), if_neg (by decide), Nat.zero_add]
    · rw [if_neg (show ¬ b2 true = 0 from by decide), steps_cL hV hR c (r + 1) (s + 1) fu (by omega) (by omega) (by omega) (by omega) (by omega), if_pos rfl, Nat.add_assoc]
theorem steps_mL (hV : OkV V) (hR : RMr V 97 0 M) : ∀ (d j fu : Nat), j + d = cntR (stE V) 1 (V.2.1 0 - 1) → d < fu → fX7_steps_L2 M fu (nI j) = some (nI (cntR (stE V) 1 (V.2.1 0 - 1)))
  | d, j, 0, _, h => absurd h (by omega)
  | d, j, fu + 1, hj, hfu => by
    have hn := hV.n (w := 0) (by omega)
    have hle := cntR_le (p := stE V) (c := V.2.1 0 - 1) (r := 1)
    have e := stepsTo_L (x := nI j) hV hR (V.2.1 0 - 1) 1 j FU rfl (by omega) (by omega) (by omega) (by unfold FU; omega)
    show fX7_steps_B2 M _ _ = _
    unfold fX7_steps_B2 fX7_stepsTo
    rw [show (1 : Int32) = nI 1 from rfl, e, bs]
    cases d with
    | zero =>
      rw [kthF_none.mpr (by omega), if_pos (show oI none = -nI 1 from rfl), show j = cntR (stE V) 1 (V.2.1 0 - 1) by omega]
    | succ d =>
      cases q : kthF (stE V) j 1 (V.2.1 0 - 1) with
      | none => exact absurd (kthF_none.mp q) (by omega)
      | some z =>
        have hz := kthF_lt q
        rw [if_neg (show ¬ oI (some z) = -nI 1 from oI_ne (by omega)), show nI j + nI 1 = nI (j + 1) from nIp1 j]
        exact steps_mL hV hR d (j + 1) fu (by omega) (by omega)
def qM (m : Nat) (V : wV) (w r : Nat) : Bool := if m = 0 then gu V w r else if m = 2 then go V w r else false
def aM (m : Nat) (V : wV) (w : Nat) : Nat := if m = 1 then (lpL V w).length else cntF (qM m V w) (V.2.1 w)
theorem inAll_L33 {m w : Nat} {bk4 : Int32 → Int32 → wM → Option (Int32 × wM)} (hm : m < 3) (hV : OkV V) (hw : w < 4) (hR : RMr V 97 0 M) (hK : LK V w M) : ∀ (c k s fu : Nat), k + c = V.2.1 w → c < fu → fX7_inAll_L33 (nI m) bk4 fu (nI s) (nI w) (nI k) M = bk4 (nI (s + cntR (qM m V w) k c)) (nI (w + 1)) M
  | c, k, s, 0, _, h => absurd h (by omega)
  | 0, k, s, fu + 1, hk, hfu => by
    have hn := hV.n hw
    show fX7_inAll_B33 _ _ _ _ _ _ M = _
    unfold fX7_inAll_B33
    rw [cnt_ix hw, bs, (hR.D hw).1, if_pos ((nI_leI (by omega) (by omega)).mpr (by omega)), nIp1]
    rfl
  | c + 1, k, s, fu + 1, hk, hfu => by
    have hn := hV.n hw
    show fX7_inAll_B33 _ _ _ _ _ _ M = _
    unfold fX7_inAll_B33
    rw [cnt_ix hw, bs, (hR.D hw).1, if_neg (by rw [nI_leI (by omega) (by omega)]; omega), isGust_d hw (hR.D hw) hn (show k < V.2.1 w by omega) (hR.S (k := 1) (by omega)), bs, show gustF (V.2.1 w) (V.2.2 w) (V.1 1) k = gu V w k from rfl, cstep]
    have y : qM m V w k = true → fX7_inAll_L33 (nI m) bk4 fu (nI s + 1) (nI w) (nI k + 1) M = bk4 (nI (s + ((if qM m V w k then 1 else 0) + cntR (qM m V w) (k + 1) c))) (nI (w + 1)) M := fun q => by
      rw [nIp1, nIp1, inAll_L33 hm hV hw hR hK c (k + 1) (s + 1) fu (by omega) (by omega), if_pos q, Nat.add_assoc]
    have n : qM m V w k = false → fX7_inAll_L33 (nI m) bk4 fu (nI s + 0) (nI w) (nI k + 1) M = bk4 (nI (s + ((if qM m V w k then 1 else 0) + cntR (qM m V w) (k + 1) c))) (nI (w + 1)) M := fun q => by
      rw [nIp1, Int32.add_zero, inAll_L33 hm hV hw hR hK c (k + 1) s fu (by omega) (by omega), if_neg (by rw [q]; decide), Nat.zero_add]
    rcases (show m = 0 ∨ m = 1 ∨ m = 2 by omega) with rfl | rfl | rfl
    · rw [if_pos (show nI 0 = 0 from rfl)]
      cases q : gu V w k
      · rw [if_pos (show b2 false = 0 from rfl)]
        unfold fX7_inAll_J61
        rw [if_neg (show ¬ nI 0 = (2 : Int32) from by decide)]
        exact n q
      · rw [if_neg (show ¬ b2 true = 0 from by decide)]
        exact y q
    · rw [if_neg (show ¬ nI 1 = 0 from by decide)]
      unfold fX7_inAll_J61
      rw [if_neg (show ¬ nI 1 = (2 : Int32) from by decide)]
      exact n rfl
    · rw [if_neg (show ¬ nI 2 = 0 from by decide)]
      unfold fX7_inAll_J61
      rw [if_pos (show nI 2 = (2 : Int32) from rfl), ix_in (by rw [ln103]; omega) (by rw [ln103]; omega), bs, (hK.2.2 k (by omega)).1]
      cases q : go V w k
      · rw [if_pos (show b2 false = 0 from rfl)]
        exact n q
      · rw [if_neg (show ¬ b2 true = 0 from by decide)]
        exact y q
theorem inAll_m {m : Nat} (hm : m < 3) (hV : OkV V) (hR : RMr V 97 0 M) : ∃ M', fX7_inAll (nI m) M = some (nI (aM m V 1 + aM m V 2 + aM m V 3), M') ∧ FrQ M M' := by
  have step : ∀ (w fu s : Nat) (N : wM), 0 < w → w < 4 → RMr V 97 0 N → ∃ N', fX7_inAll_L4 (nI m) (fu + 1) (nI s) (nI w) N = fX7_inAll_L4 (nI m) fu (nI (s + aM m V w)) (nI (w + 1)) N' ∧ FrQ N N' ∧ RMr V 97 0 N' := fun w fu s N h0 hw hR => by
    have hn := hV.n hw
    obtain ⟨N', a1, a2, a3⟩ := looks_m hV hw hR
    have hR' := hR.keep a2.e97
    refine ⟨N', ?_, a2.Q, hR'⟩
    show fX7_inAll_B4 _ _ _ _ N = _
    unfold fX7_inAll_B4
    rw [if_neg (show ¬ (4 : Int32) ≤ nI w from fun q => absurd ((nI_leI (a := 4) (by omega) (by omega)).mp q) (by omega)), a1, bs, a3.1, nI_add, Int32.add_zero]
    have go' := fun s' => inAll_L33 (bk4 := fX7_inAll_L4 (nI m) fu) hm hV hw hR' a3 (V.2.1 w) 0 s' FU (by omega) (by unfold FU; omega)
    unfold aM
    by_cases e : m = 1
    · subst e
      rw [if_pos (show nI 1 = (1 : Int32) from rfl), if_pos rfl, show (0 : Int32) = nI 0 from rfl, go', show qM 1 V w = fun _ => false from funext fun r => rfl, cntR_no, Nat.add_zero]
    · rw [if_neg (show ¬ nI m = (1 : Int32) from fun q => e ((nI_eq (b := 1) (by omega) (by omega)).mp q)), if_neg e, show (0 : Int32) = nI 0 from rfl, go', cntR_0]
  obtain ⟨N1, a1, a2, a3⟩ := step 1 99999 0 M (by omega) (by omega) hR
  obtain ⟨N2, b1, b2', b3⟩ := step 2 99998 _ N1 (by omega) (by omega) a3
  obtain ⟨N3, c1, c2, c3⟩ := step 3 99997 _ N2 (by omega) (by omega) b3
  refine ⟨N3, ?_, (a2.tr b2').tr c2⟩
  unfold fX7_inAll
  have e : fX7_inAll_L4 (nI m) FU (0 : Int32) (1 : Int32) M = fX7_inAll_L4 (nI m) 99997 (nI (0 + aM m V 1 + aM m V 2 + aM m V 3)) (nI 4) N3 := by
    rw [show FU = 99999 + 1 from rfl, show (0 : Int32) = nI 0 from rfl, show (1 : Int32) = nI 1 from rfl]
    exact a1.trans (b1.trans c1)
  rw [e]
  show fX7_inAll_B4 _ _ _ _ N3 = _
  unfold fX7_inAll_B4
  rw [if_pos (show (4 : Int32) ≤ nI 4 from by decide), Nat.zero_add]
theorem trk_ix {x : Nat} {M : wM} (hx : x < 4) : fX2_track 1 (nI x - (1 : Int32)) M = some (tk 1 x) := by
  rcases (show x = 0 ∨ x = 1 ∨ x = 2 ∨ x = 3 by omega) with rfl | rfl | rfl | rfl <;> rfl
theorem both_count (ht : TXo tl tx) (hV : OkV V) (x : Int32) : Both V hs tl tx (fX6_count x) (fX7_count x) := by
  have cls : ∀ (r : Int32), (∀ M, IC V hs tl tx M → SVA V M → ∃ M2, (if x = (0 : Int32) then fX6_count_J76 x M
    else if x = (1 : Int32) then fX6_count_J76 x M
    else if x = (2 : Int32) then fX6_count_J76 x M
    else if x = (3 : Int32) then fX6_count_J76 x M
    else if x = (4 : Int32) then some (((M.1 66 9) + (M.1 75 9)) + (M.1 84 9), M)
    else if x = (5 : Int32) then some (((M.1 66 11) + (M.1 75 11)) + (M.1 84 11), M)
    else if x = (6 : Int32) then (fX2_steps 1 M).bind (fun v12 => some (v12, M))
    else if x = (7 : Int32) then (fX6_pointsWithHeight M).bind (fun p14 => some (p14.1, p14.2))
    else if x = (8 : Int32) then some (M.1 19 2, M)
    else if x = (9 : Int32) then some (M.1 94 1, M)
    else if x = (10 : Int32) then fX6_count_J167 x M
    else if x = (11 : Int32) then fX6_count_J167 x M
    else if x = (12 : Int32) then fX6_count_J167 x M
    else if x = (13 : Int32) then some (((M.1 66 10) + (M.1 75 10)) + (M.1 84 10), M)
    else some ((-2000000001 : Int32), M)) = some (r, M2) ∧ Fr (fun i => i = 93) M M2) → ∀ M, IC V hs tl tx M → ∃ M2, fX6_count x M = some (r, M2) ∧ FrC M M2 ∧ IC V hs tl tx M2 := fun r hr M h => by
    obtain ⟨M2, a1, a2, a3, a4⟩ := refresh_c h
    obtain ⟨M3, b1, b2'⟩ := hr M2 a3 a4
    refine ⟨M3, ?_, a2.tr (b2'.mono (fun i q => by omega)), a3.keepR (fun i hi h93 => (b2' i h93).1)⟩
    unfold fX6_count
    rw [a1, bs]
    exact b1
  have J76 : ∀ (w : Nat) (M : wM), w < 4 → IC V hs tl tx M → fX6_count_J76 (nI w) M = some (nI (V.2.1 w), M) := fun w M hw h => by
    unfold fX6_count_J76
    rw [trk_ix hw, bs, gk_ok (kd_tk (show kd 1 = 2 from rfl) hw), bs, (h.2.1.2 w hw).1]
  have J72 : ∀ (w : Nat) (M : wM), w < 4 → IM V hs tl tx M → fX7_count_J72 (nI w) M = some (nI (V.2.1 w), M) := fun w M hw h => by
    unfold fX7_count_J72
    rw [cnt_ix hw, bs, (h.2.1.D hw).1]
  have hg : ∀ w, cntF (gu V w) (V.2.1 w) = aM 0 V w := fun w => rfl
  have hl : ∀ w, (lpL V w).length = aM 1 V w := fun w => rfl
  have ho : ∀ w, cntF (go V w) (V.2.1 w) = aM 2 V w := fun w => rfl
  by_cases h0 : x = 0
  · refine Both.q ht (nI (V.2.1 0)) (cls _ (fun M h hS => ⟨M, ?_, Fr.rf⟩)) (fun M h => ⟨M, ?_, FrQ.rf⟩)
    · rw [if_pos h0, h0]; exact J76 0 M (by omega) h
    · unfold fX7_count; rw [if_pos h0, h0]; exact J72 0 M (by omega) h
  by_cases h1 : x = 1
  · refine Both.q ht (nI (V.2.1 1)) (cls _ (fun M h hS => ⟨M, ?_, Fr.rf⟩)) (fun M h => ⟨M, ?_, FrQ.rf⟩)
    · rw [if_neg h0, if_pos h1, h1]; exact J76 1 M (by omega) h
    · unfold fX7_count; rw [if_neg h0, if_pos h1, h1]; exact J72 1 M (by omega) h
  by_cases h2 : x = 2
  · refine Both.q ht (nI (V.2.1 2)) (cls _ (fun M h hS => ⟨M, ?_, Fr.rf⟩)) (fun M h => ⟨M, ?_, FrQ.rf⟩)
    · rw [if_neg h0, if_neg h1, if_pos h2, h2]; exact J76 2 M (by omega) h
    · unfold fX7_count; rw [if_neg h0, if_neg h1, if_pos h2, h2]; exact J72 2 M (by omega) h
  by_cases h3 : x = 3
  · refine Both.q ht (nI (V.2.1 3)) (cls _ (fun M h hS => ⟨M, ?_, Fr.rf⟩)) (fun M h => ⟨M, ?_, FrQ.rf⟩)
    · rw [if_neg h0, if_neg h1, if_neg h2, if_pos h3, h3]; exact J76 3 M (by omega) h
    · unfold fX7_count; rw [if_neg h0, if_neg h1, if_neg h2, if_pos h3, h3]; exact J72 3 M (by omega) h
  by_cases h4 : x = 4
  · refine Both.q ht (nI (aM 0 V 1 + aM 0 V 2 + aM 0 V 3)) (cls _ (fun M h hS => ⟨M, ?_, Fr.rf⟩)) (fun M h => ?_)
    · rw [if_neg h0, if_neg h1, if_neg h2, if_neg h3, if_pos h4, show M.1 66 9 = _ from (hS 0 (by omega)).2.1, show M.1 75 9 = _ from (hS 1 (by omega)).2.1, show M.1 84 9 = _ from (hS 2 (by omega)).2.1, nI_add, nI_add]
      rfl
    · obtain ⟨M2, a1, a2⟩ := inAll_m (m := 0) (by omega) hV h.2.1
      refine ⟨M2, ?_, a2⟩
      unfold fX7_count; rw [if_neg h0, if_neg h1, if_neg h2, if_neg h3, if_pos h4, show (0 : Int32) = nI 0 from rfl, a1, bs]
  by_cases h5 : x = 5
  · refine Both.q ht (nI (aM 1 V 1 + aM 1 V 2 + aM 1 V 3)) (cls _ (fun M h hS => ⟨M, ?_, Fr.rf⟩)) (fun M h => ?_)
    · rw [if_neg h0, if_neg h1, if_neg h2, if_neg h3, if_neg h4, if_pos h5, show M.1 66 11 = _ from (hS 0 (by omega)).1.2.1, show M.1 75 11 = _ from (hS 1 (by omega)).1.2.1, show M.1 84 11 = _ from (hS 2 (by omega)).1.2.1, nI_add, nI_add]
      rfl
    · obtain ⟨M2, a1, a2⟩ := inAll_m (m := 1) (by omega) hV h.2.1
      refine ⟨M2, ?_, a2⟩
      unfold fX7_count; rw [if_neg h0, if_neg h1, if_neg h2, if_neg h3, if_neg h4, if_pos h5, show (1 : Int32) = nI 1 from rfl, a1, bs]
  by_cases h6 : x = 6
  · have hn := (hV.2 0 (by omega)).1
    rw [show cap 0 = 12 from rfl] at hn
    refine Both.q ht (nI (cntR (stE V) 1 (V.2.1 0 - 1))) (cls _ (fun M h hS => ⟨M, ?_, Fr.rf⟩)) (fun M h => ⟨M, ?_, FrQ.rf⟩)
    · rw [if_neg h0, if_neg h1, if_neg h2, if_neg h3, if_neg h4, if_neg h5, if_pos h6]
      unfold fX2_steps
      have e := steps_cL hV h.2.1 (V.2.1 0 - 1) 1 0 FU rfl (by omega) (by omega) (by omega) (by unfold FU; omega)
      rw [show (0 : Int32) = nI 0 from rfl, show (1 : Int32) = nI 1 from rfl, e, bs, Nat.zero_add]
    · unfold fX7_count; rw [if_neg h0, if_neg h1, if_neg h2, if_neg h3, if_neg h4, if_neg h5, if_pos h6]
      unfold fX7_steps
      have hle := cntR_le (p := stE V) (c := V.2.1 0 - 1) (r := 1)
      have e := steps_mL hV h.2.1 (cntR (stE V) 1 (V.2.1 0 - 1)) 0 FU (by omega) (by unfold FU; omega)
      rw [show (0 : Int32) = nI 0 from rfl, e, bs]
  by_cases h7 : x = 7
  · refine Both.q ht (nI (0 + cntR (hasP V) 0 10)) (cls _ (fun M h hS => ?_)) (fun M h => ?_)
    · obtain ⟨M2, a1, a2⟩ := withHeight_L hV 10 0 0 FU M (by omega) (by unfold FU; omega) hS
      refine ⟨M2, ?_, a2⟩
      rw [if_neg h0, if_neg h1, if_neg h2, if_neg h3, if_neg h4, if_neg h5, if_neg h6, if_pos h7]
      unfold fX6_pointsWithHeight
      rw [show (0 : Int32) = nI 0 from rfl, a1, bs]
    · obtain ⟨M2, a1, a2⟩ := heights_L hV 10 0 0 FU M (by omega) (by unfold FU; omega) h.2.1
      refine ⟨M2, ?_, a2⟩
      unfold fX7_count
      rw [if_neg h0, if_neg h1, if_neg h2, if_neg h3, if_neg h4, if_neg h5, if_neg h6, if_pos h7]
      unfold fX7_heights
      rw [show (0 : Int32) = nI 0 from rfl, a1, bs]
  by_cases h8 : x = 8
  · refine Both.q ht (nI hs.length) (cls _ (fun M h hS => ⟨M, ?_, Fr.rf⟩)) (fun M h => ⟨M, ?_, FrQ.rf⟩)
    · rw [if_neg h0, if_neg h1, if_neg h2, if_neg h3, if_neg h4, if_neg h5, if_neg h6, if_neg h7, if_pos h8]
      obtain ⟨-, -, ⟨o, q⟩, -⟩ := h
      rw [q.2.2.1]
    · unfold fX7_count
      rw [if_neg h0, if_neg h1, if_neg h2, if_neg h3, if_neg h4, if_neg h5, if_neg h6, if_neg h7, if_pos h8, h.2.2.1.1]
  by_cases h9 : x = 9
  · refine Both.q ht (nI tl) (cls _ (fun M h hS => ⟨M, ?_, Fr.rf⟩)) (fun M h => ⟨M, ?_, FrQ.rf⟩)
    · rw [if_neg h0, if_neg h1, if_neg h2, if_neg h3, if_neg h4, if_neg h5, if_neg h6, if_neg h7, if_neg h8, if_pos h9, h.2.2.2.2.1]
    · unfold fX7_count
      rw [if_neg h0, if_neg h1, if_neg h2, if_neg h3, if_neg h4, if_neg h5, if_neg h6, if_neg h7, if_neg h8, if_pos h9, h.2.2.2.1]
  by_cases h10 : x = 10
  · refine Both.q ht (V.1 0) (cls _ (fun M h hS => ⟨M, ?_, Fr.rf⟩)) (fun M h => ⟨M, ?_, FrQ.rf⟩)
    · rw [if_neg h0, if_neg h1, if_neg h2, if_neg h3, if_neg h4, if_neg h5, if_neg h6, if_neg h7, if_neg h8, if_neg h9, if_pos h10, h10]
      exact congrArg (fun z => some (z, M)) (h.2.1.1 0 (by omega))
    · unfold fX7_count
      rw [if_neg h0, if_neg h1, if_neg h2, if_neg h3, if_neg h4, if_neg h5, if_neg h6, if_neg h7, if_neg h8, if_neg h9, if_pos h10, h10]
      unfold fX7_count_J113
      rw [show (10 : Int32) - 10 = nI 0 from rfl, ix_in (by rw [ln97]; omega) (by rw [ln97]; omega), bs, h.2.1.S (k := 0) (by omega)]
  by_cases h11 : x = 11
  · refine Both.q ht (V.1 1) (cls _ (fun M h hS => ⟨M, ?_, Fr.rf⟩)) (fun M h => ⟨M, ?_, FrQ.rf⟩)
    · rw [if_neg h0, if_neg h1, if_neg h2, if_neg h3, if_neg h4, if_neg h5, if_neg h6, if_neg h7, if_neg h8, if_neg h9, if_neg h10, if_pos h11, h11]
      exact congrArg (fun z => some (z, M)) (h.2.1.1 1 (by omega))
    · unfold fX7_count
      rw [if_neg h0, if_neg h1, if_neg h2, if_neg h3, if_neg h4, if_neg h5, if_neg h6, if_neg h7, if_neg h8, if_neg h9, if_neg h10, if_pos h11, h11]
      unfold fX7_count_J113
      rw [show (11 : Int32) - 10 = nI 1 from rfl, ix_in (by rw [ln97]; omega) (by rw [ln97]; omega), bs, h.2.1.S (k := 1) (by omega)]
  by_cases h12 : x = 12
  · refine Both.q ht (V.1 2) (cls _ (fun M h hS => ⟨M, ?_, Fr.rf⟩)) (fun M h => ⟨M, ?_, FrQ.rf⟩)
    · rw [if_neg h0, if_neg h1, if_neg h2, if_neg h3, if_neg h4, if_neg h5, if_neg h6, if_neg h7, if_neg h8, if_neg h9, if_neg h10, if_neg h11, if_pos h12, h12]
      exact congrArg (fun z => some (z, M)) (h.2.1.1 2 (by omega))
    · unfold fX7_count
      rw [if_neg h0, if_neg h1, if_neg h2, if_neg h3, if_neg h4, if_neg h5, if_neg h6, if_neg h7, if_neg h8, if_neg h9, if_neg h10, if_neg h11, if_pos h12, h12]
      unfold fX7_count_J113
      rw [show (12 : Int32) - 10 = nI 2 from rfl, ix_in (by rw [ln97]; omega) (by rw [ln97]; omega), bs, h.2.1.S (k := 2) (by omega)]
  by_cases h13 : x = 13
  · refine Both.q ht (nI (aM 2 V 1 + aM 2 V 2 + aM 2 V 3)) (cls _ (fun M h hS => ⟨M, ?_, Fr.rf⟩)) (fun M h => ?_)
    · rw [if_neg h0, if_neg h1, if_neg h2, if_neg h3, if_neg h4, if_neg h5, if_neg h6, if_neg h7, if_neg h8, if_neg h9, if_neg h10, if_neg h11, if_neg h12, if_pos h13, show M.1 66 10 = _ from (hS 0 (by omega)).2.2.1, show M.1 75 10 = _ from (hS 1 (by omega)).2.2.1, show M.1 84 10 = _ from (hS 2 (by omega)).2.2.1, nI_add, nI_add]
      rfl
    · obtain ⟨M2, a1, a2⟩ := inAll_m (m := 2) (by omega) hV h.2.1
      refine ⟨M2, ?_, a2⟩
      unfold fX7_count; rw [if_neg h0, if_neg h1, if_neg h2, if_neg h3, if_neg h4, if_neg h5, if_neg h6, if_neg h7, if_neg h8, if_neg h9, if_neg h10, if_neg h11, if_neg h12, if_pos h13, show (2 : Int32) = nI 2 from rfl, a1, bs]
  refine Both.q ht (-2000000001) (cls _ (fun M h hS => ⟨M, ?_, Fr.rf⟩)) (fun M h => ⟨M, ?_, FrQ.rf⟩)
  · rw [if_neg h0, if_neg h1, if_neg h2, if_neg h3, if_neg h4, if_neg h5, if_neg h6, if_neg h7, if_neg h8, if_neg h9, if_neg h10, if_neg h11, if_neg h12, if_neg h13]
  · unfold fX7_count
    rw [if_neg h0, if_neg h1, if_neg h2, if_neg h3, if_neg h4, if_neg h5, if_neg h6, if_neg h7, if_neg h8, if_neg h9, if_neg h10, if_neg h11, if_neg h12, if_neg h13]
end CN

/-! the reference: open loops, corrected heights, the second way -/
section OM
variable {V : wV} {w : Nat} {M : wM}
theorem bgn_m {k : Nat} (hn : V.2.1 w ≤ 20) (hK : LK V w M) (h : k < (lpL V w).length) : ix (nI k) (ln 104) = some k ∧ M.1 104 k = nI (lb V w k) := by
  have hl := lpL_len (V := V) (w := w)
  exact ⟨ix_in (by rw [ln104]; omega) (by rw [ln104]; omega), (hK.2.1 k _ (lpL_k h)).1⟩
theorem en_m {k : Nat} (hn : V.2.1 w ≤ 20) (hK : LK V w M) (h : k < (lpL V w).length) : ix (nI k) (ln 105) = some k ∧ M.1 105 k = nI (le2 V w k) := by
  have hl := lpL_len (V := V) (w := w)
  exact ⟨ix_in (by rw [ln105]; omega) (by rw [ln105]; omega), (hK.2.1 k _ (lpL_k h)).2⟩
theorem timeOf_m {k : Nat} (hV : OkV V) (hw : w < 4) (hR : RMr V 97 0 M) (hK : LK V w M) (h : k < (lpL V w).length) : fX7_timeOf (nI w) (nI k) M = some (mn V w k) := by
  have hn := hV.n hw
  obtain ⟨h1, h2, -, -⟩ := lpL_in h
  obtain ⟨a1, a2⟩ := bgn_m hn hK h
  obtain ⟨b1, b2⟩ := en_m hn hK h
  unfold fX7_timeOf
  rw [b1, bs, b2, of0 hw (hR.D hw) hn h2, bs, a1, bs, a2, of0 hw (hR.D hw) hn (by omega), bs]
  rfl
theorem open_L {r : Nat} (hV : OkV V) (hw : w < 4) (hR : RMr V 97 0 M) (hK : LK V w M) (hr : r < V.2.1 w) : ∀ (c k fu : Nat) (best : Option Nat), k + c = (lpL V w).length → c < fu → (∀ j, best = some j → j < k) → fX7_open_L5 (nI w) (nI r) M fu (oI best) (nI k) = some (oI (foldF (opS V w r) k c best))
  | 0, k, fu, best, hkc, hfu, hb => by
    obtain ⟨fu, rfl⟩ : ∃ z, fu = z + 1 := ⟨fu - 1, by omega⟩
    have hl := lpL_len (V := V) (w := w)
    have hn := hV.n hw
    show fX7_open_B5 (nI w) (nI r) M _ _ _ = _
    unfold fX7_open_B5
    rw [hK.1, if_pos ((nI_leI (by omega) (by omega)).mpr (by omega))]
    rfl
  | c + 1, k, fu, best, hkc, hfu, hb => by
    obtain ⟨fu, rfl⟩ : ∃ z, fu = z + 1 := ⟨fu - 1, by omega⟩
    have hl := lpL_len (V := V) (w := w)
    have hn := hV.n hw
    have hkl : k < (lpL V w).length := by omega
    obtain ⟨h1, h2, -, -⟩ := lpL_in hkl
    obtain ⟨p1, p2⟩ := bgn_m hn hK hkl
    obtain ⟨q1, q2⟩ := en_m hn hK hkl
    have ih := fun (b2 : Option Nat) (hb2 : ∀ j, b2 = some j → j < k + 1) => open_L hV hw hR hK hr c (k + 1) fu b2 (by omega) (by omega) hb2
    show fX7_open_B5 (nI w) (nI r) M _ _ _ = _
    unfold fX7_open_B5
    rw [hK.1, if_neg (by rw [nI_leI (by omega) (by omega)]; omega), p1, bs, p2]
    have j0 : ∀ bk x y, fX7_open_J62 (nI w) (nI r) M bk x y 0 = bk x (y + 1) := fun bk x y => by unfold fX7_open_J62; rw [if_pos rfl]
    have j1 : ∀ bk x y, fX7_open_J62 (nI w) (nI r) M bk x y 1 = bk y (y + 1) := fun bk x y => by unfold fX7_open_J62; rw [if_neg (by decide)]
    rw [show foldF (opS V w r) k (c + 1) best = foldF (opS V w r) (k + 1) c (opS V w r best k) from rfl]
    have keepB : ∀ j, best = some j → j < k + 1 := fun j hj => by have := hb j hj; omega
    by_cases c1 : r < lb V w k
    · have e : opS V w r best k = best := by
        unfold opS
        rw [decide_eq_false (show ¬ lb V w k ≤ r by omega)]
        simp
      rw [if_pos ((nI_ltI (by omega) (by omega)).mpr c1), j0, nIp1, ih best keepB, e]
    · rw [if_neg (by rw [nI_ltI (by omega) (by omega)]; exact c1), q1, bs, q2]
      by_cases c2 : le2 V w k < r
      · have e : opS V w r best k = best := by
          unfold opS
          rw [decide_eq_false (show ¬ r ≤ le2 V w k by omega)]
          simp
        rw [if_pos ((nI_ltI (by omega) (by omega)).mpr c2), j0, nIp1, ih best keepB, e]
      · rw [if_neg (by rw [nI_ltI (by omega) (by omega)]; exact c2)]
        cases best with
        | none =>
          have e : opS V w r none k = some k := by
            unfold opS
            rw [decide_eq_true (show lb V w k ≤ r by omega), decide_eq_true (show r ≤ le2 V w k by omega)]
            simp
          rw [if_pos (show oI none = -1 from rfl), j1, nIp1, show nI k = oI (some k) from rfl, ih (some k) (fun j hj => by cases hj; omega), e]
        | some j =>
          have hj := hb j rfl
          rw [if_neg (oI_ne (by omega)), timeOf_m hV hw hR hK hkl, bs, show oI (some j) = nI j from rfl, timeOf_m hV hw hR hK (by omega), bs]
          by_cases c3 : mn V w k < mn V w j
          · have e : opS V w r (some j) k = some k := by
              unfold opS
              rw [decide_eq_true (show lb V w k ≤ r by omega), decide_eq_true (show r ≤ le2 V w k by omega)]
              simp [c3]
            rw [if_neg (Int32.not_le.mpr c3), j1, nIp1, show nI k = oI (some k) from rfl, ih (some k) (fun j hj => by cases hj; omega), e]
          · have e : opS V w r (some j) k = some j := by
              unfold opS
              rw [decide_eq_true (show lb V w k ≤ r by omega), decide_eq_true (show r ≤ le2 V w k by omega)]
              simp [c3]
            rw [if_pos (Int32.not_lt.mp c3), j0, nIp1, show nI j = oI (some j) from rfl, ih (some j) keepB, e]
theorem open_m {r : Nat} (hV : OkV V) (hw : w < 4) (hR : RMr V 97 0 M) (hK : LK V w M) (hr : r < V.2.1 w) : fX7_open (nI w) (nI r) M = some (oI (opn V w r)) := by
  have hl := lpL_len (V := V) (w := w)
  have hn := hV.n hw
  exact open_L hV hw hR hK hr (lpL V w).length 0 FU none (by omega) (by unfold FU; omega) (fun j hj => by cases hj)
theorem raws_m {r : Nat} (hn : V.2.1 w ≤ 20) (hK : LK V w M) (hr : r < V.2.1 w) (hg : go V w r = true) : ix (nI r) (ln 102) = some r ∧ M.1 102 r = hI (hh V w r) := by
  refine ⟨ix_in (by rw [ln102]; omega) (by rw [ln102]; omega), ?_⟩
  rw [(hK.2.2 r hr).2]
  unfold gR
  rw [hg, if_pos rfl]
theorem corr_m {r : Nat} (hV : OkV V) (hw : w < 4) (hR : RMr V 97 0 M) (hK : LK V w M) (hr : r < V.2.1 w) (hg : go V w r = true) : fX7_correctedOf (nI w) (nI r) M = some (cor V w r) := by
  have hl := lpL_len (V := V) (w := w)
  have hn := hV.n hw
  obtain ⟨x1, x2⟩ := raws_m hn hK hr hg
  unfold fX7_correctedOf cor
  rw [open_m hV hw hR hK hr, bs]
  cases e : opn V w r with
  | none => rw [if_pos (show oI none = -1 from rfl), x1, bs, x2]
  | some k =>
    have hkl := opn_lt e
    obtain ⟨h1, h2, g1, g2⟩ := lpL_in hkl
    obtain ⟨p1, p2⟩ := bgn_m hn hK hkl
    obtain ⟨q1, q2⟩ := en_m hn hK hkl
    obtain ⟨y1, y2⟩ := raws_m hn hK h2 g2
    obtain ⟨z1, z2⟩ := raws_m hn hK (show lb V w k < V.2.1 w by omega) g1
    rw [if_neg (oI_ne (by omega)), show oI (some k) = nI k from rfl, q1, bs, q2, y1, bs, p1, bs, p2, z1, bs, of0 hw (hR.D hw) hn hr, bs, bs, p2, of0 hw (hR.D hw) hn (by omega), bs, x1, bs, timeOf_m hV hw hR hK hkl, bs, y2, z2, dd_m (by rw [toI64]; exact mn_pos hV hw hkl), bs, x2]
    rfl
def stS (V : wV) (w : Nat) (a : Int32 × Nat) (r : Nat) : Int32 × Nat := if go V w r then (a.1 + (hI (hh V w r) - hI (hh V w a.2)), r) else a
def bySt (V : wV) (w k : Nat) : Int32 := (foldF (stS V w) (lb V w k + 1) (le2 V w k - lb V w k) (0, lb V w k)).1
theorem byS_Lm {k : Nat} (hV : OkV V) (hw : w < 4) (hK : LK V w M) (hk : k < (lpL V w).length) : ∀ (c r fu : Nat) (a : Int32 × Nat), r + c = le2 V w k + 1 → c < fu → a.2 < V.2.1 w → go V w a.2 = true → fX7_bySteps_L19 (nI k) M fu a.1 (nI a.2) (nI r) = some (foldF (stS V w) r c a).1
  | 0, r, fu, a, hrc, hfu, h1, h2 => by
    obtain ⟨fu, rfl⟩ : ∃ z, fu = z + 1 := ⟨fu - 1, by omega⟩
    have hn := hV.n hw
    obtain ⟨g1, g2, -, -⟩ := lpL_in hk
    obtain ⟨q1, q2⟩ := en_m hn hK hk
    show fX7_bySteps_B19 (nI k) M _ _ _ _ = _
    unfold fX7_bySteps_B19
    rw [q1, bs, q2, if_pos ((nI_ltI (by omega) (by omega)).mpr (by omega))]
    rfl
  | c + 1, r, fu, a, hrc, hfu, h1, h2 => by
    obtain ⟨fu, rfl⟩ : ∃ z, fu = z + 1 := ⟨fu - 1, by omega⟩
    have hn := hV.n hw
    obtain ⟨g1, g2, -, -⟩ := lpL_in hk
    obtain ⟨q1, q2⟩ := en_m hn hK hk
    show fX7_bySteps_B19 (nI k) M _ _ _ _ = _
    unfold fX7_bySteps_B19
    rw [q1, bs, q2, if_neg (by rw [nI_ltI (by omega) (by omega)]; omega), ix_in (by rw [ln103]; omega) (by rw [ln103]; omega), bs, (hK.2.2 r (by omega)).1, nIp1]
    rw [show foldF (stS V w) r (c + 1) a = foldF (stS V w) (r + 1) c (stS V w a r) from rfl]
    cases hg : go V w r
    · have e : stS V w a r = a := by unfold stS; rw [hg]; rfl
      rw [if_pos (show b2 false = 0 from rfl), byS_Lm hV hw hK hk c (r + 1) fu a (by omega) (by omega) h1 h2, e]
    · have e : stS V w a r = (a.1 + (hI (hh V w r) - hI (hh V w a.2)), r) := by unfold stS; rw [hg]; rfl
      obtain ⟨x1, x2⟩ := raws_m hn hK (show r < V.2.1 w by omega) hg
      obtain ⟨y1, y2⟩ := raws_m hn hK h1 h2
      rw [if_neg (show ¬ b2 true = 0 from by decide), x1, bs, x2, y1, bs, y2, e]
      exact byS_Lm hV hw hK hk c (r + 1) fu (a.1 + (hI (hh V w r) - hI (hh V w a.2)), r) (by omega) (by omega) (by show r < _; omega) hg
theorem byS_m {k : Nat} (hV : OkV V) (hw : w < 4) (hK : LK V w M) (hk : k < (lpL V w).length) : fX7_bySteps (nI k) M = some (bySt V w k) := by
  have hn := hV.n hw
  obtain ⟨g1, g2, g3, -⟩ := lpL_in hk
  obtain ⟨p1, p2⟩ := bgn_m hn hK hk
  unfold fX7_bySteps
  rw [p1, bs, bs, p2, nIp1]
  exact byS_Lm hV hw hK hk (le2 V w k - lb V w k) (lb V w k + 1) FU (0, lb V w k) (by omega) (by unfold FU; omega) (by show lb V w k < _; omega) g3
end OM
/-! the class: the second way; sums of points -/
section OC
variable {V : wV} {w v : Nat} {M : wM}
theorem byS_Lc {k : Nat} (hkd : kd v = 3) (hV : OkV V) (hw : w < 4) (hS : SV3 V w v M) (hk : k < (lpL V w).length) : ∀ (c r fu : Nat) (a : Int32 × Nat), r + c = le2 V w k + 1 → c < fu → fX3_misclosureBySteps_L21 v (nI k) M fu a.1 (hI (hh V w a.2)) (nI r) = some (foldF (stS V w) r c a).1
  | 0, r, fu, a, hrc, hfu => by
    obtain ⟨fu, rfl⟩ : ∃ z, fu = z + 1 := ⟨fu - 1, by omega⟩
    have hn := hV.n hw
    obtain ⟨g1, g2, -, -⟩ := lpL_in hk
    show fX3_misclosureBySteps_B21 v (nI k) M _ _ _ _ = _
    unfold fX3_misclosureBySteps_B21
    rw [end_v hkd hn hS hk, bs, if_pos ((nI_ltI (by omega) (by omega)).mpr (by omega))]
    rfl
  | c + 1, r, fu, a, hrc, hfu => by
    obtain ⟨fu, rfl⟩ : ∃ z, fu = z + 1 := ⟨fu - 1, by omega⟩
    have hn := hV.n hw
    obtain ⟨g1, g2, -, -⟩ := lpL_in hk
    have hr : r < V.2.1 w := by omega
    show fX3_misclosureBySteps_B21 v (nI k) M _ _ _ _ = _
    unfold fX3_misclosureBySteps_B21
    rw [end_v hkd hn hS hk, bs, if_neg (by rw [nI_ltI (by omega) (by omega)]; omega), hS.1.1, if_neg (by rw [nI_leI (by omega) (by omega)]; omega), isGood_v hkd hV hw hS.1.2 hr, bs, nIp1]
    rw [show foldF (stS V w) r (c + 1) a = foldF (stS V w) (r + 1) c (stS V w a r) from rfl]
    cases hg : go V w r
    · have e : stS V w a r = a := by unfold stS; rw [hg]; rfl
      rw [if_pos (show b2 false = 0 from rfl), byS_Lc hkd hV hw hS hk c (r + 1) fu a (by omega) (by omega), e]
    · have e : stS V w a r = (a.1 + (hI (hh V w r) - hI (hh V w a.2)), r) := by unfold stS; rw [hg]; rfl
      rw [if_neg (show ¬ b2 true = 0 from by decide), raw_v hkd hn hS.1 hr, bs, bs, e]
      exact byS_Lc hkd hV hw hS hk c (r + 1) fu (a.1 + (hI (hh V w r) - hI (hh V w a.2)), r) (by omega) (by omega)
theorem byS_v {k : Nat} (hkd : kd v = 3) (hV : OkV V) (hw : w < 4) (hS : SV3 V w v M) (hk : k < (lpL V w).length) : fX3_misclosureBySteps v (nI k) M = some (bySt V w k) := by
  have hn := hV.n hw
  obtain ⟨g1, g2, g3, -⟩ := lpL_in hk
  unfold fX3_misclosureBySteps
  rw [begin_v hkd hn hS hk, bs, raw_v hkd hn hS.1 (by omega), bs, bs, nIp1]
  exact byS_Lc hkd hV hw hS hk (le2 V w k - lb V w k) (lb V w k + 1) FU (0, lb V w k) (by omega) (by unfold FU; omega)
end OC
abbrev wT : Type := Int64 × Nat × Int32 × Int32
def adS (s : wT) (h : Int32) : wT := (s.1 + h.toInt64, s.2.1 + 1, if s.2.1 = 0 then h else if h < s.2.2.1 then h else s.2.2.1, if s.2.1 = 0 then h else if s.2.2.2 < h then h else s.2.2.2)
def endsO (V : wV) (w r : Nat) : Bool := match opn V w r with
  | none => false
  | some k => decide (le2 V w k = r)
def inP (V : wV) (w : Nat) (p : Int32) (r : Nat) : Bool := go V w r && decide (V.2.2 w 3 r = p) && !endsO V w r
def ptS (V : wV) (w : Nat) (p : Int32) (s : wT) (r : Nat) : wT := if inP V w p r then adS s (cor V w r) else s
def ptW (V : wV) (p : Int32) (w : Nat) (s : wT) : wT := foldF (ptS V w p) 0 (V.2.1 w) s
def ptA (V : wV) (p : Int32) : wT := ptW V p 3 (ptW V p 2 (ptW V p 1 (0, 0, 0, 0)))
theorem ptS_num {V : wV} {w : Nat} {p : Int32} {s : wT} {r : Nat} : (ptS V w p s r).2.1 ≤ s.2.1 + 1 := by
  unfold ptS
  rcases ite_or (c := inP V w p r = true) (a := adS s (cor V w r)) (b := s) with e | e
  · rw [e]; exact Nat.le_refl _
  · rw [e]; omega
theorem ptF_num {V : wV} {w : Nat} {p : Int32} : ∀ {c k : Nat} {s : wT}, (foldF (ptS V w p) k c s).2.1 ≤ s.2.1 + c
  | 0, k, s => Nat.le_refl _
  | c + 1, k, s => by
    have h1 := ptF_num (V := V) (w := w) (p := p) (c := c) (k := k + 1) (s := ptS V w p s k)
    have h2 := ptS_num (V := V) (w := w) (p := p) (s := s) (r := k)
    rw [show foldF (ptS V w p) k (c + 1) s = foldF (ptS V w p) (k + 1) c (ptS V w p s k) from rfl]
    omega
def PSc (s : wT) (M : wM) : Prop := M.2 93 = s.1 ∧ M.1 93 1 = nI s.2.1 ∧ (0 < s.2.1 → M.1 93 2 = s.2.2.1 ∧ M.1 93 3 = s.2.2.2)
def PSm (s : wT) (M : wM) : Prop := M.2 96 = s.1 ∧ M.1 96 18 = nI s.2.1 ∧ (0 < s.2.1 → M.1 96 19 = s.2.2.1 ∧ M.1 96 20 = s.2.2.2)
theorem add_c {s : wT} {h : Int32} {M : wM} (hP : PSc s M) (hn : s.2.1 < 1000) : ∃ M', fX1_add 93 h M = some M' ∧ Fr (fun i => i = 93) M M' ∧ PSc (adS s h) M' := by
  obtain ⟨h1, h2, h3⟩ := hP
  have fin : ∀ a b : Int32, a = (adS s h).2.2.1 → b = (adS s h).2.2.2 → ∃ M', some (st (stL (st (st M 93 2 a) 93 3 b) 93 (((st (st M 93 2 a) 93 3 b).2 93) + h.toInt64)) 93 1 (((stL (st (st M 93 2 a) 93 3 b) 93 (((st (st M 93 2 a) 93 3 b).2 93) + h.toInt64)).1 93 1) + (1 : Int32))) = some M' ∧ Fr (fun i => i = 93) M M' ∧ PSc (adS s h) M' := fun a b ha hb => by
    refine ⟨_, rfl, (((Fr.st (P := fun i => i = 93) rfl).tr (Fr.st rfl)).tr (Fr.stL rfl)).tr (Fr.st rfl), ?_, ?_, fun _ => ⟨?_, ?_⟩⟩
    · show (stL (st (st M 93 2 a) 93 3 b) 93 (M.2 93 + h.toInt64)).2 93 = _
      rw [stL_same, h1]; rfl
    · rw [st_same, stL_1, st_col (by omega), st_col (by omega), h2]; exact nIp1 _
    · rw [st_col (by omega), stL_1, st_col (by omega), st_same]; exact ha
    · rw [st_col (by omega), stL_1, st_same]; exact hb
  unfold fX1_add
  by_cases e : s.2.1 = 0
  · rw [if_pos (show M.1 93 1 = (0 : Int32) by rw [h2, e]; rfl)]
    unfold fX1_add_J20
    rw [st_col (by omega), if_pos (show M.1 93 1 = (0 : Int32) by rw [h2, e]; rfl)]
    unfold fX1_add_J43
    exact fin h h (by unfold adS; simp [e]) (by unfold adS; simp [e])
  · have e1 : ¬ M.1 93 1 = (0 : Int32) := by rw [h2]; exact nI_ne0 (by omega) (by omega)
    obtain ⟨g1, g2⟩ := h3 (by omega)
    rw [if_neg e1]
    unfold fX1_add_J20
    rw [st_col (by omega), if_neg e1, st_col (by omega), g1, g2]
    unfold fX1_add_J43
    exact fin _ _ (by unfold adS; simp [e]) (by unfold adS; simp [e])

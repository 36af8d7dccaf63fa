/-! the reference: open loops, corrected heights, the second way -/
section OM
variable {V : wV} {w : Nat} {M : wM}
def stS (V : wV) (w : Nat) (a : Int32 × Nat) (r : Nat) : Int32 × Nat := if go V w r then (a.1 + (hI (hh V w r) - hI (hh V w a.2)), r) else a
def bySt (V : wV) (w k : Nat) : Int32 := (foldF (stS V w) (lb V w k + 1) (le2 V w k - lb V w k) (0, lb V w k)).1
end OM
/-! the class: the second way; sums of points -/
section OC
variable {V : wV} {w v : Nat} {M : wM}
theorem byS_Lc {k : Nat} (hkd : kd v = 3) (hV : OkV V) (hw : w < 4) (hS : SV3 V w v M) (hk : k < (lpL V w).length) : ∀ (c r fu : Nat) (a : Int32 × Nat), r + c = le2 V w k + 1 → c < fu → fX3_misclosureBySteps_L21 v (nI k) M fu a.1 (hI (hh V w a.2)) (nI r) = some (foldF (stS V w) r c a).1
  | 0, r, fu, a, hrc, hfu => by
    obtain ⟨fu, rfl⟩ : ∃ z, fu = z + 1 := ⟨fu - 1, by omega⟩
    have hn := hV.n hw
    obtain ⟨g1, g2, -, -⟩ := lpL_in hk
    show fX3_misclosureBySteps_B21 v (nI k) M _ _ _ _ = _
    unfold fX3_misclosureBySteps_B21
    rw [end_v hkd hn hS hk, bs, if_pos ((nI_ltI (by omega) (by omega)).mpr (by omega))]
    rfl
  | c + 1, r, fu, a, hrc, hfu => by
    obtain ⟨fu, rfl⟩ : ∃ z, fu = z + 1 := ⟨fu - 1, by omega⟩
    have hn := hV.n hw
    obtain ⟨g1, g2, -, -⟩ := lpL_in hk
    have hr : r < V.2.1 w := by omega
    show fX3_misclosureBySteps_B21 v (nI k) M _ _ _ _ = _
    unfold fX3_misclosureBySteps_B21
    rw [end_v hkd hn hS hk, bs, if_neg (by rw [nI_ltI (by omega) (by omega)]; omega), hS.1.1, if_neg (by rw [nI_leI (by omega) (by omega)]; omega), isGood_v hkd hV hw hS.1.2 hr, bs, nIp1]
    rw [show foldF (stS V w) r (c + 1) a = foldF (stS V w) (r + 1) c (stS V w a r) from rfl]
    cases hg : go V w r
    · have e : stS V w a r = a := by unfold stS; rw [hg]; rfl
      rw [if_pos (show b2 false = 0 from rfl), byS_Lc hkd hV hw hS hk c (r + 1) fu a (by omega) (by omega), e]
    · have e : stS V w a r = (a.1 + (hI (hh V w r) - hI (hh V w a.2)), r) := by unfold stS; rw [hg]; rfl
      rw [if_neg (show ¬ b2 true = 0 from by decide), raw_v hkd hn hS.1 hr, bs, bs, e]
      exact byS_Lc hkd hV hw hS hk c (r + 1) fu (a.1 + (hI (hh V w r) - hI (hh V w a.2)), r) (by omega) (by omega)
theorem byS_v {k : Nat} (hkd : kd v = 3) (hV : OkV V) (hw : w < 4) (hS : SV3 V w v M) (hk : k < (lpL V w).length) : fX3_misclosureBySteps v (nI k) M = some (bySt V w k) := by
  have hn := hV.n hw
  obtain ⟨g1, g2, g3, -⟩ := lpL_in hk
  unfold fX3_misclosureBySteps
  rw [begin_v hkd hn hS hk, bs, raw_v hkd hn hS.1 (by omega), bs, bs, nIp1]
  exact byS_Lc hkd hV hw hS hk (le2 V w k - lb V w k) (lb V w k + 1) FU (0, lb V w k) (by omega) (by unfold FU; omega)
end OC
abbrev wT : Type := Int64 × Nat × Int32 × Int32
def adS (s : wT) (h : Int32) : wT := (s.1 + h.toInt64, s.2.1 + 1, if s.2.1 = 0 then h else if h < s.2.2.1 then h else s.2.2.1, if s.2.1 = 0 then h else if s.2.2.2 < h then h else s.2.2.2)
def endsO (V : wV) (w r : Nat) : Bool := match opn V w r with
  | none => false
  | some k => decide (le2 V w k = r)
def inP (V : wV) (w : Nat) (p : Int32) (r : Nat) : Bool := go V w r && decide (V.2.2 w 3 r = p) && !endsO V w r
def ptS (V : wV) (w : Nat) (p : Int32) (s : wT) (r : Nat) : wT := if inP V w p r then adS s (cor V w r) else s
def ptW (V : wV) (p : Int32) (w : Nat) (s : wT) : wT := foldF (ptS V w p) 0 (V.2.1 w) s
def ptA (V : wV) (p : Int32) : wT := ptW V p 3 (ptW V p 2 (ptW V p 1 (0, 0, 0, 0)))
theorem ptS_num {V : wV} {w : Nat} {p : Int32} {s : wT} {r : Nat} : (ptS V w p s r).2.1 ≤ s.2.1 + 1 := by
  unfold ptS
  rcases ite_or (c := inP V w p r = true) (a := adS s (cor V w r)) (b := s) with e | e
  · rw [e]; exact Nat.le_refl _
  · rw [e]; omega
theorem ptF_num {V : wV} {w : Nat} {p : Int32} : ∀ {c k : Nat} {s : wT}, (foldF (ptS V w p) k c s).2.1 ≤ s.2.1 + c
  | 0, k, s => Nat.le_refl _
  | c + 1, k, s => by
    have h1 := ptF_num (V := V) (w := w) (p := p) (c := c) (k := k + 1) (s := ptS V w p s k)
    have h2 := ptS_num (V := V) (w := w) (p := p) (s := s) (r := k)
    rw [show foldF (ptS V w p) k (c + 1) s = foldF (ptS V w p) (k + 1) c (ptS V w p s k) from rfl]
    omega
def PSc (s : wT) (M : wM) : Prop := M.2 93 = s.1 ∧ M.1 93 1 = nI s.2.1 ∧ (0 < s.2.1 → M.1 93 2 = s.2.2.1 ∧ M.1 93 3 = s.2.2.2)
theorem add_c {s : wT} {h : Int32} {M : wM} (hP : PSc s M) (hn : s.2.1 < 1000) : ∃ M', fX1_add 93 h M = some M' ∧ Fr (fun i => i = 93) M M' ∧ PSc (adS s h) M' := by
  obtain ⟨h1, h2, h3⟩ := hP
  have fin : ∀ a b : Int32, a = (adS s h).2.2.1 → b = (adS s h).2.2.2 → ∃ M', some (st (stL (st (st M 93 2 a) 93 3 b) 93 (((st (st M 93 2 a) 93 3 b).2 93) + h.toInt64)) 93 1 (((stL (st (st M 93 2 a) 93 3 b) 93 (((st (st M 93 2 a) 93 3 b).2 93) + h.toInt64)).1 93 1) + (1 : Int32))) = some M' ∧ Fr (fun i => i = 93) M M' ∧ PSc (adS s h) M' := fun a b ha hb => by
    refine ⟨_, rfl, (((Fr.st (P := fun i => i = 93) rfl).tr (Fr.st rfl)).tr (Fr.stL rfl)).tr (Fr.st rfl), ?_, ?_, fun _ => ⟨?_, ?_⟩⟩
    · show (stL (st (st M 93 2 a) 93 3 b) 93 (M.2 93 + h.toInt64)).2 93 = _
      rw [stL_same, h1]; rfl
    · rw [st_same, stL_1, st_col (by omega), st_col (by omega), h2]; exact nIp1 _
    · rw [st_col (by omega), stL_1, st_col (by omega), st_same]; exact ha
    · rw [st_col (by omega), stL_1, st_same]; exact hb
  unfold fX1_add
  by_cases e : s.2.1 = 0
  · rw [if_pos (show M.1 93 1 = (0 : Int32) by rw [h2, e]; rfl)]
    unfold fX1_add_J20
    rw [st_col (by omega), if_pos (show M.1 93 1 = (0 : Int32) by rw [h2, e]; rfl)]
    unfold fX1_add_J43
    exact fin h h (by unfold adS; simp [e]) (by unfold adS; simp [e])
  · have e1 : ¬ M.1 93 1 = (0 : Int32) := by rw [h2]; exact nI_ne0 (by omega) (by omega)
    obtain ⟨g1, g2⟩ := h3 (by omega)
    rw [if_neg e1]
    unfold fX1_add_J20
    rw [st_col (by omega), if_neg e1, st_col (by omega), g1, g2]
    unfold fX1_add_J43
    exact fin _ _ (by unfold adS; simp [e]) (by unfold adS; simp [e])

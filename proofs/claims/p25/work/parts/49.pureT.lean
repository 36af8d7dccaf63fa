/-! how many -/
theorem cntF_R {p : Nat → Bool} : ∀ (c r : Nat), cntF p (r + c) = cntF p r + cntR p r c
  | 0, r => rfl
  | c + 1, r => by
    have h := cntF_R (p := p) c (r + 1)
    rw [show r + (c + 1) = r + 1 + c by omega, h]
    show cntF p r + (if p r then 1 else 0) + _ = _ + ((if p r then 1 else 0) + _)
    omega
theorem cntR_0 {p : Nat → Bool} (n : Nat) : cntR p 0 n = cntF p n := by
  have h := cntF_R (p := p) n 0
  rw [Nat.zero_add] at h
  rw [h]
  show _ = 0 + _
  omega
theorem cntR_no {c r : Nat} : cntR (fun _ => false) r c = 0 := by
  induction c generalizing r with
  | zero => rfl
  | succ c ih =>
    show (if false = true then 1 else 0) + cntR (fun _ => false) (r + 1) c = 0
    rw [ih, if_neg (by decide)]
def hasP (V : wV) (p : Nat) : Bool := decide (0 < (ptA V (nI p)).2.1)
section CN
variable {V : wV} {hs : List wV} {tl : Nat} {tx : Nat → Int32} {M : wM}
theorem cstep {p : Nat → Bool} {r c : Nat} : cntR p r (c + 1) = (if p r then 1 else 0) + cntR p (r + 1) c := rfl
theorem withHeight_L (hV : OkV V) : ∀ (c k s fu : Nat) (M : wM), k + c = 10 → c < fu → SVA V M → ∃ M', fX6_pointsWithHeight_L4 fu (nI s) (nI k) M = some (nI (s + cntR (hasP V) k c), M') ∧ Fr (fun i => i = 93) M M'
  | c, k, s, 0, M, _, h, _ => absurd h (by omega)
  | 0, k, s, fu + 1, M, hk, _, hS => by
    refine ⟨M, ?_, Fr.rf⟩
    show fX6_pointsWithHeight_B4 _ _ _ M = _
    unfold fX6_pointsWithHeight_B4
    rw [if_pos (show (10 : Int32) ≤ nI k from (nI_leI (a := 10) (by omega) (by omega)).mpr (by omega))]
    rfl
  | c + 1, k, s, fu + 1, M, hk, hfu, hS => by
    obtain ⟨N, a1, a2, a3⟩ := gather_c (p := nI k) hV hS
    have hS2 : SVA V N := hS.keep (fun i h1 h2 => (a2 i (by omega)).1)
    have hnum := ptA_num (p := nI k) hV
    show ∃ M', fX6_pointsWithHeight_B4 _ _ _ M = _ ∧ _
    unfold fX6_pointsWithHeight_B4
    rw [if_neg (show ¬ (10 : Int32) ≤ nI k from fun q => absurd ((nI_leI (a := 10) (by omega) (by omega)).mp q) (by omega)), a1, bs, a3.2.1, nIp1, nIp1, Int32.add_zero, cstep]
    by_cases e : (ptA V (nI k)).2.1 = 0
    · obtain ⟨M', b1, b2⟩ := withHeight_L hV c (k + 1) s fu N (by omega) (by omega) hS2
      rw [if_pos (show nI (ptA V (nI k)).2.1 ≤ 0 from by rw [e]; decide), b1, show hasP V k = false from decide_eq_false (by omega), if_neg (by decide), Nat.zero_add]
      exact ⟨M', rfl, a2.tr b2⟩
    · obtain ⟨M', b1, b2⟩ := withHeight_L hV c (k + 1) (s + 1) fu N (by omega) (by omega) hS2
      rw [if_neg (nI_nle (by omega) (by omega)), b1, show hasP V k = true from decide_eq_true (by omega), if_pos rfl]
      exact ⟨M', by rw [show s + 1 + cntR (hasP V) (k + 1) c = s + (1 + cntR (hasP V) (k + 1) c) by omega], a2.tr b2⟩
theorem steps_cL (hV : OkV V) (hR : RC V 1 M) : ∀ (c r s fu : Nat), c = V.2.1 0 - r → 0 < r → r ≤ 13 → s < r → c < fu → fX2_steps_L4 1 M fu (nI s) (nI r) = some (nI (s + cntR (stE V) r c))
  | c, r, s, 0, _, _, _, _, h => absurd h (by omega)
  | 0, r, s, fu + 1, hc, h0, h13, hsr, hfu => by
    have hn := hV.n (w := 0) (by omega)
    show fX2_steps_B4 1 M _ _ _ = _
    unfold fX2_steps_B4
    rw [show (1 : Nat) + 1 = tk 1 0 from rfl, (hR.2 0 (by omega)).1, if_pos ((nI_leI (by omega) (by omega)).mpr (by omega))]
    rfl
  | c + 1, r, s, fu + 1, hc, h0, h13, hsr, hfu => by
    have hn := (hV.2 0 (by omega)).1
    rw [show cap 0 = 12 from rfl] at hn
    show fX2_steps_B4 1 M _ _ _ = _
    unfold fX2_steps_B4
    rw [show (1 : Nat) + 1 = tk 1 0 from rfl, (hR.2 0 (by omega)).1, if_neg (by rw [nI_leI (by omega) (by omega)]; omega), stepEnd_c hV hR h0 (by omega), bs, nIp1, nIp1, Int32.add_zero, cstep]
    cases h : stE V r
    · rw [if_pos (show b2 false = 0 from rfl), steps_cL hV hR c (r + 1) s fu (by omega) (by omega) (by omega) (by omega) (by omega), if_neg (by decide), Nat.zero_add]
    · rw [if_neg (show ¬ b2 true = 0 from by decide), steps_cL hV hR c (r + 1) (s + 1) fu (by omega) (by omega) (by omega) (by omega) (by omega), if_pos rfl, Nat.add_assoc]
def qM (m : Nat) (V : wV) (w r : Nat) : Bool := if m = 0 then gu V w r else if m = 2 then go V w r else false
def aM (m : Nat) (V : wV) (w : Nat) : Nat := if m = 1 then (lpL V w).length else cntF (qM m V w) (V.2.1 w)
theorem trk_ix {x : Nat} {M : wM} (hx : x < 4) : fX2_track 1 (nI x - (1 : Int32)) M = some (tk 1 x) := by
  rcases (show x = 0 ∨ x = 1 ∨ x = 2 ∨ x = 3 by omega) with rfl | rfl | rfl | rfl <;> rfl
end CN

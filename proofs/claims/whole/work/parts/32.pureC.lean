/-! the readings of one track in the reference: w counts from 0, the base -/
def RD (w : Nat) (M : wM) (n : Nat) (d : Nat → Nat → Int32) : Prop := M.1 97 (3 + w) = nI n ∧ ∀ r f, r < n → f < 4 → M.1 97 (7 + 80 * w + 20 * f + r) = d f r
theorem ln97 : ln 97 = 327 := rfl
theorem oix (w a r : Nat) : (((7 : Int32) + ((80 : Int32) * nI w)) + nI a) + nI r = nI (7 + 80 * w + a + r) := by
  rw [show (7 : Int32) = nI 7 from rfl, show (80 : Int32) = nI 80 from rfl, pk_mul, nI_add, nI_add, nI_add]
theorem cix (w : Nat) : (3 : Int32) + nI w = nI (3 + w) := by rw [show (3 : Int32) = nI 3 from rfl, nI_add]
theorem of_raw {w f r : Nat} {M : wM} (hw : w < 4) (hf : f < 4) (hr : r < 20) : fX7_of (nI w) (nI (20 * f)) (nI r) M = some (M.1 97 (7 + 80 * w + 20 * f + r)) := by
  unfold fX7_of
  rw [oix, ix_in (by rw [ln97]; omega) (by rw [ln97]; omega)]
  rfl
theorem of_d {w f r n : Nat} {M : wM} {d : Nat → Nat → Int32} (hw : w < 4) (hR : RD w M n d) (hn : n ≤ 20) (hr : r < n) (hf : f < 4) : fX7_of (nI w) (nI (20 * f)) (nI r) M = some (d f r) := by
  rw [of_raw hw hf (by omega), hR.2 r f hr hf]
theorem of0 {w r n : Nat} {M : wM} {d : Nat → Nat → Int32} (hw : w < 4) (hR : RD w M n d) (hn : n ≤ 20) (hr : r < n) : fX7_of (nI w) (0 : Int32) (nI r) M = some (d 0 r) := of_d (f := 0) hw hR hn hr (by omega)
theorem of1 {w r n : Nat} {M : wM} {d : Nat → Nat → Int32} (hw : w < 4) (hR : RD w M n d) (hn : n ≤ 20) (hr : r < n) : fX7_of (nI w) (20 : Int32) (nI r) M = some (d 1 r) := of_d (f := 1) hw hR hn hr (by omega)
theorem of2 {w r n : Nat} {M : wM} {d : Nat → Nat → Int32} (hw : w < 4) (hR : RD w M n d) (hn : n ≤ 20) (hr : r < n) : fX7_of (nI w) (40 : Int32) (nI r) M = some (d 2 r) := of_d (f := 2) hw hR hn hr (by omega)
theorem of3 {w r n : Nat} {M : wM} {d : Nat → Nat → Int32} (hw : w < 4) (hR : RD w M n d) (hn : n ≤ 20) (hr : r < n) : fX7_of (nI w) (60 : Int32) (nI r) M = some (d 3 r) := of_d (f := 3) hw hR hn hr (by omega)
theorem cnt_ix {w : Nat} (hw : w < 4) : ix ((3 : Int32) + nI w) (ln 97) = some (3 + w) := by rw [cix, ix_in (by rw [ln97]; omega) (by rw [ln97]; omega)]
theorem isTaken_L {w n : Nat} {M : wM} {d : Nat → Nat → Int32} {x : Int32} (hw : w < 4) (hR : RD w M n d) (hn : n ≤ 20) : ∀ (c k fu : Nat) (b : Bool), k + c = n → c < fu → fX7_isTaken_L5 (nI w) x M fu (b2 b) (nI k) = some (b || anyF (fun r => decide (d 0 r = x)) k c)
  | 0, k, fu, b, hkc, hfu => by
    obtain ⟨fu, rfl⟩ : ∃ z, fu = z + 1 := ⟨fu - 1, by omega⟩
    show fX7_isTaken_B5 (nI w) x M _ (b2 b) (nI k) = _
    unfold fX7_isTaken_B5
    rw [cnt_ix hw, bs, hR.1, if_pos ((nI_leI (by omega) (by omega)).mpr (by omega)), anyF, Bool.or_false]
    cases b <;> rfl
  | c + 1, k, fu, b, hkc, hfu => by
    obtain ⟨fu, rfl⟩ : ∃ z, fu = z + 1 := ⟨fu - 1, by omega⟩
    show fX7_isTaken_B5 (nI w) x M _ (b2 b) (nI k) = _
    unfold fX7_isTaken_B5
    rw [cnt_ix hw, bs, hR.1, if_neg (by rw [nI_leI (by omega) (by omega)]; omega), anyF, nIp1]
    cases b with
    | true =>
      rw [if_neg (show ¬ b2 true = 0 from by decide), show (1 : Int32) = b2 true from rfl, isTaken_L hw hR hn c (k + 1) fu true (by omega) (by omega)]
      simp
    | false =>
      rw [if_pos (show b2 false = 0 from by decide), of0 hw hR hn (by omega), bs]
      by_cases h : d 0 k = x
      · rw [if_pos h, show (1 : Int32) = b2 true from rfl, isTaken_L hw hR hn c (k + 1) fu true (by omega) (by omega)]
        simp [h]
      · rw [if_neg h, show (0 : Int32) = b2 false from rfl, isTaken_L hw hR hn c (k + 1) fu false (by omega) (by omega)]
        simp [h]
theorem isTaken_d {w n : Nat} {M : wM} {d : Nat → Nat → Int32} {x : Int32} (hw : w < 4) (hR : RD w M n d) (hn : n ≤ 20) : fX7_isTaken (nI w) x M = some (anyF (fun r => decide (d 0 r = x)) 0 n) := by
  have h := isTaken_L (x := x) hw hR hn n 0 FU false (by omega) (by unfold FU; omega)
  rw [Bool.false_or] at h
  exact h
def cap (w : Nat) : Nat := if w = 0 then 12 else 20
theorem cap_le (w : Nat) : cap w ≤ 20 := by unfold cap; split <;> omega
theorem isFull_d {w n : Nat} {M : wM} {d : Nat → Nat → Int32} (hw : w < 4) (hR : RD w M n d) (hn : n ≤ cap w) : fX7_isFull (nI w) M = some (decide (cap w ≤ n)) := by
  unfold fX7_isFull fX7_isFull_J19
  rw [cnt_ix hw, bs, hR.1]
  have hc := cap_le w
  by_cases h0 : w = 0
  · subst h0
    rw [if_pos (show nI 0 = 0 from rfl)]
    have e : cap 0 = 12 := rfl
    rw [e] at hn ⊢
    rw [show (12 : Int32) = nI 12 from rfl]
    by_cases h : 12 ≤ n
    · rw [if_pos ((nI_eq (by omega) (by omega)).mpr (by omega)), decide_eq_true h]
    · rw [if_neg (by rw [nI_eq (by omega) (by omega)]; omega), decide_eq_false h]
  · rw [if_neg (nI_ne0 (by omega) (by omega))]
    have e : cap w = 20 := if_neg h0
    rw [e] at hn ⊢
    rw [show (20 : Int32) = nI 20 from rfl]
    by_cases h : 20 ≤ n
    · rw [if_pos ((nI_eq (by omega) (by omega)).mpr (by omega)), decide_eq_true h]
    · rw [if_neg (by rw [nI_eq (by omega) (by omega)]; omega), decide_eq_false h]
/-- what stays in the reference's numbers d: all but places of P -/
def FrD (P : Nat → Prop) (M M' : wM) : Prop := Fr (fun i => i = 97) M M' ∧ ∀ j, ¬ P j → M'.1 97 j = M.1 97 j
theorem FrD.rf {P : Nat → Prop} {M : wM} : FrD P M M := ⟨Fr.rf, fun _ _ => rfl⟩
theorem FrD.tr {P : Nat → Prop} {M M' M'' : wM} (h : FrD P M M') (h2 : FrD P M' M'') : FrD P M M'' := ⟨h.1.tr h2.1, fun j hj => (h2.2 j hj).trans (h.2 j hj)⟩
theorem FrD.mono {P Q : Nat → Prop} {M M' : wM} (h : FrD P M M') (hPQ : ∀ i, P i → Q i) : FrD Q M M' := ⟨h.1, fun j hj => h.2 j (fun q => hj (hPQ j q))⟩
theorem FrD.st {P : Nat → Prop} {M : wM} {k : Nat} {v : Int32} (h : P k) : FrD P M (st M 97 k v) := ⟨Fr.st (P := fun i => i = 97) rfl, fun j hj => st_col (fun q => hj (q ▸ h))⟩
/-- the places of one track -/
def inW (w j : Nat) : Prop := 7 + 80 * w ≤ j ∧ j < 7 + 80 * w + 80
theorem moves_L {w a b : Nat} (hw : w < 4) (ha : a < 20) (hb : b < 20) (hab : a ≠ b) : ∀ (c k fu : Nat) (N : wM), k + c = 4 → c < fu → ∃ M', fX7_moves_L3 (nI w) (nI a) (nI b) fu (nI (20 * k)) N = some M' ∧ FrD (inW w) N M' ∧ (∀ f r, f < 4 → r < 20 → (r ≠ b ∨ f < k) → M'.1 97 (7 + 80 * w + 20 * f + r) = N.1 97 (7 + 80 * w + 20 * f + r)) ∧ ∀ f, k ≤ f → f < 4 → M'.1 97 (7 + 80 * w + 20 * f + b) = N.1 97 (7 + 80 * w + 20 * f + a)
  | 0, k, fu, N, hkc, hfu => by
    obtain ⟨fu, rfl⟩ : ∃ z, fu = z + 1 := ⟨fu - 1, by omega⟩
    refine ⟨N, ?_, FrD.rf, fun _ _ _ _ _ => rfl, fun f h1 h2 => absurd h1 (by omega)⟩
    show fX7_moves_B3 (nI w) _ _ _ (nI (20 * k)) N = _
    unfold fX7_moves_B3
    rw [if_pos (show (80 : Int32) ≤ nI (20 * k) from (nI_leI (a := 80) (by omega) (by omega)).mpr (by omega))]
  | c + 1, k, fu, N, hkc, hfu => by
    obtain ⟨fu, rfl⟩ : ∃ z, fu = z + 1 := ⟨fu - 1, by omega⟩
    obtain ⟨M', h1, h2, h3, h4⟩ := moves_L hw ha hb hab c (k + 1) fu (st N 97 (7 + 80 * w + 20 * k + b) (N.1 97 (7 + 80 * w + 20 * k + a))) (by omega) (by omega)
    refine ⟨M', ?_, (FrD.st (by unfold inW; omega)).tr h2, fun f r hf hr hj => ?_, fun f hf1 hf2 => ?_⟩
    · show fX7_moves_B3 (nI w) _ _ _ (nI (20 * k)) N = _
      unfold fX7_moves_B3
      rw [if_neg (show ¬ (80 : Int32) ≤ nI (20 * k) from fun q => absurd ((nI_leI (a := 80) (by omega) (by omega)).mp q) (by omega)), of_raw hw (by omega) ha, bs, oix, ix_in (by rw [ln97]; omega) (by rw [ln97]; omega), bs, show (20 : Int32) = nI 20 from rfl, nI_add, show 20 * k + 20 = 20 * (k + 1) by omega]
      exact h1
    · rw [h3 f r hf hr (by omega), st_col (by omega)]
    · rcases Nat.eq_or_lt_of_le hf1 with rfl | hlt
      · rw [h3 _ b hf2 hb (by omega), st_same]
      · rw [h4 f (by omega) hf2, st_col (by omega)]
theorem moves_d {w a b : Nat} (hw : w < 4) (ha : a < 20) (hb : b < 20) (hab : a ≠ b) (N : wM) : ∃ M', fX7_moves (nI w) (nI a) (nI b) N = some M' ∧ FrD (inW w) N M' ∧ (∀ f r, f < 4 → r < 20 → r ≠ b → M'.1 97 (7 + 80 * w + 20 * f + r) = N.1 97 (7 + 80 * w + 20 * f + r)) ∧ ∀ f, f < 4 → M'.1 97 (7 + 80 * w + 20 * f + b) = N.1 97 (7 + 80 * w + 20 * f + a) := by
  obtain ⟨M', h1, h2, h3, h4⟩ := moves_L hw ha hb hab 4 0 FU N (by omega) (by unfold FU; omega)
  exact ⟨M', h1, h2, fun f r hf hr hj => h3 f r hf hr (Or.inl hj), fun f hf => h4 f (by omega) hf⟩
/-- the places of one track, and its count -/
def inC (w j : Nat) : Prop := inW w j ∨ j = 3 + w
theorem puts_J {w k n : Nat} {ti p c pt : Int32} {N : wM} (hw : w < 4) (hkn : k < 20) (h2 : N.1 97 (3 + w) = nI n) : ∃ M', fX7_puts_J46 (nI w) ti p c pt (nI k) N = some (nI k, M') ∧ FrD (inC w) N M' ∧ M'.1 97 (3 + w) = nI (n + 1) ∧ (∀ f r, f < 4 → r < 20 → r ≠ k → M'.1 97 (7 + 80 * w + 20 * f + r) = N.1 97 (7 + 80 * w + 20 * f + r)) ∧ ∀ f, f < 4 → M'.1 97 (7 + 80 * w + 20 * f + k) = rd4 ti p c pt f := by
  have ee : ∀ a : Nat, (((7 : Int32) + ((80 : Int32) * nI w)) + nI k) + nI a = nI (7 + 80 * w + a + k) := fun a => by
    rw [show (7 : Int32) = nI 7 from rfl, show (80 : Int32) = nI 80 from rfl, pk_mul, nI_add, nI_add, nI_add]
    congr 1; omega
  have e0 : (((7 : Int32) + ((80 : Int32) * nI w)) + nI k) + (0 : Int32) = nI (7 + 80 * w + 20 * 0 + k) := ee 0
  have e1 : (((7 : Int32) + ((80 : Int32) * nI w)) + nI k) + (20 : Int32) = nI (7 + 80 * w + 20 * 1 + k) := ee 20
  have e2 : (((7 : Int32) + ((80 : Int32) * nI w)) + nI k) + (40 : Int32) = nI (7 + 80 * w + 20 * 2 + k) := ee 40
  have e3 : (((7 : Int32) + ((80 : Int32) * nI w)) + nI k) + (60 : Int32) = nI (7 + 80 * w + 20 * 3 + k) := ee 60
  have hi : ∀ f, f < 4 → ix (nI (7 + 80 * w + 20 * f + k)) (ln 97) = some (7 + 80 * w + 20 * f + k) := fun f hf => ix_in (by rw [ln97]; omega) (by rw [ln97]; omega)
  unfold fX7_puts_J46
  rw [e0, e1, e2, e3, hi 0 (by omega), bs, hi 1 (by omega), bs, hi 2 (by omega), bs, hi 3 (by omega), bs, cnt_ix hw, bs, bs]
  have iw : ∀ f, f < 4 → inC w (7 + 80 * w + 20 * f + k) := fun f hf => Or.inl (by unfold inW; omega)
  refine ⟨_, rfl, ?_, ?_, ?_, ?_⟩
  · exact (((((FrD.st (iw 0 (by omega))).tr (FrD.st (iw 1 (by omega)))).tr (FrD.st (iw 2 (by omega)))).tr (FrD.st (iw 3 (by omega)))).tr (FrD.st (Or.inr rfl)))
  · rw [st_same, st_col (by omega), st_col (by omega), st_col (by omega), st_col (by omega), h2]
    exact nIp1 n
  · intro f r hf hr hj
    rw [st_col (by omega), st_col (by omega), st_col (by omega), st_col (by omega), st_col (by omega)]
  · intro f hf
    rw [st_col (by omega)]
    rcases (show f = 0 ∨ f = 1 ∨ f = 2 ∨ f = 3 by omega) with rfl | rfl | rfl | rfl
    · rw [st_col (by omega), st_col (by omega), st_col (by omega), st_same]; rfl
    · rw [st_col (by omega), st_col (by omega), st_same]; rfl
    · rw [st_col (by omega), st_same]; rfl
    · rw [st_same]; rfl
theorem puts_L {w n : Nat} {ti p c pt : Int32} {d : Nat → Nat → Int32} (hw : w < 4) (hn : n < 20) : ∀ (k fu : Nat) (N : wM), k ≤ n → k < fu → N.1 97 (3 + w) = nI n → (∀ r f, f < 4 → r < k → N.1 97 (7 + 80 * w + 20 * f + r) = d f r) → (∀ r f, f < 4 → k < r → r ≤ n → N.1 97 (7 + 80 * w + 20 * f + r) = d f (r - 1)) →
    ∃ M', fX7_puts_L10 (nI w) ti p c pt fu (nI k) N = some (nI (insK (d 0) ti k), M') ∧ FrD (inC w) N M' ∧ RD w M' (n + 1) (insD d (insK (d 0) ti k) (rd4 ti p c pt))
  | k, fu, N, hkn, hfu, h2, hlo, hhi => by
    obtain ⟨fu, rfl⟩ : ∃ z, fu = z + 1 := ⟨fu - 1, by omega⟩
    have fin : ∃ M', fX7_puts_J46 (nI w) ti p c pt (nI k) N = some (nI k, M') ∧ FrD (inC w) N M' ∧ RD w M' (n + 1) (insD d k (rd4 ti p c pt)) := by
      obtain ⟨M', a1, a2, a3, a5, a6⟩ := puts_J (ti := ti) (p := p) (c := c) (pt := pt) hw (show k < 20 by omega) h2
      refine ⟨M', a1, a2, a3, fun r f hr hf => ?_⟩
      unfold insD
      rcases Nat.lt_trichotomy r k with h | h | h
      · rw [a5 f r hf (by omega) (by omega), hlo r f hf h, if_pos h]
      · subst h
        rw [a6 f hf, if_neg (by omega), if_pos rfl]
      · rw [a5 f r hf (by omega) (by omega), hhi r f hf h (by omega), if_neg (by omega), if_neg (by omega)]
    show ∃ M', fX7_puts_B10 (nI w) ti p c pt _ (nI k) N = _ ∧ _
    unfold fX7_puts_B10
    cases k with
    | zero =>
      rw [if_pos (show nI 0 ≤ (0 : Int32) from by decide)]
      exact fin
    | succ k =>
      have ev : fX7_of (nI w) (0 : Int32) (nI k) N = some (d 0 k) := by
        rw [show (0 : Int32) = nI (20 * 0) from rfl, of_raw hw (by omega) (by omega), hlo k 0 (by omega) (by omega)]
      rw [if_neg (show ¬ nI (k + 1) ≤ (0 : Int32) from nI_nle (by omega) (by omega)), nIm1 (by omega), nId1 (by omega), Nat.add_sub_cancel, ev, bs]
      unfold insK
      by_cases hlt : ti < d 0 k
      · rw [if_neg (Int32.not_le.mpr hlt)]
        simp only [if_pos hlt]
        obtain ⟨N1, b1, b2, b3, b4⟩ := moves_d hw (show k < 20 by omega) (show k + 1 < 20 by omega) (by omega) N
        rw [b1, bs]
        obtain ⟨M', c1, c2, c3⟩ := puts_L (ti := ti) (p := p) (c := c) (pt := pt) (d := d) hw hn k fu N1 (by omega) (by omega) (by rw [b2.2 _ (by unfold inW; omega), h2]) (fun r f hf hr => by rw [b3 f r hf (by omega) (by omega), hlo r f hf (by omega)]) (fun r f hf hr1 hr2 => by
          rcases Nat.eq_or_lt_of_le (show k + 1 ≤ r from hr1) with rfl | h
          · rw [b4 f hf, hlo k f hf (by omega), Nat.add_sub_cancel]
          · rw [b3 f r hf (by omega) (by omega), hhi r f hf h hr2])
        exact ⟨M', c1, (b2.mono (fun i hi => Or.inl hi)).tr c2, c3⟩
      · rw [if_pos (Int32.not_lt.mp hlt)]
        simp only [if_neg hlt]
        exact fin
  termination_by k => k
theorem puts_d {w n : Nat} {ti p c pt : Int32} {d : Nat → Nat → Int32} {N : wM} (hw : w < 4) (hR : RD w N n d) (hn : n < 20) :
    ∃ M', fX7_puts (nI w) ti p c pt N = some (nI (insK (d 0) ti n), M') ∧ FrD (inC w) N M' ∧ RD w M' (n + 1) (insD d (insK (d 0) ti n) (rd4 ti p c pt)) := by
  obtain ⟨M', a1, a2, a3⟩ := puts_L (ti := ti) (p := p) (c := c) (pt := pt) (d := d) hw hn n FU N (Nat.le_refl _) (by unfold FU; omega) hR.1 (fun r f hf hr => hR.2 r f hr hf) (fun r f hf h1 h2 => absurd h1 (by omega))
  refine ⟨M', ?_, a2, a3⟩
  unfold fX7_puts
  rw [cnt_ix hw, bs, hR.1]
  exact a1
/-- drop's own loop: the count has gone down already -/
theorem drop_L {w n x : Nat} {x1 x2 : Int32} {d : Nat → Nat → Int32} (hw : w < 4) (hn : n < 20) : ∀ (c k fu : Nat) (N : wM), k + c = n → x ≤ k → c < fu → N.1 97 (3 + w) = nI n → (∀ r f, f < 4 → r < k → N.1 97 (7 + 80 * w + 20 * f + r) = remD d x f r) → (∀ r f, f < 4 → k < r → r ≤ n → N.1 97 (7 + 80 * w + 20 * f + r) = d f r) →
    ∃ M', fX7_drop_L35 x1 x2 fu (nI w) (nI k) N = some (nI n, M') ∧ FrD (inC w) N M' ∧ RD w M' n (remD d x)
  | 0, k, fu, N, hkc, hxk, hfu, h2, hlo, hhi => by
    obtain ⟨fu, rfl⟩ : ∃ z, fu = z + 1 := ⟨fu - 1, by omega⟩
    refine ⟨N, ?_, FrD.rf, h2, fun r f hr hf => hlo r f hf (by omega)⟩
    show fX7_drop_B35 x1 x2 _ (nI w) (nI k) N = _
    unfold fX7_drop_B35
    rw [cnt_ix hw, bs, h2, if_pos ((nI_leI (by omega) (by omega)).mpr (by omega)), bs, h2]
  | c + 1, k, fu, N, hkc, hxk, hfu, h2, hlo, hhi => by
    obtain ⟨fu, rfl⟩ : ∃ z, fu = z + 1 := ⟨fu - 1, by omega⟩
    obtain ⟨N1, b1, b2, b3, b4⟩ := moves_d hw (show k + 1 < 20 by omega) (show k < 20 by omega) (by omega) N
    obtain ⟨M', c1, c2, c3⟩ := drop_L (x1 := x1) (x2 := x2) (x := x) (d := d) hw hn c (k + 1) fu N1 (by omega) (by omega) (by omega) (by rw [b2.2 _ (by unfold inW; omega), h2]) (fun r f hf hr => by
        rcases Nat.eq_or_lt_of_le (show r ≤ k by omega) with h | h
        · subst h
          rw [b4 f hf, hhi (r + 1) f hf (by omega) (by omega)]
          unfold remD
          rw [if_neg (by omega)]
        · rw [b3 f r hf (by omega) (by omega), hlo r f hf (by omega)]) (fun r f hf h1 h2 => by rw [b3 f r hf (by omega) (by omega), hhi r f hf (by omega) h2])
    refine ⟨M', ?_, (b2.mono (fun i hi => Or.inl hi)).tr c2, c3⟩
    show fX7_drop_B35 x1 x2 _ (nI w) (nI k) N = _
    unfold fX7_drop_B35
    rw [cnt_ix hw, bs, h2, if_neg (by rw [nI_leI (by omega) (by omega)]; omega), nIp1, b1, bs]
    exact c1
theorem isGust_d {w n r : Nat} {g : Int32} {M : wM} {d : Nat → Nat → Int32} (hw : w < 4) (hR : RD w M n d) (hn : n ≤ 20) (hr : r < n) (hg : M.1 97 1 = g) : fX7_isGust (nI w) (nI r) M = some (gustF n d g r) := by
  unfold fX7_isGust gustF
  by_cases h0 : r = 0
  · subst h0
    rw [if_pos (show nI 0 = (0 : Int32) from rfl), if_pos (Or.inl rfl)]
  rw [if_neg (show ¬ nI r = (0 : Int32) from nI_ne0 (by omega) (by omega)), cnt_ix hw, bs, hR.1, nIp1]
  by_cases h1 : n ≤ r + 1
  · rw [if_neg (by rw [nI_ltI (by omega) (by omega)]; omega), if_pos (Or.inr h1)]
  have hi : ix (1 : Int32) (ln 97) = some 1 := ix_in (k := 1) (by rw [ln97]; omega) (by rw [ln97]; omega)
  rw [if_pos ((nI_ltI (by omega) (by omega)).mpr (by omega)), if_neg (by omega), nIm1 (by omega), of1 hw hR hn hr, of1 hw hR hn (by omega), of1 hw hR hn (by omega)]
  simp only [bs, hi, hg]
  generalize d 1 r - d 1 (r - 1) = u
  generalize d 1 r - d 1 (r + 1) = v
  have hle : ∀ a b : Int32, (a ≤ b) = ¬ (b < a) := fun a b => propext Int32.not_lt.symm
  unfold fX7_isGust_J79
  simp only [hi, bs, hg, hle]
  by_cases a1 : g < u <;> by_cases a2 : g < v <;> by_cases a3 : u < -g <;> by_cases a4 : v < -g <;> simp [a1, a2, a3, a4]

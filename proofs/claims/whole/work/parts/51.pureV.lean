/-! texts: what is read -/
def isD (x : Int32) : Bool := inR x 48 57
def dV (x : Int32) : Nat := (x - 48).toNatClampNeg
theorem isD_c {x : Int32} (h1 : (32 : Int32) ≤ x) (h2 : x ≤ 126) : inR (x - 48) 0 9 = isD x := by
  have a := le_lit h1 (show (32 : Int32).toInt = 32 from by decide)
  have b := lit_le h2 (show (126 : Int32).toInt = 126 from by decide)
  have k : (48 : Int32).toInt = 48 := by decide
  have e : (x - 48).toInt = x.toInt - 48 := by rw [fb_subI (by rw [k]; omega) (by rw [k]; omega), k]
  unfold isD inR
  have c1 : ((0 : Int32) ≤ x - 48) ↔ ((48 : Int32) ≤ x) := by
    rw [Int32.le_iff_toInt_le, Int32.le_iff_toInt_le, e, k, show (0 : Int32).toInt = 0 from by decide]; omega
  have c2 : (x - 48 ≤ (9 : Int32)) ↔ (x ≤ (57 : Int32)) := by
    rw [Int32.le_iff_toInt_le, Int32.le_iff_toInt_le, e, show (9 : Int32).toInt = 9 from by decide, show (57 : Int32).toInt = 57 from by decide]; omega
  rw [decide_eq_decide.mpr c1, decide_eq_decide.mpr c2]
theorem dig {x : Int32} (h : isD x = true) : dV x ≤ 9 ∧ x - 48 = nI (dV x) ∧ x = nI (48 + dV x) := by
  obtain ⟨a, b⟩ := inR_iff.mp h
  have a' := le_lit a (show (48 : Int32).toInt = 48 from by decide)
  have b' := lit_le b (show (57 : Int32).toInt = 57 from by decide)
  have k : (48 : Int32).toInt = 48 := by decide
  have e : (x - 48).toInt = x.toInt - 48 := by rw [fb_subI (by rw [k]; omega) (by rw [k]; omega), k]
  obtain ⟨d, hd, hx⟩ := nI_of2 (x := x - 48) (M := 9) (n := 9) (by decide) (by
    rw [Int32.lt_iff_toInt_lt, e, show (0 : Int32).toInt = 0 from by decide]; omega) (by
    rw [Int32.le_iff_toInt_le, e, show (9 : Int32).toInt = 9 from by decide]; omega)
  have ev : dV x = d := by unfold dV; rw [hx, nI_clamp (by omega)]
  refine ⟨by omega, by rw [ev, hx], ?_⟩
  apply Int32.toInt_inj.mp
  have q := congrArg Int32.toInt hx
  rw [nI_toInt (by omega), e] at q
  rw [ev, nI_toInt (by omega)]
  omega
section TXS
variable (tl : Nat) (tx : Nat → Int32)
def numL : Nat → Nat → Nat → Nat × Nat
  | 0, q, v => (q, v)
  | c + 1, q, v => if (decide (q < tl) && isD (tx q)) = true then numL c (q + 1) (v * 10 + dV (tx q)) else (q, v)
def pNum (k q : Nat) : Option (Nat × Nat) := if (numL tl tx k q 0).1 ≤ q then none else some (numL tl tx k q 0)
def isS (ch : Int32) (q : Nat) : Bool := decide (q < tl) && decide (tx q = ch)
def pSk (ch : Int32) (q : Nat) : Option Nat := if isS tl tx ch q = true then some (q + 1) else none
def pPlace (q : Nat) : Option (Nat × Nat × Nat) := if isS tl tx 98 q = true then some (q + 1, 0, 0) else (pSk tl tx 99 q).bind (fun q1 => (pNum tl tx 1 q1).bind (fun r => (pSk tl tx 64 r.1).bind (fun q2 => (pNum tl tx 1 q2).bind (fun s => some (s.1, r.2 + 1, s.2)))))
def ngq (q : Nat) : Nat := if isS tl tx 45 q = true then q + 1 else q
def ngv (q v : Nat) : Int32 := if isS tl tx 45 q = true then -(nI v) else nI v
def pRest (q : Nat) : Option (Nat × Nat × Nat × Int32) := (pSk tl tx 116 q).bind (fun q1 => (pNum tl tx 5 q1).bind (fun t => (pSk tl tx 112 t.1).bind (fun q2 => (pNum tl tx 6 q2).bind (fun p => (pSk tl tx 99 p.1).bind (fun q3 => (pNum tl tx 3 (ngq tl tx q3)).bind (fun c => (pSk tl tx 59 c.1).bind (fun q4 => some (q4, t.2, p.2, ngv tl tx q3 c.2))))))))
/-- a reading: where it ends, whose it is, its point, time, pressure, temperature -/
abbrev wE : Type := Nat × Nat × Nat × Nat × Nat × Int32
def pForm (q : Nat) : Option wE := (pPlace tl tx q).bind (fun a => (pRest tl tx a.1).bind (fun b => some (b.1, a.2.1, a.2.2, b.2.1, b.2.2.1, b.2.2.2)))
end TXS
def oN (o : Option (Nat × Nat)) : Int32 := match o with
  | none => -1
  | some x => nI x.2
section TXT
variable {tl : Nat} {tx : Nat → Int32}
theorem numL_pos : ∀ (c q v : Nat), q ≤ (numL tl tx c q v).1 ∧ (q ≤ tl → (numL tl tx c q v).1 ≤ tl) ∧ (numL tl tx c q v).2 < (v + 1) * 10 ^ c
  | 0, q, v => ⟨Nat.le_refl _, fun h => h, by show v < (v + 1) * 1; omega⟩
  | c + 1, q, v => by
    unfold numL
    by_cases h : (decide (q < tl) && isD (tx q)) = true
    · rw [if_pos h]
      obtain ⟨a, b, d⟩ := numL_pos c (q + 1) (v * 10 + dV (tx q))
      simp only [Bool.and_eq_true, decide_eq_true_eq] at h
      refine ⟨by omega, fun _ => b (by omega), Nat.lt_of_lt_of_le d ?_⟩
      have e := (dig h.2).1
      have m := Nat.mul_le_mul_right (10 ^ c) (show v * 10 + dV (tx q) + 1 ≤ (v + 1) * 10 by omega)
      rw [Nat.pow_succ, Nat.mul_comm (10 ^ c) 10, ← Nat.mul_assoc]
      exact m
    · rw [if_neg h]
      refine ⟨Nat.le_refl _, fun h => h, ?_⟩
      have p : 0 < 10 ^ (c + 1) := Nat.pow_pos (by omega)
      have := Nat.mul_le_mul_left (v + 1) p
      omega
theorem pNum_b {k q : Nat} {x : Nat × Nat} (hk : k ≤ 6) (hq : q ≤ tl) (h : pNum tl tx k q = some x) : q < x.1 ∧ x.1 ≤ tl ∧ x.2 < 1000000 := by
  unfold pNum at h
  split at h
  · cases h
  · next hn =>
    cases h
    obtain ⟨a, b, d⟩ := numL_pos (tl := tl) (tx := tx) k q 0
    have p := Nat.pow_le_pow_right (show 0 < 10 by omega) hk
    refine ⟨by omega, b hq, ?_⟩
    rw [show (10 : Nat) ^ 6 = 1000000 from rfl] at p
    omega
theorem pSk_b {ch : Int32} {q q' : Nat} (h : pSk tl tx ch q = some q') : q' = q + 1 ∧ q < tl := by
  unfold pSk at h
  split at h
  · next hs =>
    cases h
    unfold isS at hs
    simp only [Bool.and_eq_true, decide_eq_true_eq] at hs
    exact ⟨rfl, hs.1⟩
  · cases h
def FrT (P : Nat → Prop) (M M' : wM) : Prop := Fr (fun i => i = 94) M M' ∧ ∀ j, ¬ P j → M'.1 94 j = M.1 94 j
theorem FrT.rf {P : Nat → Prop} {M : wM} : FrT P M M := ⟨Fr.rf, fun _ _ => rfl⟩
theorem FrT.tr {P : Nat → Prop} {M M' M'' : wM} (h : FrT P M M') (h2 : FrT P M' M'') : FrT P M M'' := ⟨h.1.tr h2.1, fun j hj => (h2.2 j hj).trans (h.2 j hj)⟩
theorem FrT.st {P : Nat → Prop} {M : wM} {k : Nat} {v : Int32} (h : P k) : FrT P M (st M 94 k v) := ⟨Fr.st (P := fun i => i = 94) rfl, fun j hj => st_col (fun q => hj (q ▸ h))⟩
theorem FrT.mono {P Q : Nat → Prop} {M M' : wM} (h : FrT P M M') (hPQ : ∀ j, P j → Q j) : FrT Q M M' := ⟨h.1, fun j hj => h.2 j (fun q => hj (hPQ j q))⟩
/-- the class's text, and where it stands -/
def CT (tl : Nat) (tx : Nat → Int32) (M : wM) (q : Nat) : Prop := TXo tl tx ∧ q ≤ tl ∧ M.1 94 1 = nI tl ∧ (∀ k, k < tl → M.1 95 k = tx k) ∧ M.1 94 2 = nI q
def p2 (j : Nat) : Prop := j = 2
theorem CT.go {M M' : wM} {P : Nat → Prop} {q q' : Nat} (h : CT tl tx M q) (f : FrT P M M') (hP : ¬ P 1) (hq : q' ≤ tl) (e : M'.1 94 2 = nI q') : CT tl tx M' q' :=
  ⟨h.1, hq, by rw [f.2 1 hP]; exact h.2.2.1, fun k hk => by rw [(f.1 95 (by omega)).1]; exact h.2.2.2.1 k hk, e⟩
theorem CT.st {M : wM} {q k : Nat} {v : Int32} (h : CT tl tx M q) (hk : 3 ≤ k) : CT tl tx (st M 94 k v) q := h.go (P := fun j => j = k) (FrT.st rfl) (by omega) h.2.1 (by rw [st_col (by omega)]; exact h.2.2.2.2)
theorem ln95 : ln 95 = 100 := rfl
theorem CT.at {M : wM} {q : Nat} (h : CT tl tx M q) (hq : q < tl) : fX6_at (94 + 1) (nI q) M = some (tx q) := by
  have := h.1.1
  show fX6_at 95 (nI q) M = _
  rw [at_in (by rw [ln95]; omega), h.2.2.2.1 q hq]
theorem CT.end {M : wM} {q : Nat} (h : CT tl tx M q) : M.1 94 1 ≤ M.1 94 2 ↔ tl ≤ q := by
  have := h.1.1
  have := h.2.1
  rw [h.2.2.1, h.2.2.2.2, nI_leI (by omega) (by omega)]
theorem skip_c {M : wM} {q : Nat} {ch : Int32} (h : CT tl tx M q) : ∃ M', fX4_skip 94 ch M = some (isS tl tx ch q, M') ∧ FrT p2 M M' ∧ CT tl tx M' (if isS tl tx ch q = true then q + 1 else q) := by
  unfold fX4_skip isS
  by_cases e : tl ≤ q
  · rw [if_pos (h.end.mpr e), decide_eq_false (by omega), Bool.false_and]
    exact ⟨M, rfl, FrT.rf, by rw [if_neg (by decide)]; exact h⟩
  · rw [if_neg (fun z => e (h.end.mp z)), h.2.2.2.2, h.at (by omega), bs, decide_eq_true (show q < tl by omega), Bool.true_and]
    by_cases c : tx q = ch
    · rw [if_pos c, decide_eq_true c, nIp1]
      exact ⟨_, rfl, FrT.st rfl, by rw [if_pos rfl]; exact h.go (P := p2) (FrT.st rfl) (by unfold p2; omega) (by omega) st_same⟩
    · rw [if_neg c, decide_eq_false c]
      exact ⟨M, rfl, FrT.rf, by rw [if_neg (by decide)]; exact h⟩
theorem tn_L {k : Nat} (hk : k ≤ 6) : ∀ (c j q v fu : Nat) (M : wM), j + c = k → 0 < j → c < fu → CT tl tx M q → ∃ M', fX4_takeNumber_L4 94 (nI k) fu (nI v) (nI j) M = some (nI (numL tl tx c q v).2, M') ∧ FrT p2 M M' ∧ CT tl tx M' (numL tl tx c q v).1
  | c, j, q, v, 0, M, _, _, h, _ => absurd h (by omega)
  | 0, j, q, v, fu + 1, M, hj, h0, hfu, h => by
    refine ⟨M, ?_, FrT.rf, h⟩
    show fX4_takeNumber_B4 94 _ _ _ _ M = _
    unfold fX4_takeNumber_B4
    rw [if_pos ((nI_leI (by omega) (by omega)).mpr (by omega))]
    rfl
  | c + 1, j, q, v, fu + 1, M, hj, h0, hfu, h => by
    show ∃ M', fX4_takeNumber_B4 94 _ _ _ _ M = _ ∧ _
    unfold fX4_takeNumber_B4 numL
    rw [if_neg (by rw [nI_leI (by omega) (by omega)]; omega)]
    by_cases e : tl ≤ q
    · rw [if_pos (h.end.mpr e), decide_eq_false (by omega), Bool.false_and, if_neg (by decide)]
      exact ⟨M, rfl, FrT.rf, h⟩
    · obtain ⟨b1, b2'⟩ := h.1.2 q (by omega)
      rw [if_neg (fun z => e (h.end.mp z)), h.2.2.2.2, h.at (by omega), bs, within_c, bs, isD_c b1 b2', decide_eq_true (show q < tl by omega), Bool.true_and]
      cases hd : isD (tx q)
      · rw [if_pos (show b2 false = 0 from rfl), if_neg (by decide)]
        exact ⟨M, rfl, FrT.rf, h⟩
      · obtain ⟨d1, d2, d3⟩ := dig hd
        have h1 : CT tl tx (st M 94 2 (nI q + 1)) (q + 1) := h.go (P := p2) (FrT.st rfl) (by unfold p2; omega) (by omega) (by rw [st_same, nIp1])
        obtain ⟨M', a1, a2, a3⟩ := tn_L hk c (j + 1) (q + 1) (v * 10 + dV (tx q)) fu _ (by omega) (by omega) (by omega) h1
        refine ⟨M', ?_, (FrT.st (P := p2) rfl).tr a2, by rw [if_pos rfl]; exact a3⟩
        rw [if_neg (show ¬ b2 true = 0 from by decide), if_neg (nI_ne0 h0 (by omega)), if_pos rfl]
        unfold fX4_takeNumber_J65
        rw [h.2.2.2.2, d2, show (10 : Int32) = nI 10 from rfl, pk_mul, nI_add, nIp1 j]
        exact a1
theorem takeNumber_c {M : wM} {q k : Nat} (hk : k ≤ 6) (h0 : 0 < k) (h : CT tl tx M q) : ∃ M', fX4_takeNumber 94 (nI k) M = some (oN (pNum tl tx k q), M') ∧ FrT p2 M M' ∧ CT tl tx M' (numL tl tx k q 0).1 := by
  obtain ⟨k, rfl⟩ : ∃ z, k = z + 1 := ⟨k - 1, by omega⟩
  unfold fX4_takeNumber
  show ∃ M', fX4_takeNumber_B4 94 _ _ _ _ M = _ ∧ _
  unfold fX4_takeNumber_B4 pNum numL
  rw [if_neg (show ¬ nI (k + 1) ≤ (0 : Int32) from nI_nle (by omega) (by omega))]
  by_cases e : tl ≤ q
  · rw [if_pos (h.end.mpr e), decide_eq_false (by omega), Bool.false_and, if_neg (show ¬ false = true from by decide), if_pos (Nat.le_refl _)]
    exact ⟨M, rfl, FrT.rf, h⟩
  · obtain ⟨b1, b2'⟩ := h.1.2 q (by omega)
    rw [if_neg (fun z => e (h.end.mp z)), h.2.2.2.2, h.at (by omega), bs, within_c, bs, isD_c b1 b2', decide_eq_true (show q < tl by omega), Bool.true_and]
    cases hd : isD (tx q)
    · rw [if_pos (show b2 false = 0 from rfl), if_neg (show ¬ false = true from by decide), if_pos (Nat.le_refl _)]
      exact ⟨M, rfl, FrT.rf, h⟩
    · obtain ⟨d1, d2, d3⟩ := dig hd
      have h1 : CT tl tx (st M 94 2 (nI q + 1)) (q + 1) := h.go (P := p2) (FrT.st rfl) (by unfold p2; omega) (by omega) (by rw [st_same, nIp1])
      obtain ⟨M', a1, a2, a3⟩ := tn_L hk k 1 (q + 1) (0 * 10 + dV (tx q)) 99999 _ (by omega) (by omega) (by omega) h1
      have np := (numL_pos (tl := tl) (tx := tx) k (q + 1) (0 * 10 + dV (tx q))).1
      rw [if_pos rfl]
      refine ⟨M', ?_, (FrT.st (P := p2) rfl).tr a2, a3⟩
      rw [if_neg (show ¬ b2 true = 0 from by decide), if_pos rfl, if_neg (by omega)]
      unfold fX4_takeNumber_J65
      rw [h.2.2.2.2, d2, show (0 : Int32) + 1 = nI 1 from rfl]
      rw [Nat.zero_mul, Nat.zero_add] at a1 ⊢
      exact a1
end TXT

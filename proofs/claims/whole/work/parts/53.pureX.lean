/-! texts: a reading, the reference -/
theorem ln100 : ln 100 = 100 := rfl
theorem ln101 : ln 101 = 4 := rfl
section TXM
variable {tl : Nat} {tx : Nat → Int32} {M : wM} {q : Nat}
def MT (tl : Nat) (tx : Nat → Int32) (M : wM) (q : Nat) : Prop := TXo tl tx ∧ q ≤ tl ∧ M.1 96 5 = nI tl ∧ (∀ k, k < tl → M.1 100 k = tx k) ∧ M.1 96 6 = nI q
def p6 (j : Nat) : Prop := j = 6
def FrV (M M' : wM) : Prop := Fr (fun i => i = 96 ∨ i = 101) M M' ∧ (∀ j, j ≠ 6 → M'.1 96 j = M.1 96 j) ∧ M'.1 101 3 = M.1 101 3
theorem FrV.rf {M : wM} : FrV M M := ⟨Fr.rf, fun _ _ => rfl, rfl⟩
theorem FrV.tr {M M' M'' : wM} (h : FrV M M') (h2 : FrV M' M'') : FrV M M'' := ⟨h.1.tr h2.1, fun j hj => (h2.2.1 j hj).trans (h.2.1 j hj), h2.2.2.trans h.2.2⟩
theorem Fr96.V {M M' : wM} (h : Fr96 p6 M M') : FrV M M' := ⟨h.1.mono (fun i q => Or.inl q), fun j hj => h.2.1 j hj, by rw [(h.1 101 (by omega)).1]⟩
theorem FrV.w {M : wM} {k : Nat} {v : Int32} (h : k ≠ 3) : FrV M (st M 101 k v) := ⟨Fr.st (P := fun i => i = 96 ∨ i = 101) (Or.inr rfl), fun j hj => by rw [st_row (by omega)], st_col (fun q => h q.symm)⟩
theorem MT.go {M M' : wM} {q q' : Nat} (h : MT tl tx M q) (f : FrV M M') (hq : q' ≤ tl) (e : M'.1 96 6 = nI q') : MT tl tx M' q' :=
  ⟨h.1, hq, by rw [f.2.1 5 (by omega)]; exact h.2.2.1, fun k hk => by rw [(f.1 100 (by omega)).1]; exact h.2.2.2.1 k hk, e⟩
theorem MT.w {M : wM} {q k : Nat} {v : Int32} (h : MT tl tx M q) : MT tl tx (st M 101 k v) q :=
  ⟨h.1, h.2.1, by rw [st_row (by omega)]; exact h.2.2.1, fun j hj => by rw [st_row (by omega)]; exact h.2.2.2.1 j hj, by rw [st_row (by omega)]; exact h.2.2.2.2⟩
theorem MT.w8 {M : wM} {q : Nat} {v : Int32} (h : MT tl tx M q) : MT tl tx (st M 96 8 v) q :=
  ⟨h.1, h.2.1, by rw [st_col (by omega)]; exact h.2.2.1, fun j hj => by rw [st_row (by omega)]; exact h.2.2.2.1 j hj, by rw [st_col (by omega)]; exact h.2.2.2.2⟩
theorem MT.end {M : wM} {q : Nat} (h : MT tl tx M q) : M.1 96 5 ≤ M.1 96 6 ↔ tl ≤ q := by
  have := h.1.1
  have := h.2.1
  rw [h.2.2.1, h.2.2.2.2, nI_leI (by omega) (by omega)]
theorem MT.ix {M : wM} {q : Nat} (h : MT tl tx M q) (hq : q < tl) : ix (M.1 96 6) (ln 100) = some q := by
  have := h.1.1
  rw [h.2.2.2.2, ix_in (by rw [ln100]; omega) (by rw [ln100]; omega)]
theorem passes_m {ch : Int32} (h : MT tl tx M q) : ∃ M', fX7_passes ch M = some (isS tl tx ch q, M') ∧ Fr96 p6 M M' ∧ MT tl tx M' (if isS tl tx ch q = true then q + 1 else q) := by
  have no : isS tl tx ch q = false → ∃ M', fX7_passes_J29 ch (0 : Int32) M = some (isS tl tx ch q, M') ∧ Fr96 p6 M M' ∧ MT tl tx M' (if isS tl tx ch q = true then q + 1 else q) := fun hf => by
    have f : Fr96 p6 M (st M 96 6 (M.1 96 6 + 0)) := Fr96.st (P := p6) rfl
    rw [hf, if_neg (by decide)]
    exact ⟨_, rfl, f, h.go f.V h.2.1 (by rw [st_same, Int32.add_zero, h.2.2.2.2])⟩
  have yes : q < tl → isS tl tx ch q = true → ∃ M', fX7_passes_J29 ch (1 : Int32) M = some (isS tl tx ch q, M') ∧ Fr96 p6 M M' ∧ MT tl tx M' (if isS tl tx ch q = true then q + 1 else q) := fun hq hf => by
    have f : Fr96 p6 M (st M 96 6 (M.1 96 6 + 1)) := Fr96.st (P := p6) rfl
    rw [hf, if_pos rfl]
    exact ⟨_, rfl, f, h.go f.V (by omega) (by rw [st_same, h.2.2.2.2, nIp1])⟩
  unfold fX7_passes
  by_cases e : tl ≤ q
  · rw [if_pos (h.end.mpr e)]
    exact no (by unfold isS; rw [decide_eq_false (by omega), Bool.false_and])
  · rw [if_neg (fun z => e (h.end.mp z)), h.ix (by omega), bs, h.2.2.2.1 q (by omega)]
    by_cases c : tx q = ch
    · rw [if_pos c]
      exact yes (by omega) (by unfold isS; rw [decide_eq_true c, decide_eq_true (show q < tl by omega)]; rfl)
    · rw [if_neg c]
      exact no (by unfold isS; rw [decide_eq_false c, Bool.and_false])
theorem dig_m {v : Nat} {x : Int32} (h : isD x = true) : (((10 : Int32) * nI v) + x) - 48 = nI (v * 10 + dV x) := by
  obtain ⟨-, d2, -⟩ := dig h
  rw [show (10 : Int32) = nI 10 from rfl, pk_mul, Int32.sub_eq_add_neg, Int32.add_assoc, ← Int32.sub_eq_add_neg, d2, nI_add, Nat.mul_comm]
theorem numb_J {s q v : Nat} {x : Int32} (hs : s ≤ 1000) (h : MT tl tx M q) : fX7_number_J78 x (nI s) (nI v) M = some ((if q ≤ s then -1 else nI v), M) := by
  have := h.1.1
  have := h.2.1
  unfold fX7_number_J78
  rw [h.2.2.2.2]
  by_cases e : q ≤ s
  · rw [if_pos ((nI_leI (by omega) (by omega)).mpr e), if_pos e]
  · rw [if_neg (by rw [nI_leI (by omega) (by omega)]; exact e), if_neg e]
theorem numb_L {k s : Nat} (hk : k ≤ 6) (hs : s ≤ 1000) : ∀ (c q v fu : Nat) (M : wM), q + c = s + k → c < fu → MT tl tx M q → ∃ M', fX7_number_L7 (nI k) fu (nI s) (nI v) M = some ((if (numL tl tx c q v).1 ≤ s then -1 else nI (numL tl tx c q v).2), M') ∧ Fr96 p6 M M' ∧ MT tl tx M' (numL tl tx c q v).1
  | c, q, v, 0, M, _, h, _ => absurd h (by omega)
  | 0, q, v, fu + 1, M, hq, hfu, h => by
    have := h.1.1
    have := h.2.1
    refine ⟨M, ?_, Fr96.rf, h⟩
    show fX7_number_B7 _ _ _ _ M = _
    unfold fX7_number_B7
    rw [nI_add, h.2.2.2.2, if_pos (show nI (s + k) ≤ nI q from (nI_leI (by omega) (by omega)).mpr (by omega)), ite_self, numb_J hs h]
    rfl
  | c + 1, q, v, fu + 1, M, hq, hfu, h => by
    have := h.1.1
    have := h.2.1
    show ∃ M', fX7_number_B7 _ _ _ _ M = _ ∧ _
    unfold fX7_number_B7 numL
    by_cases e : tl ≤ q
    · rw [if_pos (h.end.mpr e), decide_eq_false (by omega), Bool.false_and, if_neg (show ¬ false = true from by decide), numb_J hs h]
      exact ⟨M, rfl, Fr96.rf, h⟩
    · rw [if_neg (fun z => e (h.end.mp z)), nI_add, if_neg (by rw [h.2.2.2.2, nI_leI (by omega) (by omega)]; omega), h.ix (by omega), bs, h.2.2.2.1 q (by omega), in_m, bs, bs, decide_eq_true (show q < tl by omega), Bool.true_and]
      rw [show inR (tx q) 48 57 = isD (tx q) from rfl]
      cases hd : isD (tx q)
      · rw [if_pos (show b2 false = 0 from rfl), if_neg (show ¬ false = true from by decide), numb_J hs h]
        exact ⟨M, rfl, Fr96.rf, h⟩
      · have f : Fr96 p6 M (st M 96 6 (M.1 96 6 + 1)) := Fr96.st (P := p6) rfl
        have h1 : MT tl tx (st M 96 6 (M.1 96 6 + 1)) (q + 1) := h.go f.V (by omega) (by rw [st_same, h.2.2.2.2, nIp1])
        obtain ⟨M', a1, a2, a3⟩ := numb_L hk hs c (q + 1) (v * 10 + dV (tx q)) fu _ (by omega) (by omega) h1
        rw [if_neg (show ¬ b2 true = 0 from by decide), if_pos (show true = true from rfl), h.2.2.2.1 q (by omega), dig_m hd]
        exact ⟨M', a1, f.tr a2, a3⟩
theorem number_m {k : Nat} (hk : k ≤ 6) (h : MT tl tx M q) : ∃ M', fX7_number (nI k) M = some (oN (pNum tl tx k q), M') ∧ Fr96 p6 M M' ∧ MT tl tx M' (numL tl tx k q 0).1 := by
  have := h.1.1
  have := h.2.1
  obtain ⟨M', a1, a2, a3⟩ := numb_L hk (s := q) (by omega) k q 0 FU M rfl (by unfold FU; omega) h
  refine ⟨M', ?_, a2, a3⟩
  unfold fX7_number pNum
  rw [h.2.2.2.2, show (0 : Int32) = nI 0 from rfl, a1]
  by_cases e : (numL tl tx k q 0).1 ≤ q
  · rw [if_pos e, if_pos e]; rfl
  · rw [if_neg e, if_neg e]; rfl
theorem x0 : ix (0 : Int32) (ln 101) = some 0 := ix_in (k := 0) (by rw [ln101]; omega) (by rw [ln101]; omega)
theorem x1 : ix (1 : Int32) (ln 101) = some 1 := ix_in (k := 1) (by rw [ln101]; omega) (by rw [ln101]; omega)
theorem x2 : ix (2 : Int32) (ln 101) = some 2 := ix_in (k := 2) (by rw [ln101]; omega) (by rw [ln101]; omega)
theorem x3 : ix (3 : Int32) (ln 101) = some 3 := ix_in (k := 3) (by rw [ln101]; omega) (by rw [ln101]; omega)
theorem J142f : fX7_readsForm_J142 (1 : Int32) (-1 : Int32) M = some (false, st M 101 1 (-1)) := by
  unfold fX7_readsForm_J142
  rw [x1, bs, bs, st_same, if_pos (by decide)]
theorem J108f : fX7_readsForm_J108 (0 : Int32) (-1 : Int32) M = some (false, st (st M 101 0 (-1)) 101 1 (-1)) := by
  unfold fX7_readsForm_J108
  rw [x0, bs, bs, st_same, if_pos (by decide), J142f]
theorem nI_n0 {n : Nat} (h : n < 2 ^ 31) : ¬ nI n < (0 : Int32) := nI_pos h
theorem rest_m (h : MT tl tx M q) : ∃ M', fX7_readsForm_J85 M = some ((pRest tl tx q).isSome, M') ∧ FrV M M' ∧ ∀ b, pRest tl tx q = some b → MT tl tx M' b.1 ∧ M'.1 101 0 = nI b.2.1 ∧ M'.1 101 1 = nI b.2.2.1 ∧ M'.1 101 2 = b.2.2.2 := by
  unfold fX7_readsForm_J85 pRest
  obtain ⟨M2, b1, b2', b3⟩ := passes_m (ch := 116) h
  rw [b1, bs]
  dsimp only
  cases s2 : isS tl tx 116 q
  · rw [if_pos (show b2 false = 0 from rfl), skN s2, J108f]
    exact ⟨_, rfl, (b2'.V.tr (FrV.w (by omega))).tr (FrV.w (by omega)), fun x hx => by cases hx⟩
  rw [s2, if_pos rfl] at b3
  obtain ⟨M3, c1, c2, c3⟩ := number_m (k := 5) (by omega) b3
  rw [if_neg (show ¬ b2 true = 0 from by decide), skS s2, bs, show (5 : Int32) = nI 5 from rfl, c1, bs]
  dsimp only
  have f3 := b2'.V.tr c2.V
  cases s3 : pNum tl tx 5 (q + 1) with
  | none =>
    rw [show oN none = -1 from rfl, J108f]
    exact ⟨_, rfl, (f3.tr (FrV.w (by omega))).tr (FrV.w (by omega)), fun x hx => by cases hx⟩
  | some t =>
  obtain ⟨t1, t2, t3⟩ := pNum_b (by omega) b3.2.1 s3
  rw [nuS s3] at c3
  have f4 := f3.tr (FrV.w (k := 0) (v := oN (some t)) (by omega))
  unfold fX7_readsForm_J108
  rw [x0, bs, bs, st_same, if_neg (show ¬ oN (some t) < 0 from nI_n0 (n := t.2) (by omega)), bs]
  obtain ⟨M4, d1, d2, d3⟩ := passes_m (ch := 112) (c3.w (k := 0) (v := oN (some t)))
  have f5 := f4.tr d2.V
  rw [d1, bs]
  dsimp only
  cases s4 : isS tl tx 112 t.1
  · rw [if_pos (show b2 false = 0 from rfl), skN s4, J142f]
    exact ⟨_, rfl, f5.tr (FrV.w (by omega)), fun x hx => by cases hx⟩
  rw [s4, if_pos rfl] at d3
  obtain ⟨M5, e1, e2, e3⟩ := number_m (k := 6) (by omega) d3
  have f6 := f5.tr e2.V
  rw [if_neg (show ¬ b2 true = 0 from by decide), skS s4, bs, show (6 : Int32) = nI 6 from rfl, e1, bs]
  dsimp only
  cases s5 : pNum tl tx 6 (t.1 + 1) with
  | none =>
    rw [show oN none = -1 from rfl, J142f]
    exact ⟨_, rfl, f6.tr (FrV.w (by omega)), fun x hx => by cases hx⟩
  | some p =>
  obtain ⟨u1, u2, u3⟩ := pNum_b (by omega) d3.2.1 s5
  rw [nuS s5] at e3
  have f7 := f6.tr (FrV.w (k := 1) (v := oN (some p)) (by omega))
  unfold fX7_readsForm_J142
  rw [x1, bs, bs, st_same, if_neg (show ¬ oN (some p) < 0 from nI_n0 (n := p.2) (by omega)), bs]
  obtain ⟨M6, g1, g2, g3⟩ := passes_m (ch := 99) (e3.w (k := 1) (v := oN (some p)))
  have f8 := f7.tr g2.V
  rw [g1, bs]
  dsimp only
  cases s6 : isS tl tx 99 p.1
  · rw [if_pos (show b2 false = 0 from rfl), skN s6]
    exact ⟨M6, rfl, f8, fun x hx => by cases hx⟩
  rw [s6, if_pos rfl] at g3
  rw [if_neg (show ¬ b2 true = 0 from by decide), skS s6, bs]
  obtain ⟨M7, i1, i2, i3⟩ := passes_m (ch := 45) g3
  have f9 := f8.tr i2.V
  rw [i1, bs]
  rw [show (if isS tl tx 45 (p.1 + 1) = true then p.1 + 1 + 1 else p.1 + 1) = ngq tl tx (p.1 + 1) from rfl] at i3
  obtain ⟨M8, j1, j2, j3⟩ := number_m (k := 3) (by omega) i3
  have f10 := f9.tr j2.V
  rw [show (3 : Int32) = nI 3 from rfl, j1, bs]
  dsimp only
  have J : ∀ z : Int32, (∀ c, pNum tl tx 3 (ngq tl tx (p.1 + 1)) = some c → z = ngv tl tx (p.1 + 1) c.2) → ∃ M', fX7_readsForm_J191 (oN (pNum tl tx 3 (ngq tl tx (p.1 + 1)))) (2 : Int32) z M8 = some (((pNum tl tx 3 (ngq tl tx (p.1 + 1))).bind (fun c => (pSk tl tx 59 c.1).bind (fun q4 => some (q4, t.2, p.2, ngv tl tx (p.1 + 1) c.2)))).isSome, M') ∧ FrV M M' ∧ ∀ b, ((pNum tl tx 3 (ngq tl tx (p.1 + 1))).bind (fun c => (pSk tl tx 59 c.1).bind (fun q4 => some (q4, t.2, p.2, ngv tl tx (p.1 + 1) c.2)))) = some b → MT tl tx M' b.1 ∧ M'.1 101 0 = nI b.2.1 ∧ M'.1 101 1 = nI b.2.2.1 ∧ M'.1 101 2 = b.2.2.2 := fun z hz => by
    have f11 := f10.tr (FrV.w (k := 2) (v := z) (by omega))
    unfold fX7_readsForm_J191
    rw [x2, bs]
    cases s7 : pNum tl tx 3 (ngq tl tx (p.1 + 1)) with
    | none =>
      rw [if_pos (show oN none < 0 from by decide)]
      exact ⟨_, rfl, f11, fun x hx => by cases hx⟩
    | some c =>
      have hz' := hz c s7
      obtain ⟨v1, v2, v3⟩ := pNum_b (by omega) i3.2.1 s7
      rw [nuS s7] at j3
      rw [if_neg (show ¬ oN (some c) < 0 from nI_n0 (n := c.2) (by omega)), bs]
      obtain ⟨M9, k1, k2, k3⟩ := passes_m (ch := 59) (j3.w (k := 2) (v := z))
      rw [k1, bs]
      dsimp only
      cases s8 : isS tl tx 59 c.1
      · rw [if_pos (show b2 false = 0 from rfl), skN s8]
        exact ⟨M9, rfl, f11.tr k2.V, fun x hx => by cases hx⟩
      rw [s8, if_pos rfl] at k3
      rw [if_neg (show ¬ b2 true = 0 from by decide), skS s8]
      refine ⟨M9, rfl, f11.tr k2.V, fun x hx => ?_⟩
      cases hx
      have r : ∀ {A B : wM}, Fr96 p6 A B → B.1 101 = A.1 101 := fun z => (z.1 101 (by omega)).1
      refine ⟨k3, ?_, ?_, ?_⟩
      · rw [r k2, st_col (by omega), r j2, r i2, r g2, st_col (by omega), r e2, r d2, st_same]; rfl
      · rw [r k2, st_col (by omega), r j2, r i2, r g2, st_same]; rfl
      · rw [r k2, st_same]; exact hz'
  cases s9 : isS tl tx 45 (p.1 + 1)
  · rw [if_pos (show b2 false = 0 from rfl)]
    exact J _ (fun c hc => by rw [hc]; unfold ngv; rw [s9]; rfl)
  · rw [if_neg (show ¬ b2 true = 0 from by decide)]
    exact J _ (fun c hc => by rw [hc]; unfold ngv; rw [s9]; rfl)
end TXM

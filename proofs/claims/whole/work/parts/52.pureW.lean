/-! texts: a reading, the class -/
theorem ne1 {n : Nat} (h : n < 2 ^ 31) : ¬ nI n = -1 := oI_ne (j := n) (by omega)
section TXC
variable {tl : Nat} {tx : Nat → Int32} {M : wM} {q : Nat}
def p24 (j : Nat) : Prop := 2 ≤ j ∧ j ≤ 4
def p27 (j : Nat) : Prop := 2 ≤ j ∧ j ≤ 7
theorem p2_24 : ∀ j, p2 j → p24 j := fun j h => by unfold p2 at h; unfold p24; omega
theorem p2_27 : ∀ j, p2 j → p27 j := fun j h => by unfold p2 at h; unfold p27; omega
theorem p24_27 : ∀ j, p24 j → p27 j := fun j h => by unfold p24 at h; unfold p27; omega
theorem skN {ch : Int32} (h : isS tl tx ch q = false) : pSk tl tx ch q = none := by unfold pSk; rw [h]; rfl
theorem skS {ch : Int32} (h : isS tl tx ch q = true) : pSk tl tx ch q = some (q + 1) := by unfold pSk; rw [h]; rfl
theorem nuS {k : Nat} {x : Nat × Nat} (h : pNum tl tx k q = some x) : numL tl tx k q 0 = x := by
  unfold pNum at h
  split at h
  · cases h
  · cases h; rfl
theorem takePlace_c (h : CT tl tx M q) : ∃ M', fX4_takePlace 94 M = some ((pPlace tl tx q).isSome, M') ∧ FrT p24 M M' ∧ ∀ x, pPlace tl tx q = some x → CT tl tx M' x.1 ∧ q < x.1 ∧ M'.1 94 3 = nI x.2.1 - 1 ∧ M'.1 94 4 = nI x.2.2 ∧ x.2.1 < 2000000 ∧ x.2.2 < 2000000 := by
  have f0 : FrT p24 M (st (st M 94 3 (-1)) 94 4 0) := (FrT.st (by unfold p24; omega)).tr (FrT.st (by unfold p24; omega))
  obtain ⟨M1, a1, a2, a3⟩ := skip_c (ch := 98) ((h.st (v := -1) (k := 3) (by omega)).st (v := 0) (k := 4) (by omega))
  have f1 := f0.tr (a2.mono p2_24)
  unfold fX4_takePlace pPlace
  rw [a1, bs]
  dsimp only
  cases s : isS tl tx 98 q
  · rw [s, if_neg (by decide)] at a3
    rw [if_pos (show b2 false = 0 from rfl), if_neg (show ¬ false = true from by decide)]
    obtain ⟨M2, b1, b2', b3⟩ := skip_c (ch := 99) a3
    have f2 := f1.tr (b2'.mono p2_24)
    rw [b1, bs]
    dsimp only
    cases s2 : isS tl tx 99 q
    · rw [if_pos (show b2 false = 0 from rfl), skN s2]
      exact ⟨M2, rfl, f2, fun x hx => by cases hx⟩
    · rw [s2, if_pos rfl] at b3
      obtain ⟨M3, c1, c2, c3⟩ := takeNumber_c (k := 1) (by omega) (by omega) b3
      rw [if_neg (show ¬ b2 true = 0 from by decide), skS s2, bs, show (1 : Int32) = nI 1 from rfl, c1, bs]
      dsimp only
      rw [st_same]
      have f3 := (f2.tr (c2.mono p2_24)).tr (FrT.st (k := 3) (v := oN (pNum tl tx 1 (q + 1))) (show p24 3 by unfold p24; omega))
      cases s3 : pNum tl tx 1 (q + 1) with
      | none =>
        rw [s3] at f3
        rw [if_pos (show oN none = -nI 1 from rfl)]
        exact ⟨_, rfl, f3, fun x hx => by cases hx⟩
      | some r =>
        obtain ⟨r1, r2, r3⟩ := pNum_b (by omega) b3.2.1 s3
        rw [s3] at f3
        rw [nuS s3] at c3
        rw [if_neg (show ¬ oN (some r) = -nI 1 from ne1 (n := r.2) (by omega)), bs]
        have h3 := c3.st (k := 3) (v := oN (some r)) (by omega)
        obtain ⟨M4, d1, d2, d3⟩ := skip_c (ch := 64) h3
        have f4 := f3.tr (d2.mono p2_24)
        rw [d1, bs]
        dsimp only
        cases s4 : isS tl tx 64 r.1
        · rw [if_pos (show b2 false = 0 from rfl), skN s4]
          exact ⟨M4, rfl, f4, fun x hx => by cases hx⟩
        · rw [s4, if_pos rfl] at d3
          obtain ⟨M5, e1, e2, e3⟩ := takeNumber_c (k := 1) (by omega) (by omega) d3
          rw [if_neg (show ¬ b2 true = 0 from by decide), skS s4, bs, e1, bs]
          dsimp only
          rw [st_same]
          have f5 := (f4.tr (e2.mono p2_24)).tr (FrT.st (k := 4) (v := oN (pNum tl tx 1 (r.1 + 1))) (show p24 4 by unfold p24; omega))
          cases s5 : pNum tl tx 1 (r.1 + 1) with
          | none =>
            rw [s5] at f5
            rw [if_pos (show oN none = -nI 1 from rfl)]
            exact ⟨_, rfl, f5, fun x hx => by cases hx⟩
          | some w =>
            obtain ⟨w1, w2, w3⟩ := pNum_b (by omega) d3.2.1 s5
            rw [s5] at f5
            rw [nuS s5] at e3
            rw [if_neg (show ¬ oN (some w) = -nI 1 from ne1 (n := w.2) (by omega)), bs]
            refine ⟨_, rfl, f5, fun x hx => ?_⟩
            cases hx
            refine ⟨e3.st (by omega), by dsimp only; omega, ?_, ?_, by dsimp only; omega, by dsimp only; omega⟩
            · rw [st_col (by omega), e2.2 3 (by unfold p2; omega), d2.2 3 (by unfold p2; omega), st_same]
              exact (nIm1 (k := r.2 + 1) (by omega)).symm
            · rw [st_same]
              rfl
  · rw [s, if_pos rfl] at a3
    rw [if_neg (show ¬ b2 true = 0 from by decide), if_pos rfl]
    refine ⟨M1, rfl, f1, fun x hx => ?_⟩
    cases hx
    refine ⟨a3, by dsimp only; omega, ?_, ?_, by dsimp only; omega, by dsimp only; omega⟩
    · rw [a2.2 3 (by unfold p2; omega), st_col (by omega), st_same]; rfl
    · rw [a2.2 4 (by unfold p2; omega), st_same]; rfl
theorem takeReading_c (h : CT tl tx M q) : ∃ M', fX4_takeReading 94 M = some ((pForm tl tx q).isSome, M') ∧ FrT p27 M M' ∧ ∀ e : wE, pForm tl tx q = some e → CT tl tx M' e.1 ∧ q < e.1 ∧ M'.1 94 3 = nI e.2.1 - 1 ∧ M'.1 94 4 = nI e.2.2.1 ∧ M'.1 94 5 = nI e.2.2.2.1 ∧ M'.1 94 6 = nI e.2.2.2.2.1 ∧ M'.1 94 7 = e.2.2.2.2.2 ∧ e.2.1 < 2000000 ∧ e.2.2.1 < 2000000 := by
  obtain ⟨M1, a1, a2, a3⟩ := takePlace_c h
  have f1 := a2.mono p24_27
  unfold fX4_takeReading pForm
  rw [a1, bs]
  dsimp only
  cases s1 : pPlace tl tx q with
  | none =>
    rw [if_pos (show b2 (Option.isSome (none : Option (Nat × Nat × Nat))) = 0 from rfl)]
    exact ⟨M1, rfl, f1, fun x hx => by cases hx⟩
  | some a =>
    obtain ⟨A1, A2, A3, A4, A5, A6⟩ := a3 a s1
    rw [if_neg (show ¬ b2 (Option.isSome (some a)) = 0 from (by decide : ¬ b2 true = 0)), bs]
    unfold pRest
    obtain ⟨M2, b1, b2', b3⟩ := skip_c (ch := 116) A1
    have f2 := f1.tr (b2'.mono p2_27)
    rw [b1, bs]
    dsimp only
    cases s2 : isS tl tx 116 a.1
    · rw [if_pos (show b2 false = 0 from rfl), skN s2]
      exact ⟨M2, rfl, f2, fun x hx => by cases hx⟩
    rw [s2, if_pos rfl] at b3
    obtain ⟨M3, c1, c2, c3⟩ := takeNumber_c (k := 5) (by omega) (by omega) b3
    rw [if_neg (show ¬ b2 true = 0 from by decide), skS s2, bs, show (5 : Int32) = nI 5 from rfl, c1, bs]
    dsimp only
    rw [st_same]
    have f3 := (f2.tr (c2.mono p2_27)).tr (FrT.st (k := 5) (v := oN (pNum tl tx 5 (a.1 + 1))) (show p27 5 by unfold p27; omega))
    cases s3 : pNum tl tx 5 (a.1 + 1) with
    | none =>
      rw [s3] at f3
      rw [if_pos (show oN none = -1 from rfl)]
      exact ⟨_, rfl, f3, fun x hx => by cases hx⟩
    | some t =>
    obtain ⟨t1, t2, t3⟩ := pNum_b (by omega) b3.2.1 s3
    rw [s3] at f3
    rw [nuS s3] at c3
    rw [if_neg (show ¬ oN (some t) = -1 from ne1 (n := t.2) (by omega)), bs]
    obtain ⟨M4, d1, d2, d3⟩ := skip_c (ch := 112) (c3.st (k := 5) (v := oN (some t)) (by omega))
    have f4 := f3.tr (d2.mono p2_27)
    rw [d1, bs]
    dsimp only
    cases s4 : isS tl tx 112 t.1
    · rw [if_pos (show b2 false = 0 from rfl), skN s4]
      exact ⟨M4, rfl, f4, fun x hx => by cases hx⟩
    rw [s4, if_pos rfl] at d3
    obtain ⟨M5, e1, e2, e3⟩ := takeNumber_c (k := 6) (by omega) (by omega) d3
    rw [if_neg (show ¬ b2 true = 0 from by decide), skS s4, bs, show (6 : Int32) = nI 6 from rfl, e1, bs]
    dsimp only
    rw [st_same]
    have f5 := (f4.tr (e2.mono p2_27)).tr (FrT.st (k := 6) (v := oN (pNum tl tx 6 (t.1 + 1))) (show p27 6 by unfold p27; omega))
    cases s5 : pNum tl tx 6 (t.1 + 1) with
    | none =>
      rw [s5] at f5
      rw [if_pos (show oN none = -1 from rfl)]
      exact ⟨_, rfl, f5, fun x hx => by cases hx⟩
    | some p =>
    obtain ⟨u1, u2, u3⟩ := pNum_b (by omega) d3.2.1 s5
    rw [s5] at f5
    rw [nuS s5] at e3
    rw [if_neg (show ¬ oN (some p) = -1 from ne1 (n := p.2) (by omega)), bs]
    obtain ⟨M6, g1, g2, g3⟩ := skip_c (ch := 99) (e3.st (k := 6) (v := oN (some p)) (by omega))
    have f6 := f5.tr (g2.mono p2_27)
    rw [g1, bs]
    dsimp only
    cases s6 : isS tl tx 99 p.1
    · rw [if_pos (show b2 false = 0 from rfl), skN s6]
      exact ⟨M6, rfl, f6, fun x hx => by cases hx⟩
    rw [s6, if_pos rfl] at g3
    rw [if_neg (show ¬ b2 true = 0 from by decide), skS s6, bs]
    obtain ⟨M7, i1, i2, i3⟩ := skip_c (ch := 45) g3
    have f7 := f6.tr (i2.mono p2_27)
    rw [i1, bs]
    rw [show (if isS tl tx 45 (p.1 + 1) = true then p.1 + 1 + 1 else p.1 + 1) = ngq tl tx (p.1 + 1) from rfl] at i3
    obtain ⟨M8, j1, j2, j3⟩ := takeNumber_c (k := 3) (by omega) (by omega) i3
    have f8 := f7.tr (j2.mono p2_27)
    rw [show (3 : Int32) = nI 3 from rfl, j1, bs]
    dsimp only
    have J : ∀ z : Int32, (∀ c, pNum tl tx 3 (ngq tl tx (p.1 + 1)) = some c → z = ngv tl tx (p.1 + 1) c.2) → ∃ M', fX4_takeReading_J99 94 (oN (pNum tl tx 3 (ngq tl tx (p.1 + 1)))) z M8 = some ((((pNum tl tx 3 (ngq tl tx (p.1 + 1))).bind (fun c => (pSk tl tx 59 c.1).bind (fun q4 => some (q4, t.2, p.2, ngv tl tx (p.1 + 1) c.2)))).bind (fun b => some ((b.1, a.2.1, a.2.2, b.2.1, b.2.2.1, b.2.2.2) : wE))).isSome, M') ∧ FrT p27 M M' ∧ ∀ e : wE, (((pNum tl tx 3 (ngq tl tx (p.1 + 1))).bind (fun c => (pSk tl tx 59 c.1).bind (fun q4 => some (q4, t.2, p.2, ngv tl tx (p.1 + 1) c.2)))).bind (fun b => some ((b.1, a.2.1, a.2.2, b.2.1, b.2.2.1, b.2.2.2) : wE))) = some e → CT tl tx M' e.1 ∧ q < e.1 ∧ M'.1 94 3 = nI e.2.1 - 1 ∧ M'.1 94 4 = nI e.2.2.1 ∧ M'.1 94 5 = nI e.2.2.2.1 ∧ M'.1 94 6 = nI e.2.2.2.2.1 ∧ M'.1 94 7 = e.2.2.2.2.2 ∧ e.2.1 < 2000000 ∧ e.2.2.1 < 2000000 := fun z hz => by
      have f9 := f8.tr (FrT.st (k := 7) (v := z) (show p27 7 by unfold p27; omega))
      unfold fX4_takeReading_J99
      cases s7 : pNum tl tx 3 (ngq tl tx (p.1 + 1)) with
      | none =>
        rw [if_pos (show oN none = -1 from rfl)]
        exact ⟨_, rfl, f9, fun x hx => by cases hx⟩
      | some c =>
        have hz' := hz c s7
        obtain ⟨v1, v2, v3⟩ := pNum_b (by omega) i3.2.1 s7
        rw [nuS s7] at j3
        have ngle : p.1 + 1 ≤ ngq tl tx (p.1 + 1) := by unfold ngq; split <;> omega
        rw [if_neg (show ¬ oN (some c) = -1 from ne1 (n := c.2) (by omega)), bs]
        obtain ⟨M9, k1, k2, k3⟩ := skip_c (ch := 59) (j3.st (k := 7) (v := z) (by omega))
        have f10 := f9.tr (k2.mono p2_27)
        rw [k1, bs]
        dsimp only
        cases s8 : isS tl tx 59 c.1
        · rw [if_pos (show b2 false = 0 from rfl), skN s8]
          exact ⟨M9, rfl, f10, fun x hx => by cases hx⟩
        rw [s8, if_pos rfl] at k3
        rw [if_neg (show ¬ b2 true = 0 from by decide), skS s8]
        refine ⟨M9, rfl, f10, fun x hx => ?_⟩
        cases hx
        have n : ∀ j, 3 ≤ j → ¬ p2 j := fun j hj => by unfold p2; omega
        refine ⟨k3, by dsimp only; omega, ?_, ?_, ?_, ?_, ?_, A5, A6⟩
        · rw [k2.2 3 (n 3 (by omega)), st_col (by omega), j2.2 3 (n 3 (by omega)), i2.2 3 (n 3 (by omega)), g2.2 3 (n 3 (by omega)), st_col (by omega), e2.2 3 (n 3 (by omega)), d2.2 3 (n 3 (by omega)), st_col (by omega), c2.2 3 (n 3 (by omega)), b2'.2 3 (n 3 (by omega)), A3]
        · rw [k2.2 4 (n 4 (by omega)), st_col (by omega), j2.2 4 (n 4 (by omega)), i2.2 4 (n 4 (by omega)), g2.2 4 (n 4 (by omega)), st_col (by omega), e2.2 4 (n 4 (by omega)), d2.2 4 (n 4 (by omega)), st_col (by omega), c2.2 4 (n 4 (by omega)), b2'.2 4 (n 4 (by omega)), A4]
        · rw [k2.2 5 (n 5 (by omega)), st_col (by omega), j2.2 5 (n 5 (by omega)), i2.2 5 (n 5 (by omega)), g2.2 5 (n 5 (by omega)), st_col (by omega), e2.2 5 (n 5 (by omega)), d2.2 5 (n 5 (by omega)), st_same]
          rfl
        · rw [k2.2 6 (n 6 (by omega)), st_col (by omega), j2.2 6 (n 6 (by omega)), i2.2 6 (n 6 (by omega)), g2.2 6 (n 6 (by omega)), st_same]
          rfl
        · rw [k2.2 7 (n 7 (by omega)), st_same]
          exact hz'
    cases s9 : isS tl tx 45 (p.1 + 1)
    · rw [if_pos (show b2 false = 0 from rfl)]
      exact J _ (fun c hc => by rw [hc]; unfold ngv; rw [s9]; rfl)
    · rw [if_neg (show ¬ b2 true = 0 from by decide)]
      exact J _ (fun c hc => by rw [hc]; unfold ngv; rw [s9]; rfl)
end TXC

/-! texts: what is against a reading; one reading -/
section TY
variable {tl : Nat} {tx : Nat → Int32} {M : wM} {q : Nat}
theorem pNum_v {k q : Nat} {x : Nat × Nat} (h : pNum tl tx k q = some x) : x.2 < 10 ^ k := by
  unfold pNum at h
  split at h
  · cases h
  · cases h
    have d := (numL_pos (tl := tl) (tx := tx) k q 0).2.2
    rw [Nat.zero_add, Nat.one_mul] at d
    exact d
theorem pPlace_b {x : Nat × Nat × Nat} (hq : q ≤ tl) (h : pPlace tl tx q = some x) : q < x.1 ∧ x.1 ≤ tl ∧ x.2.1 ≤ 10 ∧ x.2.2 ≤ 9 := by
  unfold pPlace at h
  split at h
  · next hs =>
    unfold isS at hs
    simp only [Bool.and_eq_true, decide_eq_true_eq] at hs
    cases h
    dsimp only
    omega
  · simp only [Option.bind_eq_some_iff] at h
    obtain ⟨q1, h1, r, h2, q2, h3, s, h4, h5⟩ := h
    obtain ⟨a1, a2⟩ := pSk_b h1
    obtain ⟨b1, b2, -⟩ := pNum_b (by omega) (by omega) h2
    obtain ⟨c1, c2⟩ := pSk_b h3
    obtain ⟨d1, d2, -⟩ := pNum_b (by omega) (by omega) h4
    have v1 := pNum_v h2
    have v2 := pNum_v h4
    cases h5
    dsimp only
    omega
theorem pForm_b {e : wE} (hq : q ≤ tl) (h : pForm tl tx q = some e) : q < e.1 ∧ e.1 ≤ tl ∧ e.2.1 ≤ 10 ∧ e.2.2.1 ≤ 9 := by
  unfold pForm at h
  simp only [Option.bind_eq_some_iff] at h
  obtain ⟨a, h1, b, h2, h3⟩ := h
  obtain ⟨a1, a2, a3, a4⟩ := pPlace_b hq h1
  unfold pRest at h2
  simp only [Option.bind_eq_some_iff] at h2
  obtain ⟨q1, g1, t, g2, q2, g3, p, g4, q3, g5, c, g6, q4, g7, g8⟩ := h2
  obtain ⟨b1, b2⟩ := pSk_b g1
  obtain ⟨c1, c2, -⟩ := pNum_b (by omega) (by omega) g2
  obtain ⟨d1, d2⟩ := pSk_b g3
  obtain ⟨e1, e2, -⟩ := pNum_b (by omega) (by omega) g4
  obtain ⟨f1, f2⟩ := pSk_b g5
  have n1 : q3 ≤ ngq tl tx q3 ∧ ngq tl tx q3 ≤ tl := by
    unfold ngq
    by_cases hs : isS tl tx 45 q3 = true
    · rw [if_pos hs]
      unfold isS at hs
      simp only [Bool.and_eq_true, decide_eq_true_eq] at hs
      omega
    · rw [if_neg hs]; omega
  obtain ⟨i1, i2, -⟩ := pNum_b (by omega) n1.2 g6
  obtain ⟨j1, j2⟩ := pSk_b g7
  cases g8
  cases h3
  dsimp only
  omega
def rsn (V : wV) (e : wE) : Nat := if 3 < e.2.1 then 2 else if okR (nI e.2.2.2.1) (nI e.2.2.2.2.1) e.2.2.2.2.2 = false then 2 else if hasT V e.2.1 (nI e.2.2.2.1) = true then 3 else if cap e.2.1 ≤ V.2.1 e.2.1 then 4 else 0
def stp (V : wV) (e : wE) : wV := insV V e.2.1 (nI e.2.2.2.1) (nI e.2.2.2.2.1) e.2.2.2.2.2 (nI e.2.2.1)
theorem rsn_b {V : wV} {e : wE} : rsn V e ≤ 4 := by unfold rsn; repeat' split <;> first | omega | skip
theorem rsn_0 {V : wV} {e : wE} (h : rsn V e = 0) : e.2.1 < 4 ∧ okR (nI e.2.2.2.1) (nI e.2.2.2.2.1) e.2.2.2.2.2 = true ∧ hasT V e.2.1 (nI e.2.2.2.1) = false ∧ V.2.1 e.2.1 < cap e.2.1 := by
  unfold rsn at h
  by_cases h1 : 3 < e.2.1
  · rw [if_pos h1] at h; omega
  rw [if_neg h1] at h
  by_cases h2 : okR (nI e.2.2.2.1) (nI e.2.2.2.2.1) e.2.2.2.2.2 = false
  · rw [if_pos h2] at h; omega
  rw [if_neg h2] at h
  by_cases h3 : hasT V e.2.1 (nI e.2.2.2.1) = true
  · rw [if_pos h3] at h; omega
  rw [if_neg h3] at h
  by_cases h4 : cap e.2.1 ≤ V.2.1 e.2.1
  · rw [if_pos h4] at h; omega
  exact ⟨by omega, by rwa [Bool.not_eq_false] at h2, by rwa [Bool.not_eq_true] at h3, by omega⟩
theorem stp_ok {V : wV} {e : wE} (hV : OkV V) (hp : e.2.2.1 ≤ 9) (h : rsn V e = 0) : OkV (stp V e) := by
  obtain ⟨a, b, c, d⟩ := rsn_0 h
  exact insV_ok hV a d b ⟨nI_pos' (by omega), (nI_leI (b := 9) (by omega) (by omega)).mpr hp⟩ c
/-! the reference -/
def FrW (M M' : wM) : Prop := Fr (fun i => i = 96 ∨ i = 101) M M' ∧ ∀ j, j ≠ 6 → j ≠ 8 → M'.1 96 j = M.1 96 j
theorem FrW.tr {M M' M'' : wM} (h : FrW M M') (h2 : FrW M' M'') : FrW M M'' := ⟨h.1.tr h2.1, fun j h6 h8 => (h2.2 j h6 h8).trans (h.2 j h6 h8)⟩
theorem FrV.W {M M' : wM} (h : FrV M M') : FrW M M' := ⟨h.1, fun j h6 _ => h.2.1 j h6⟩
theorem FrW.w {M : wM} {k : Nat} {v : Int32} : FrW M (st M 101 k v) := ⟨Fr.st (P := fun i => i = 96 ∨ i = 101) (Or.inr rfl), fun j h6 h8 => by rw [st_row (by omega)]⟩
theorem FrW.w8 {M : wM} {v : Int32} : FrW M (st M 96 8 v) := ⟨Fr.st (P := fun i => i = 96 ∨ i = 101) (Or.inl rfl), fun j h6 h8 => by rw [st_col h8]⟩
theorem J62f : fX7_readsForm_J62 (3 : Int32) (-1 : Int32) M = some (false, st M 101 3 (-1)) := by
  unfold fX7_readsForm_J62
  rw [x3, bs, bs, st_same, if_neg (by decide)]
theorem isS_no {a b : Int32} (h : isS tl tx a q = true) (hab : a ≠ b) : isS tl tx b q = false := by
  unfold isS at h ⊢
  simp only [Bool.and_eq_true, decide_eq_true_eq] at h
  rw [h.2, decide_eq_false hab, Bool.and_false]
theorem readsForm_m (h : MT tl tx M q) : ∃ M', fX7_readsForm M = some ((pForm tl tx q).isSome, M') ∧ FrW M M' ∧ ∀ e : wE, pForm tl tx q = some e → MT tl tx M' e.1 ∧ M'.1 96 8 = nI e.2.1 ∧ M'.1 101 3 = nI e.2.2.1 ∧ M'.1 101 0 = nI e.2.2.2.1 ∧ M'.1 101 1 = nI e.2.2.2.2.1 ∧ M'.1 101 2 = e.2.2.2.2.2 := by
  unfold fX7_readsForm pForm
  rw [x3, bs]
  have f0 : FrW M (st (st M 96 8 0) 101 3 0) := FrW.w8.tr FrW.w
  obtain ⟨M1, a1, a2, a3⟩ := passes_m (ch := 99) ((h.w8 (v := 0)).w (k := 3) (v := 0))
  have f1 := f0.tr a2.V.W
  rw [a1, bs]
  dsimp only
  -- behind a place that is read
  have R : ∀ (N : wM) (a : Nat × Nat × Nat), FrW M N → MT tl tx N a.1 → N.1 96 8 = nI a.2.1 → N.1 101 3 = nI a.2.2 → ∃ M', fX7_readsForm_J85 N = some ((((some a).bind (fun a => (pRest tl tx a.1).bind (fun b => some ((b.1, a.2.1, a.2.2, b.2.1, b.2.2.1, b.2.2.2) : wE))))).isSome, M') ∧ FrW M M' ∧ ∀ e : wE, ((some a).bind (fun a => (pRest tl tx a.1).bind (fun b => some ((b.1, a.2.1, a.2.2, b.2.1, b.2.2.1, b.2.2.2) : wE)))) = some e → MT tl tx M' e.1 ∧ M'.1 96 8 = nI e.2.1 ∧ M'.1 101 3 = nI e.2.2.1 ∧ M'.1 101 0 = nI e.2.2.2.1 ∧ M'.1 101 1 = nI e.2.2.2.2.1 ∧ M'.1 101 2 = e.2.2.2.2.2 := fun N a hf hN h8 h3 => by
    obtain ⟨M', r1, r2, r3⟩ := rest_m hN
    refine ⟨M', ?_, hf.tr r2.W, fun e he => ?_⟩
    · rw [r1, bs]
      cases pRest tl tx a.1 <;> rfl
    · rw [bs] at he
      cases hb : pRest tl tx a.1 with
      | none => rw [hb] at he; cases he
      | some b =>
        rw [hb] at he
        cases he
        obtain ⟨u1, u2, u3, u4⟩ := r3 b hb
        exact ⟨u1, by rw [r2.2.1 8 (by omega)]; exact h8, by rw [r2.2.2]; exact h3, u2, u3, u4⟩
  cases s : isS tl tx 99 q
  · rw [s, if_neg (by decide)] at a3
    rw [if_pos (show b2 false = 0 from rfl)]
    obtain ⟨M2, b1, b2', b3⟩ := passes_m (ch := 98) a3
    have f2 := f1.tr b2'.V.W
    rw [b1, bs]
    dsimp only
    unfold pPlace
    rw [skN s]
    cases s2 : isS tl tx 98 q
    · rw [if_pos (show b2 false = 0 from rfl), if_neg (show ¬ false = true from by decide)]
      exact ⟨M2, rfl, f2, fun x hx => by cases hx⟩
    · rw [s2, if_pos rfl] at b3
      rw [if_neg (show ¬ b2 true = 0 from by decide), if_pos rfl]
      have r : ∀ {A B : wM}, Fr96 p6 A B → B.1 101 = A.1 101 := fun z => (z.1 101 (by omega)).1
      exact R M2 (q + 1, 0, 0) f2 b3 (by rw [b2'.2.1 8 (by unfold p6; omega), a2.2.1 8 (by unfold p6; omega), st_row (by omega), st_same]; rfl) (by rw [r b2', r a2, st_same]; rfl)
  · rw [s, if_pos rfl] at a3
    unfold pPlace
    rw [if_neg (show ¬ b2 true = 0 from by decide), isS_no s (show (99 : Int32) ≠ 98 from by decide), if_neg (show ¬ false = true from by decide), skS s, bs]
    obtain ⟨M2, b1, b2', b3⟩ := number_m (k := 1) (by omega) a3
    have f2 := f1.tr b2'.V.W
    rw [show (1 : Int32) = nI 1 from rfl, b1, bs]
    dsimp only
    rw [st_same]
    cases s3 : pNum tl tx 1 (q + 1) with
    | none =>
      rw [if_pos (show oN none + nI 1 ≤ 0 from by decide), show fX7_readsForm_J62 (3 : Int32) (-nI 1) _ = _ from J62f]
      exact ⟨_, rfl, (f2.tr FrW.w8).tr FrW.w, fun x hx => by cases hx⟩
    | some r =>
    obtain ⟨r1, r2, r3⟩ := pNum_b (by omega) a3.2.1 s3
    rw [nuS s3] at b3
    rw [show oN (some r) + nI 1 = nI (r.2 + 1) from nIp1 r.2, if_neg (nI_nle (by omega) (by omega)), bs]
    have f3 := f2.tr (FrW.w8 (v := nI (r.2 + 1)))
    obtain ⟨M3, c1, c2, c3⟩ := passes_m (ch := 64) (b3.w8 (v := nI (r.2 + 1)))
    have f4 := f3.tr c2.V.W
    rw [c1, bs]
    dsimp only
    cases s4 : isS tl tx 64 r.1
    · rw [if_pos (show b2 false = 0 from rfl), skN s4, show fX7_readsForm_J62 (3 : Int32) (-nI 1) _ = _ from J62f]
      exact ⟨_, rfl, f4.tr FrW.w, fun x hx => by cases hx⟩
    rw [s4, if_pos rfl] at c3
    obtain ⟨M4, d1, d2, d3⟩ := number_m (k := 1) (by omega) c3
    have f5 := f4.tr d2.V.W
    rw [if_neg (show ¬ b2 true = 0 from by decide), skS s4, bs, d1, bs]
    dsimp only
    cases s5 : pNum tl tx 1 (r.1 + 1) with
    | none =>
      rw [show oN none = -1 from rfl, J62f]
      exact ⟨_, rfl, f5.tr FrW.w, fun x hx => by cases hx⟩
    | some w =>
    obtain ⟨w1, w2, w3⟩ := pNum_b (by omega) c3.2.1 s5
    rw [nuS s5] at d3
    have f6 := f5.tr (FrW.w (k := 3) (v := oN (some w)))
    unfold fX7_readsForm_J62
    rw [x3, bs, bs, st_same, if_pos (show 0 ≤ oN (some w) from nI_pos' (n := w.2) (by omega)), bs]
    exact R _ (w.1, r.2 + 1, w.2) f6 d3.w (by rw [st_row (by omega), d2.2.1 8 (by unfold p6; omega), c2.2.1 8 (by unfold p6; omega), st_same]) (by rw [st_same]; rfl)
def rsA (V : wV) (o : Option wE) : Int32 := match o with
  | none => 1
  | some e => nI (rsn V e)
def FrE (M M' : wM) : Prop := Fr (fun i => i = 96 ∨ i = 101 ∨ i = 97) M M' ∧ ∀ j, j ≠ 6 → j ≠ 8 → M'.1 96 j = M.1 96 j
theorem FrW.E {M M' : wM} (h : FrW M M') : FrE M M' := ⟨h.1.mono (fun i q => by omega), h.2⟩
theorem FrE.tr {M M' M'' : wM} (h : FrE M M') (h2 : FrE M' M'') : FrE M M'' := ⟨h.1.tr h2.1, fun j h6 h8 => (h2.2 j h6 h8).trans (h.2 j h6 h8)⟩
theorem entersOne_m {V : wV} (hV : OkV V) (hR : RMr V 97 0 M) (h : MT tl tx M q) : ∃ M', fX7_entersOne M = some (rsA V (pForm tl tx q), M') ∧ FrE M M' ∧ ∀ e : wE, pForm tl tx q = some e → rsn V e = 0 → MT tl tx M' e.1 ∧ RMr (stp V e) 97 0 M' := by
  obtain ⟨M1, a1, a2, a3⟩ := readsForm_m h
  unfold fX7_entersOne
  rw [a1, bs]
  dsimp only
  cases s : pForm tl tx q with
  | none =>
    rw [if_pos (show b2 (Option.isSome (none : Option wE)) = 0 from rfl)]
    exact ⟨M1, rfl, a2.E, fun x hx => by cases hx⟩
  | some e =>
  obtain ⟨A1, A2, A3, A4, A5, A6⟩ := a3 e s
  obtain ⟨B1, B2, B3, B4⟩ := pForm_b h.2.1 s
  rw [if_neg (show ¬ b2 (Option.isSome (some e)) = 0 from (by decide : ¬ b2 true = 0)), A2]
  have hR1 : RMr V 97 0 M1 := hR.keep (a2.1 97 (by omega)).1
  rw [show rsA V (some e) = nI (rsn V e) from rfl]
  by_cases h1 : 3 < e.2.1
  · rw [if_pos (show (3 : Int32) < nI e.2.1 from (nI_ltI (a := 3) (by omega) (by omega)).mpr h1)]
    have er : rsn V e = 2 := by unfold rsn; rw [if_pos h1]
    exact ⟨M1, by rw [er]; rfl, a2.E, fun x hx hz => by cases hx; omega⟩
  rw [if_neg (show ¬ (3 : Int32) < nI e.2.1 from fun z => h1 ((nI_ltI (a := 3) (by omega) (by omega)).mp z)), x0, bs, x1, bs, x2, bs, areValues_m, bs, A4, A5, A6]
  by_cases h2 : okR (nI e.2.2.2.1) (nI e.2.2.2.2.1) e.2.2.2.2.2 = false
  · have er : rsn V e = 2 := by unfold rsn; rw [if_neg h1, if_pos h2]
    rw [h2, if_pos (show b2 false = 0 from rfl)]
    exact ⟨M1, by rw [er]; rfl, a2.E, fun x hx hz => by cases hx; omega⟩
  have h2' := h2
  rw [Bool.not_eq_false] at h2'
  have hw : e.2.1 < 4 := by omega
  have hD := hR1.D hw
  rw [h2', if_neg (show ¬ b2 true = 0 from by decide), bs, A4, isTaken_d hw hD (hV.n hw), bs]
  rw [show anyF (fun r => decide (V.2.2 e.2.1 0 r = nI e.2.2.2.1)) 0 (V.2.1 e.2.1) = hasT V e.2.1 (nI e.2.2.2.1) from rfl]
  cases h3 : hasT V e.2.1 (nI e.2.2.2.1)
  · rw [if_pos (show b2 false = 0 from rfl), isFull_d hw hD (hV.2 _ hw).1, bs]
    by_cases h4 : cap e.2.1 ≤ V.2.1 e.2.1
    · have er : rsn V e = 4 := by unfold rsn; rw [if_neg h1, if_neg h2, if_neg (by rw [h3]; decide), if_pos h4]
      rw [decide_eq_true h4, if_neg (show ¬ b2 true = 0 from by decide)]
      exact ⟨M1, by rw [er]; rfl, a2.E, fun x hx hz => by cases hx; omega⟩
    · have er : rsn V e = 0 := by unfold rsn; rw [if_neg h1, if_neg h2, if_neg (by rw [h3]; decide), if_neg h4]
      obtain ⟨M2, b1, b2', b3⟩ := puts_d (ti := nI e.2.2.2.1) (p := nI e.2.2.2.2.1) (c := e.2.2.2.2.2) (pt := nI e.2.2.1) hw hD (by have := cap_le e.2.1; omega)
      rw [decide_eq_false h4, if_pos (show b2 false = 0 from rfl), bs, bs, bs, x3, bs, A4, A5, A6, A3, b1, bs]
      refine ⟨M2, by rw [er]; rfl, a2.E.tr ⟨b2'.1.mono (fun i q => by omega), fun j _ _ => by rw [(b2'.1 96 (by omega)).1]⟩, fun x hx hz => ?_⟩
      cases hx
      refine ⟨⟨A1.1, A1.2.1, ?_, ?_, ?_⟩, RMr.putD hV hw hR1 b3 b2'⟩
      · rw [(b2'.1 96 (by omega)).1]; exact A1.2.2.1
      · intro k hk; rw [(b2'.1 100 (by omega)).1]; exact A1.2.2.2.1 k hk
      · rw [(b2'.1 96 (by omega)).1]; exact A1.2.2.2.2
  · have er : rsn V e = 3 := by unfold rsn; rw [if_neg h1, if_neg h2, if_pos h3]
    rw [if_neg (show ¬ b2 true = 0 from by decide)]
    exact ⟨M1, by rw [er]; rfl, a2.E, fun x hx hz => by cases hx; omega⟩
end TY

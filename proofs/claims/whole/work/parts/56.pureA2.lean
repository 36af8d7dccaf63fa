/-! texts: the reference's two passes; the questions and changes with texts -/
theorem ln99 : ln 99 = 327 := rfl
section TW
variable {tl : Nat} {tx : Nat → Int32} {V : wV} {hs : List wV} {M : wM} {q : Nat}
theorem faulty_L2 : ∀ (c k fu : Nat) (M : wM), k + c = 327 → c < fu → ∃ M', fX7_faulty_L2 fu (nI k) M = fX7_faulty_L35 FU (-2000000004 : Int32) (st M' 96 6 (0 : Int32)) ∧ Fr (fun i => i = 99) M M' ∧ (∀ j, j < k → M'.1 99 j = M.1 99 j) ∧ ∀ j, k ≤ j → j < 327 → M'.1 99 j = M.1 97 j
  | c, k, 0, M, _, h => absurd h (by omega)
  | 0, k, fu + 1, M, hk, hfu => by
    refine ⟨M, ?_, Fr.rf, fun j hj => rfl, fun j h1 h2 => absurd h1 (by omega)⟩
    show fX7_faulty_B2 _ _ M = _
    unfold fX7_faulty_B2
    rw [if_pos (show (327 : Int32) ≤ nI k from (nI_leI (a := 327) (by omega) (by omega)).mpr (by omega))]
  | c + 1, k, fu + 1, M, hk, hfu => by
    show ∃ M', fX7_faulty_B2 _ _ M = _ ∧ _
    unfold fX7_faulty_B2
    rw [if_neg (show ¬ (327 : Int32) ≤ nI k from fun z => by have := (nI_leI (a := 327) (by omega) (by omega)).mp z; omega), ix_in (by rw [ln97]; omega) (by rw [ln97]; omega), bs, ix_in (by rw [ln99]; omega) (by rw [ln99]; omega), bs, nIp1]
    obtain ⟨M', a1, a2, a3, a4⟩ := faulty_L2 c (k + 1) fu (st M 99 k (M.1 97 k)) (by omega) (by omega)
    refine ⟨M', a1, (Fr.st (P := fun i => i = 99) rfl).tr a2, fun j hj => by rw [a3 j (by omega), st_col (by omega)], fun j h1 h2 => ?_⟩
    rcases Nat.eq_or_lt_of_le h1 with rfl | h
    · rw [a3 k (by omega), st_same]
    · rw [a4 j (by omega) h2, st_row (by omega)]
theorem faulty_L83 {x : Int32} : ∀ (c k fu : Nat) (M : wM), k + c = 327 → c < fu → ∃ M', fX7_faulty_L83 fu x (nI k) M = some (x, M') ∧ Fr (fun i => i = 97) M M' ∧ (∀ j, j < k → M'.1 97 j = M.1 97 j) ∧ ∀ j, k ≤ j → j < 327 → M'.1 97 j = M.1 99 j
  | c, k, 0, M, _, h => absurd h (by omega)
  | 0, k, fu + 1, M, hk, hfu => by
    refine ⟨M, ?_, Fr.rf, fun j hj => rfl, fun j h1 h2 => absurd h1 (by omega)⟩
    show fX7_faulty_B83 _ _ _ M = _
    unfold fX7_faulty_B83
    rw [if_pos (show (327 : Int32) ≤ nI k from (nI_leI (a := 327) (by omega) (by omega)).mpr (by omega))]
  | c + 1, k, fu + 1, M, hk, hfu => by
    show ∃ M', fX7_faulty_B83 _ _ _ M = _ ∧ _
    unfold fX7_faulty_B83
    rw [if_neg (show ¬ (327 : Int32) ≤ nI k from fun z => by have := (nI_leI (a := 327) (by omega) (by omega)).mp z; omega), ix_in (by rw [ln99]; omega) (by rw [ln99]; omega), bs, ix_in (by rw [ln97]; omega) (by rw [ln97]; omega), bs, nIp1]
    obtain ⟨M', a1, a2, a3, a4⟩ := faulty_L83 c (k + 1) fu (st M 97 k (M.1 99 k)) (by omega) (by omega)
    refine ⟨M', a1, (Fr.st (P := fun i => i = 97) rfl).tr a2, fun j hj => by rw [a3 j (by omega), st_col (by omega)], fun j h1 h2 => ?_⟩
    rcases Nat.eq_or_lt_of_le h1 with rfl | h
    · rw [a3 k (by omega), st_same]
    · rw [a4 j (by omega) h2, st_row (by omega)]
/-- what is aside -/
def aS (V : wV) (M : wM) : Prop := RMr V 99 0 M
def fN (o : Option (Nat × Nat)) : Int32 := match o with
  | none => -2000000004
  | some x => nI x.1
def FrX (M M' : wM) : Prop := Fr (fun i => i = 96 ∨ i = 101 ∨ i = 97) M M' ∧ ∀ j, j ≠ 6 → j ≠ 7 → j ≠ 8 → M'.1 96 j = M.1 96 j
theorem FrX.tr {M M' M'' : wM} (h : FrX M M') (h2 : FrX M' M'') : FrX M M'' := ⟨h.1.tr h2.1, fun j h6 h7 h8 => (h2.2 j h6 h7 h8).trans (h.2 j h6 h7 h8)⟩
theorem FrE.X {M M' : wM} (h : FrE M M') : FrX M M' := ⟨h.1, fun j h6 _ h8 => h.2 j h6 h8⟩
theorem FrX.w7 {M : wM} {v : Int32} : FrX M (st M 96 7 v) := ⟨Fr.st (P := fun i => i = 96 ∨ i = 101 ∨ i = 97) (Or.inl rfl), fun j h6 h7 h8 => st_col h7⟩
theorem restore {x : Int32} {V0 : wV} (hV : OkV V0) (ha : RMr V0 99 0 M) : ∃ M', fX7_faulty_L83 FU x (0 : Int32) M = some (x, M') ∧ Fr (fun i => i = 97) M M' ∧ RMr V0 97 0 M' := by
  obtain ⟨M', a1, a2, a3, a4⟩ := faulty_L83 (x := x) 327 0 FU M rfl (by unfold FU; omega)
  exact ⟨M', a1, a2, RMr.copy hV ha (fun j hj => by rw [Nat.zero_add, a4 j (by omega) hj])⟩
theorem faulty_L35 {V0 : wV} (h0 : OkV V0) : ∀ (c : Nat) (V : wV) (q n fu : Nat) (M : wM), tl - q ≤ c → c + 1 < fu → n ≤ q → OkV V → RMr V 97 0 M → MT tl tx M q → RMr V0 99 0 M → ∃ M', fX7_faulty_L35 fu (-2000000004 : Int32) M = some (fN (txR tl tx c V q n).1, M') ∧ FrX M M' ∧ RMr V0 97 0 M' ∧ ∀ x, (txR tl tx c V q n).1 = some x → M'.1 96 7 = nI x.2
  | c, V, q, n, 0, M, _, h, _, _, _, _, _ => absurd h (by omega)
  | c, V, q, n, fu + 1, M, hc, hfu, hn, hV, hR, h, ha => by
    show ∃ M', fX7_faulty_B35 _ _ M = _ ∧ _
    unfold fX7_faulty_B35
    by_cases e : tl ≤ q
    · obtain ⟨M', a1, a2, a3⟩ := restore (x := -2000000004) h0 ha
      rw [if_pos (h.end.mpr e), txR_end e]
      exact ⟨M', a1, ⟨a2.mono (fun i q => by omega), fun j _ _ _ => by rw [(a2 96 (by omega)).1]⟩, a3, fun x hx => by cases hx⟩
    obtain ⟨c, rfl⟩ : ∃ z, c = z + 1 := ⟨c - 1, by omega⟩
    obtain ⟨fu, rfl⟩ : ∃ z, fu = z + 1 := ⟨fu - 1, by omega⟩
    have hq2 := h.2.1
    have t100 := h.1.1
    rw [if_neg (fun z => e (h.end.mp z)), if_pos rfl]
    obtain ⟨M1, a1, a2, a3⟩ := entersOne_m hV hR h
    rw [a1, bs]
    dsimp only
    rw [st_same]
    have F : FrX M (st M1 96 7 (rsA V (pForm tl tx q))) := a2.X.tr FrX.w7
    have ha1 : RMr V0 99 0 (st M1 96 7 (rsA V (pForm tl tx q))) := RMr.copy h0 ha (fun j hj => by rw [(F.1 99 (by omega)).1])
    -- a fault ends it
    have bad : ∀ r : Nat, rsA V (pForm tl tx q) = nI r → 0 < r → r ≤ 4 → txR tl tx (c + 1) V q n = (some (q, r), V, n) → ∃ M', (if rsA V (pForm tl tx q) ≤ (0 : Int32) then fX7_faulty_L35 (fu + 1) (-2000000004 : Int32) (st M1 96 7 (rsA V (pForm tl tx q))) else fX7_faulty_L35 (fu + 1) (M.1 96 6) (st M1 96 7 (rsA V (pForm tl tx q)))) = some (fN (txR tl tx (c + 1) V q n).1, M') ∧ FrX M M' ∧ RMr V0 97 0 M' ∧ ∀ x, (txR tl tx (c + 1) V q n).1 = some x → M'.1 96 7 = nI x.2 := fun r er r0 r4 et => by
      obtain ⟨M', b1, b2', b3⟩ := restore (x := nI q) h0 ha1
      have b96 := (b2' 96 (by omega)).1
      rw [et, er, if_neg (nI_nle r0 (by omega)), h.2.2.2.2]
      rw [er] at b1 b96 F b2'
      refine ⟨M', ?_, F.tr ⟨b2'.mono (fun i q => by omega), fun j _ _ _ => by rw [(b2' 96 (by omega)).1]⟩, b3, fun x hx => by cases hx; rw [b96, st_same]⟩
      show fX7_faulty_B35 _ _ _ = _
      unfold fX7_faulty_B35
      rw [if_neg (show ¬ nI q = (-2000000004 : Int32) from fun z => by
        have := congrArg Int32.toInt z
        rw [nI_toInt (by omega), show (-2000000004 : Int32).toInt = -2000000004 from by decide] at this
        omega), ite_self]
      exact b1
    cases s : pForm tl tx q with
    | none =>
      rw [s] at bad
      exact bad 1 rfl (by omega) (by omega) (txR_no e s)
    | some w =>
      obtain ⟨B1, B2, B3, B4⟩ := pForm_b hq2 s
      rw [s] at bad F ha1
      have fb := rsn_b (V := V) (e := w)
      by_cases hr : rsn V w = 0
      · obtain ⟨u1, u2⟩ := a3 w s hr
        rw [show rsA V (some w) = nI (rsn V w) from rfl] at F ha1
        rw [show rsA V (some w) = nI (rsn V w) from rfl, if_pos (show nI (rsn V w) ≤ 0 by rw [hr]; decide), txR_ok e s hr]
        obtain ⟨M', b1, b2', b3, b4⟩ := faulty_L35 h0 c (stp V w) w.1 (n + 1) (fu + 1) (st M1 96 7 (nI (rsn V w))) (by omega) (by omega) (by omega) (stp_ok hV B4 hr) (u2.keep (st_row (by omega))) ⟨u1.1, u1.2.1, by rw [st_col (by omega)]; exact u1.2.2.1, fun k hk => by rw [st_row (by omega)]; exact u1.2.2.2.1 k hk, by rw [st_col (by omega)]; exact u1.2.2.2.2⟩ ha1
        exact ⟨M', b1, F.tr b2', b3, b4⟩
      · exact bad (rsn V w) rfl (by omega) fb (txR_bad e s hr)
theorem faulty_m (ht : TXo tl tx) (h : IM V hs tl tx M) : ∃ M', fX7_faulty M = some (fN (txR tl tx tl V 0 0).1, M') ∧ FrM M M' ∧ IM V hs tl tx M' ∧ ∀ x, (txR tl tx tl V 0 0).1 = some x → M'.1 96 7 = nI x.2 := by
  obtain ⟨M1, a1, a2, a3, a4⟩ := faulty_L2 327 0 FU M rfl (by unfold FU; omega)
  obtain ⟨hV, hR, hH, h5, h6⟩ := h
  have t100 := ht.1
  have e : ∀ i, i ≠ 99 → M1.1 i = M.1 i := fun i hi => (a2 i hi).1
  obtain ⟨M', b1, b2', b3, b4⟩ := faulty_L35 (tl := tl) (tx := tx) hV tl V 0 0 FU (st M1 96 6 (0 : Int32)) (by omega) (by unfold FU; omega) (by omega) hV (hR.keep (by rw [st_row (by omega), e 97 (by omega)])) ⟨ht, by omega, by rw [st_col (by omega), e 96 (by omega)]; exact h5, fun k hk => by rw [st_row (by omega), e 100 (by omega)]; exact h6 k hk, st_same⟩ (RMr.copy hV hR (fun j hj => by rw [st_row (by omega), Nat.zero_add, a4 j (by omega) hj]))
  have f : Fr (fun i => i = 96) M1 (st M1 96 6 (0 : Int32)) := Fr.st rfl
  have n : ∀ j, j ≠ 6 → j ≠ 7 → j ≠ 8 → M'.1 96 j = M.1 96 j := fun j h6 h7 h8 => by rw [b2'.2 j h6 h7 h8, st_col h6, e 96 (by omega)]
  have o : ∀ i, (i = 98 ∨ i = 100) → M'.1 i = M.1 i := fun i hi => by rw [(b2'.1 i (by omega)).1, st_row (by omega), e i (by omega)]
  refine ⟨M', ?_, (a2.mono (fun i q => by omega)).tr ((f.mono (fun i q => by omega)).tr (b2'.1.mono (fun i q => by omega))), ⟨hV, b3, hH.keep (n 2 (by omega) (by omega) (by omega)) (o 98 (by omega)), by rw [n 5 (by omega) (by omega) (by omega)]; exact h5, fun k hk => by rw [o 100 (by omega)]; exact h6 k hk⟩, b4⟩
  unfold fX7_faulty
  rw [show (0 : Int32) = nI 0 from rfl, a1]
  exact b1
theorem enter_L23 : ∀ (c : Nat) (V : wV) (q n fu : Nat) (M : wM), tl - q ≤ c → c < fu → n ≤ q → OkV V → RMr V 97 0 M → MT tl tx M q → (txR tl tx c V q n).1 = none → ∃ M', fX7_enter_L23 fu (nI n) M = some (nI (txR tl tx c V q n).2.2, M') ∧ FrE M M' ∧ RMr (txR tl tx c V q n).2.1 97 0 M'
  | c, V, q, n, 0, M, _, h, _, _, _, _, _ => absurd h (by omega)
  | c, V, q, n, fu + 1, M, hc, hfu, hn, hV, hR, h, hok => by
    show ∃ M', fX7_enter_B23 _ _ M = _ ∧ _
    unfold fX7_enter_B23
    by_cases e : tl ≤ q
    · rw [if_pos (h.end.mpr e), txR_end e]
      exact ⟨M, rfl, ⟨Fr.rf, fun _ _ _ => rfl⟩, hR⟩
    obtain ⟨c, rfl⟩ : ∃ z, c = z + 1 := ⟨c - 1, by omega⟩
    have hq2 := h.2.1
    rw [if_neg (fun z => e (h.end.mp z))]
    obtain ⟨M1, a1, a2, a3⟩ := entersOne_m hV hR h
    rw [a1, bs]
    cases s : pForm tl tx q with
    | none => rw [txR_no e s] at hok; cases hok
    | some w =>
      obtain ⟨B1, B2, B3, B4⟩ := pForm_b hq2 s
      by_cases hr : rsn V w = 0
      · obtain ⟨u1, u2⟩ := a3 w s hr
        rw [txR_ok e s hr] at hok ⊢
        obtain ⟨M', b1, b2', b3⟩ := enter_L23 c (stp V w) w.1 (n + 1) fu M1 (by omega) (by omega) (by omega) (stp_ok hV B4 hr) u2 u1 hok
        rw [nIp1]
        exact ⟨M', b1, a2.tr b2', b3⟩
      · rw [txR_bad e s hr] at hok; cases hok
end TW

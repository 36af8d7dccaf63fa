/-! texts: all readings -/
section TZ
variable {tl : Nat} {tx : Nat → Int32} {M : wM} {q : Nat}
abbrev wRes : Type := Option (Nat × Nat) × wV × Nat
def txR (tl : Nat) (tx : Nat → Int32) : Nat → wV → Nat → Nat → wRes
  | 0, V, _, n => (none, V, n)
  | c + 1, V, q, n => if tl ≤ q then (none, V, n) else match pForm tl tx q with
    | none => (some (q, 1), V, n)
    | some e => if rsn V e = 0 then txR tl tx c (stp V e) e.1 (n + 1) else (some (q, rsn V e), V, n)
def fP (o : Option (Nat × Nat)) : Int32 := match o with
  | none => -1
  | some x => nI x.1
theorem txR_end {c n : Nat} {V : wV} (h : tl ≤ q) : txR tl tx c V q n = (none, V, n) := by
  cases c with
  | zero => rfl
  | succ c => show (if tl ≤ q then _ else _) = _; rw [if_pos h]
theorem txR_no {c n : Nat} {V : wV} (h : ¬ tl ≤ q) (hf : pForm tl tx q = none) : txR tl tx (c + 1) V q n = (some (q, 1), V, n) := by
  unfold txR
  rw [if_neg h, hf]
theorem txR_bad {c n : Nat} {V : wV} {e : wE} (h : ¬ tl ≤ q) (hf : pForm tl tx q = some e) (hr : ¬ rsn V e = 0) : txR tl tx (c + 1) V q n = (some (q, rsn V e), V, n) := by
  unfold txR
  rw [if_neg h, hf]
  exact if_neg hr
theorem txR_ok {c n : Nat} {V : wV} {e : wE} (h : ¬ tl ≤ q) (hf : pForm tl tx q = some e) (hr : rsn V e = 0) : txR tl tx (c + 1) V q n = txR tl tx c (stp V e) e.1 (n + 1) := by
  rw [show txR tl tx (c + 1) V q n = (if tl ≤ q then (none, V, n) else match pForm tl tx q with
    | none => (some (q, 1), V, n)
    | some e => if rsn V e = 0 then txR tl tx c (stp V e) e.1 (n + 1) else (some (q, rsn V e), V, n)) from rfl, if_neg h, hf]
  exact if_pos hr
theorem txR_V : ∀ (c : Nat) (V : wV) (q n : Nat), q ≤ tl → n ≤ q → OkV V → OkV (txR tl tx c V q n).2.1 ∧ (txR tl tx c V q n).2.2 ≤ tl ∧ ∀ x, (txR tl tx c V q n).1 = some x → x.1 < tl ∧ x.2 ≤ 4
  | 0, V, q, n, hq, hn, hV => ⟨hV, by show n ≤ tl; omega, fun x hx => by cases hx⟩
  | c + 1, V, q, n, hq, hn, hV => by
    by_cases h : tl ≤ q
    · rw [txR_end h]; exact ⟨hV, by dsimp only; omega, fun x hx => by cases hx⟩
    · cases hf : pForm tl tx q with
      | none => rw [txR_no h hf]; exact ⟨hV, by dsimp only; omega, fun x hx => by cases hx; dsimp only; omega⟩
      | some e =>
        obtain ⟨B1, B2, B3, B4⟩ := pForm_b hq hf
        by_cases hr : rsn V e = 0
        · rw [txR_ok h hf hr]
          exact txR_V c (stp V e) e.1 (n + 1) B2 (by omega) (stp_ok hV B4 hr)
        · have := rsn_b (V := V) (e := e)
          rw [txR_bad h hf hr]; exact ⟨hV, by dsimp only; omega, fun x hx => by cases hx; dsimp only; omega⟩
/-! the class -/
theorem trk10 {w : Nat} (hw : w ≤ 10) : ∃ tr, kd tr = 5 ∧ (w < 4 → tr = tk 10 w) ∧ ∀ N : wM, fX2_track 10 (nI w - 1) N = some tr := by
  rcases (show w = 0 ∨ w = 1 ∨ w = 2 ∨ w = 3 ∨ 4 ≤ w by omega) with rfl | rfl | rfl | rfl | h
  · exact ⟨tk 10 0, rfl, fun _ => rfl, fun N => rfl⟩
  · exact ⟨tk 10 1, rfl, fun _ => rfl, fun N => rfl⟩
  · exact ⟨tk 10 2, rfl, fun _ => rfl, fun N => rfl⟩
  · exact ⟨tk 10 3, rfl, fun _ => rfl, fun N => rfl⟩
  · refine ⟨tk 10 0, rfl, fun q => absurd q (by omega), fun N => ?_⟩
    unfold fX2_track
    rw [nIm1 (by omega), if_neg (show ¬ nI (w - 1) = (0 : Int32) from nI_ne0 (by omega) (by omega)), if_neg (show ¬ nI (w - 1) = (1 : Int32) from fun z => by
      have := (nI_eq (b := 1) (by omega) (by omega)).mp z; omega), if_neg (show ¬ nI (w - 1) = (2 : Int32) from fun z => by
      have := (nI_eq (b := 2) (by omega) (by omega)).mp z; omega)]
    rfl
theorem cell3 {w : Nat} (hw : w ≤ 10) : (3 : Int32) ≤ nI w - 1 ↔ 3 < w := by
  by_cases h : w = 0
  · subst h
    constructor
    · intro q; exact absurd q (by decide)
    · intro q; omega
  · rw [nIm1 (by omega), show (3 : Int32) = nI 3 from rfl, nI_leI (by omega) (by omega)]
    omega
theorem reason_c {V : wV} {e : wE} {tr : Nat} (hV : OkV V) (hR : RC V 10 M) (hw : e.2.1 ≤ 10) (hk : kd tr = 5) (ht : e.2.1 < 4 → tr = tk 10 e.2.1) (A3 : M.1 94 3 = nI e.2.1 - 1) (A5 : M.1 94 5 = nI e.2.2.2.1) (A6 : M.1 94 6 = nI e.2.2.2.2.1) (A7 : M.1 94 7 = e.2.2.2.2.2) : fX4_reasonAgainst 94 tr M = some (nI (rsn V e)) := by
  unfold fX4_reasonAgainst
  rw [A3, A5, A6, A7]
  by_cases h1 : 3 < e.2.1
  · rw [if_pos ((cell3 hw).mpr h1), show rsn V e = 2 from by unfold rsn; rw [if_pos h1]]
    rfl
  rw [if_neg (fun z => h1 ((cell3 hw).mp z)), isReading_c, bs]
  by_cases h2 : okR (nI e.2.2.2.1) (nI e.2.2.2.2.1) e.2.2.2.2.2 = false
  · rw [h2, if_pos (show b2 false = 0 from rfl), show rsn V e = 2 from by unfold rsn; rw [if_neg h1, if_pos h2]]
    rfl
  have h2' := h2
  rw [Bool.not_eq_false] at h2'
  have hw4 : e.2.1 < 4 := by omega
  have hT := hR.2 _ hw4
  have e0 := ht hw4
  subst e0
  rw [h2', if_neg (show ¬ b2 true = 0 from by decide), hasTime_t hk hT (hV.n hw4), bs]
  rw [show anyF (fun r => decide (V.2.2 e.2.1 0 r = nI e.2.2.2.1)) 0 (V.2.1 e.2.1) = hasT V e.2.1 (nI e.2.2.2.1) from rfl]
  cases h3 : hasT V e.2.1 (nI e.2.2.2.1)
  · rw [if_pos (show b2 false = 0 from rfl), isFull_t hT (hV.n hw4) (cap_le _), bs]
    by_cases h4 : cap e.2.1 ≤ V.2.1 e.2.1
    · rw [decide_eq_true h4, if_neg (show ¬ b2 true = 0 from by decide), show rsn V e = 4 from by unfold rsn; rw [if_neg h1, if_neg h2, if_neg (by rw [h3]; decide), if_pos h4]]
      rfl
    · rw [decide_eq_false h4, if_pos (show b2 false = 0 from rfl), show rsn V e = 0 from by unfold rsn; rw [if_neg h1, if_neg h2, if_neg (by rw [h3]; decide), if_neg h4]]
      rfl
  · rw [if_neg (show ¬ b2 true = 0 from by decide), show rsn V e = 3 from by unfold rsn; rw [if_neg h1, if_neg h2, if_pos h3]]
    rfl
/-- what the class's reading of a text leaves -/
def FrR (M M' : wM) : Prop := Fr (fun i => i = 94 ∨ inS 10 i) M M' ∧ M'.1 94 1 = M.1 94 1
theorem FrR.tr {M M' M'' : wM} (h : FrR M M') (h2 : FrR M' M'') : FrR M M'' := ⟨h.1.tr h2.1, h2.2.trans h.2⟩
theorem FrT.R {P : Nat → Prop} {M M' : wM} (h : FrT P M M') (h1 : ¬ P 1) : FrR M M' := ⟨h.1.mono (fun i q => Or.inl q), h.2 1 h1⟩
theorem RC.T {V : wV} {P : Nat → Prop} {M M' : wM} (h : RC V 10 M) (f : FrT P M M') : RC V 10 M' := h.keep (fun i h1 h2 => (f.1 i (by omega)).1)
theorem p27_n {j : Nat} (h : j < 2 ∨ 8 ≤ j) : ¬ p27 j := fun q => by unfold p27 at q; omega
theorem readInto_L : ∀ (c : Nat) (V : wV) (q n fu : Nat) (M : wM), tl - q ≤ c → c < fu → n ≤ q → OkV V → RC V 10 M → CT tl tx M q → M.1 94 8 = nI n → M.1 94 9 = -1 → ∃ M', fX4_readInto_L17 94 10 fu (nI n) M = some M' ∧ FrR M M' ∧ RC (txR tl tx c V q n).2.1 10 M' ∧ M'.1 94 8 = nI (txR tl tx c V q n).2.2 ∧ M'.1 94 9 = fP (txR tl tx c V q n).1 ∧ ∀ x, (txR tl tx c V q n).1 = some x → M'.1 94 10 = nI x.2
  | c, V, q, n, 0, M, _, h, _, _, _, _, _, _ => absurd h (by omega)
  | c, V, q, n, fu + 1, M, hc, hfu, hn, hV, hR, h, h8, h9 => by
    have t100 := h.1.1
    show ∃ M', fX4_readInto_B17 94 10 _ _ M = _ ∧ _
    unfold fX4_readInto_B17
    by_cases e : tl ≤ q
    · rw [if_pos (h.end.mpr e), ite_self, txR_end e]
      exact ⟨M, rfl, ⟨Fr.rf, rfl⟩, hR, h8, h9, fun x hx => by cases hx⟩
    obtain ⟨c, rfl⟩ : ∃ z, c = z + 1 := ⟨c - 1, by omega⟩
    have hq2 := h.2.1
    rw [if_neg (show ¬ (100 : Int32) ≤ nI n from fun z => by have := (nI_leI (a := 100) (by omega) (by omega)).mp z; omega), if_neg (fun z => e (h.end.mp z)), h.2.2.2.2]
    obtain ⟨M1, a1, a2, a3⟩ := takeReading_c h
    have R1 := hR.T a2
    rw [a1, bs]
    dsimp only
    cases s : pForm tl tx q with
    | none =>
      rw [if_pos (show b2 (Option.isSome (none : Option wE)) = 0 from rfl), txR_no e s]
      unfold fX4_readInto_J63
      rw [st_same, if_neg (by decide)]
      have f : FrT (fun j => 9 ≤ j) M1 (st (st M1 94 10 1) 94 9 (nI q)) := (FrT.st (by omega)).tr (FrT.st (by omega))
      refine ⟨_, rfl, (a2.R (p27_n (by omega))).tr (f.R (by omega)), R1.T f, ?_, ?_, fun x hx => ?_⟩
      · rw [f.2 8 (by omega), a2.2 8 (p27_n (by omega))]; exact h8
      · rw [st_same]; rfl
      · cases hx; rw [st_col (by omega), st_same]; rfl
    | some w =>
      obtain ⟨A1, A2, A3, A4, A5, A6, A7, -, -⟩ := a3 w s
      obtain ⟨B1, B2, B3, B4⟩ := pForm_b hq2 s
      obtain ⟨tr, hk, ht, htr⟩ := trk10 B3
      rw [if_neg (show ¬ b2 (Option.isSome (some w)) = 0 from (by decide : ¬ b2 true = 0)), A3, htr M1, bs, gk_ok hk, bs, reason_c hV R1 B3 hk ht A3 A5 A6 A7, bs]
      unfold fX4_readInto_J63
      rw [st_same]
      have f : FrT (fun j => 9 ≤ j) M1 (st M1 94 10 (nI (rsn V w))) := FrT.st (by omega)
      have fb := rsn_b (V := V) (e := w)
      by_cases hr : rsn V w = 0
      · obtain ⟨r1, r2, r3, r4⟩ := rsn_0 hr
        have e0 := ht r1
        subst e0
        have R2 := R1.T f
        obtain ⟨M2, i1, i2, i3⟩ := insert_t (ti := nI w.2.2.2.1) (p := nI w.2.2.2.2.1) (c := w.2.2.2.2.2) (pt := nI w.2.2.1) hk (R2.2 _ r1) (by have := cap_le w.2.1; omega)
        have n94 : ¬ ((94 : Nat) = tk 10 w.2.1 ∨ 94 = tk 10 w.2.1 + 1) := by unfold tk; omega
        have R3 : RC (stp V w) 10 M2 := RC.putT (show kd 10 = 2 from rfl) r1 R2 i3 i2
        have f3 : FrT (fun j => j = 8) M2 (st M2 94 8 (M2.1 94 8 + 1)) := FrT.st rfl
        have e94 : M2.1 94 = (st M1 94 10 (nI (rsn V w))).1 94 := (i2 94 n94).1
        have e8 : M2.1 94 8 + 1 = nI (n + 1) := by rw [e94, st_col (by omega), a2.2 8 (p27_n (by omega)), h8, nIp1]
        have F : FrR M (st M2 94 8 (M2.1 94 8 + 1)) := ((a2.R (p27_n (by omega))).tr (f.R (by omega))).tr (FrR.tr ⟨i2.mono (fun i q => Or.inr (by unfold tk at q; unfold inS; omega)), by rw [e94]⟩ (f3.R (by omega)))
        obtain ⟨M', b1, b2', b3, b4, b5, b6⟩ := readInto_L c (stp V w) w.1 (n + 1) fu (st M2 94 8 (M2.1 94 8 + 1)) (by omega) (by omega) (by omega) (stp_ok hV B4 hr) (R3.T f3) ⟨h.1, B2, by rw [F.2]; exact h.2.2.1, fun k hk => by rw [(F.1 95 (by unfold inS; omega)).1]; exact h.2.2.2.1 k hk, by rw [st_col (by omega), e94, st_col (by omega)]; exact A1.2.2.2.2⟩ (by rw [st_same]; exact e8) (by rw [st_col (by omega), e94, st_col (by omega), a2.2 9 (p27_n (by omega))]; exact h9)
        rw [txR_ok e s hr, if_pos (show nI (rsn V w) = 0 by rw [hr]; rfl)]
        refine ⟨M', ?_, F.tr b2', b3, b4, b5, b6⟩
        rw [f.2 3 (by omega), f.2 4 (by omega), f.2 5 (by omega), f.2 6 (by omega), f.2 7 (by omega), A3, A4, A5, A6, A7, htr, bs, gk_ok hk, bs, i1, bs, nIp1]
        exact b1
      · rw [if_neg (nI_ne0 (by omega) (by omega)), txR_bad e s hr]
        have f2 : FrT (fun j => 9 ≤ j) M1 (st (st M1 94 10 (nI (rsn V w))) 94 9 (nI q)) := f.tr (FrT.st (by omega))
        refine ⟨_, rfl, (a2.R (p27_n (by omega))).tr (f2.R (by omega)), R1.T f2, ?_, ?_, fun x hx => ?_⟩
        · rw [f2.2 8 (by omega), a2.2 8 (p27_n (by omega))]; exact h8
        · rw [st_same]; rfl
        · cases hx; rw [st_col (by omega), st_same]
theorem IC.keepT {V : wV} {hs : List wV} {M2 : wM} (h : IC V hs tl tx M) (e : ∀ i, i < 96 → i ≠ 93 → i ≠ 94 → ¬ inS 10 i → M2.1 i = M.1 i) (hr : Rooms 10 M2) (h1 : M2.1 94 1 = M.1 94 1) : IC V hs tl tx M2 := by
  obtain ⟨a, b, ⟨o, c⟩, d, g, k, s⟩ := h
  have z : ∀ i, (i < 10 ∨ (19 ≤ i ∧ i < 93) ∨ i = 95) → M2.1 i = M.1 i := fun i hi => e i (by omega) (by omega) (by omega) (by unfold inS; omega)
  refine ⟨a, b.keep (fun i h1 h2 => z i (by omega)), ⟨o, c.keep (fun i h1 h2 => z i (by omega))⟩, hr, by rw [h1]; exact g, fun j hj => by rw [z 95 (by omega)]; exact k j hj, ?_⟩
  rw [z 0 (by omega)]
  rcases s with s | ⟨s1, s2⟩
  · exact Or.inl s
  · exact Or.inr ⟨s1, s2.keep (fun i h1 h2 => z i (by omega))⟩
theorem tryText_c {V : wV} {hs : List wV} (ht : TXo tl tx) (h : IC V hs tl tx M) : ∃ M', fX6_tryText M = some M' ∧ FrC M M' ∧ IC V hs tl tx M' ∧ RC (txR tl tx tl V 0 0).2.1 10 M' ∧ M'.1 94 8 = nI (txR tl tx tl V 0 0).2.2 ∧ M'.1 94 9 = fP (txR tl tx tl V 0 0).1 ∧ ∀ x, (txR tl tx tl V 0 0).1 = some x → M'.1 94 10 = nI x.2 := by
  have t100 := ht.1
  obtain ⟨M1, a1, a2, a3⟩ := copyS (show kd 10 = 2 from rfl) (show kd 1 = 2 from rfl) (by decide) h.1 h.2.1 h.2.2.2.1
  have n94 : ¬ inS 10 94 := by unfold inS; omega
  have n95 : ¬ inS 10 95 := by unfold inS; omega
  have f1 : FrT (fun j => j = 2 ∨ 8 ≤ j) M1 (st (st (st M1 94 2 0) 94 8 0) 94 9 (-1)) := ((FrT.st (by omega)).tr (FrT.st (by omega))).tr (FrT.st (by omega))
  have c0 : CT tl tx (st (st (st M1 94 2 0) 94 8 0) 94 9 (-1)) 0 := ⟨ht, by omega, by rw [f1.2 1 (by omega), (a2 94 n94).1]; exact h.2.2.2.2.1, fun k hk => by rw [(f1.1 95 (by omega)).1, (a2 95 n95).1]; exact h.2.2.2.2.2.1 k hk, by rw [st_col (by omega), st_col (by omega), st_same]; rfl⟩
  obtain ⟨M', b1, b2', b3, b4, b5, b6⟩ := readInto_L tl V 0 0 FU _ (by omega) (by unfold FU; omega) (by omega) h.1 (a3.T f1) c0 (by rw [st_col (by omega), st_same]; rfl) st_same
  have F : FrR M1 M' := (f1.R (by omega)).tr b2'
  refine ⟨M', ?_, ?_, h.keepT (fun i h1 h2 h3 h4 => by rw [(F.1 i (fun q => q.elim h3 h4)).1, (a2 i h4).1]) b3.rooms (by rw [F.2, (a2 94 n94).1]), b3, b4, b5, b6⟩
  · unfold fX6_tryText fX4_readInto
    rw [a1, bs, show (0 : Int32) = nI 0 from rfl, show fX4_readInto_L17 94 10 FU (nI 0) (st (st (st M1 94 2 (nI 0)) 94 8 (nI 0)) 94 9 (-1)) = _ from b1, bs]
  · exact (a2.mono (fun i q => by unfold inS at q; omega)).tr (F.1.mono (fun i q => by unfold inS at q; omega))
end TZ

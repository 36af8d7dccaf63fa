/-! type, clearText, fault, enter -/
section TV
variable {tl : Nat} {tx : Nat → Int32} {V : wV} {hs : List wV}
def addX (tl : Nat) (tx : Nat → Int32) (x : Int32) : Nat → Int32 := fun k => if k = tl then x else tx k
theorem chN {x : Int32} (h1 : (32 : Int32) ≤ x) (h2 : x ≤ 126) : vp_nar .char ((x.toUInt32 % 65536).toInt32) = x := by
  obtain ⟨m, hm, rfl⟩ := nI_of2 (x := x) (M := 126) (n := 126) (by decide) (Int32.not_lt.mpr (Int32.le_trans (by decide) h1)) h2
  rw [pk_vc, pk_char]
  have e : (nI m).toBitVec.toNat = m := by
    show (BitVec.ofNat 32 m).toNat = m
    rw [BitVec.toNat_ofNat]
    omega
  rw [e, Nat.mod_eq_of_lt (by omega)]
theorem both_type (ht : TXo tl tx) (x : Int32) : Both V hs tl tx (fX6_type x) (fX7_type x) := by
  by_cases h1 : inR x 32 126 = false
  · refine Both.s ht (-2000000001) (fun M h => ⟨M, ?_, Fr.rf, h⟩) (fun M h => ⟨M, ?_, Fr.rf, h⟩)
    · unfold fX6_type; rw [within_c, bs, h1]; rfl
    · unfold fX7_type; rw [in_m, bs, h1]; rfl
  rw [Bool.not_eq_false] at h1
  obtain ⟨q1, q2⟩ := inR_iff.mp h1
  have t100 := ht.1
  by_cases e : tl = 100
  · refine Both.s ht (-2000000003) (fun M h => ⟨M, ?_, Fr.rf, h⟩) (fun M h => ⟨M, ?_, Fr.rf, h⟩)
    · unfold fX6_type; rw [within_c, bs, h1, if_neg (by decide), h.2.2.2.2.1, e, if_neg (by decide)]
    · unfold fX7_type; rw [in_m, bs, h1, if_neg (by decide), h.2.2.2.1, e, if_pos (by decide)]
  · have tx2 : TXo (tl + 1) (addX tl tx x) := ⟨by omega, fun k hk => by
      unfold addX
      by_cases c : k = tl
      · rw [if_pos c]; exact ⟨q1, q2⟩
      · rw [if_neg c]; exact ht.2 k (by omega)⟩
    refine ⟨nI (tl + 1), V, hs, tl + 1, addX tl tx x, tx2, fun M h => ?_, fun M h => ?_⟩
    · obtain ⟨a, b, ⟨o, c⟩, d, g, k, s⟩ := h
      have e95 : (st (st M 95 tl x) 94 1 (nI (tl + 1))).1 95 = (st M 95 tl x).1 95 := st_row (by omega)
      have eo : ∀ i, i ≠ 94 → i ≠ 95 → (st (st M 95 tl x) 94 1 (nI (tl + 1))).1 i = M.1 i := fun i h1 h2 => by rw [st_row h1, st_row h2]
      refine ⟨st (st M 95 tl x) 94 1 (nI (tl + 1)), ?_, (Fr.st (P := fun i => i < 96) (by omega)).tr (Fr.st (by omega)), a, b.keep (fun i h1 h2 => eo i (by omega) (by omega)), ⟨o, c.keep (fun i h1 h2 => eo i (by omega) (by omega))⟩, d.keep (fun i h1 h2 => eo i (by omega) (by omega)), st_same, fun j hj => ?_, ?_⟩
      · unfold fX6_type
        rw [within_c, bs, h1, if_neg (by decide), g, if_pos (show nI tl < (100 : Int32) from (nI_ltI (b := 100) (by omega) (by omega)).mpr (by omega))]
        unfold fX4_append
        rw [g, if_neg (show ¬ (100 : Int32) ≤ nI tl from fun z => by have := (nI_leI (a := 100) (by omega) (by omega)).mp z; omega), show (94 + 1 : Nat) = 95 from rfl, put_in (show tl < ln 95 by rw [ln95]; omega), bs, bs, st_row (show (94 : Nat) ≠ 95 by omega), g, nIp1, st_same]
      · rw [e95]
        unfold addX
        by_cases c : j = tl
        · rw [if_pos c, c, st_same]
        · rw [if_neg c, st_col c]; exact k j (by omega)
      · rw [eo 0 (by omega) (by omega)]
        rcases s with s | ⟨s1, s2⟩
        · exact Or.inl s
        · exact Or.inr ⟨s1, s2.keep (fun i h1 h2 => eo i (by omega) (by omega))⟩
    · obtain ⟨a, b, c, d, g⟩ := h
      have eo : ∀ i, i ≠ 96 → i ≠ 100 → (st (st M 100 tl x) 96 5 (nI (tl + 1))).1 i = M.1 i := fun i h1 h2 => by rw [st_row h1, st_row h2]
      refine ⟨st (st M 100 tl x) 96 5 (nI (tl + 1)), ?_, (Fr.st (P := fun i => 96 ≤ i) (by omega)).tr (Fr.st (by omega)), a, b.keep (eo 97 (by omega) (by omega)), c.keep (by rw [st_col (by omega), st_row (by omega)]) (eo 98 (by omega) (by omega)), st_same, fun j hj => ?_⟩
      · unfold fX7_type
        rw [in_m, bs, h1, if_neg (by decide), d, if_neg (show ¬ nI tl = (100 : Int32) from fun z => by have := (nI_eq (b := 100) (by omega) (by omega)).mp z; omega), ix_in (by rw [ln100]; omega) (by rw [ln100]; omega), bs, chN q1 q2, st_row (show (96 : Nat) ≠ 100 by omega), d, nIp1, st_same]
      · rw [st_row (by omega)]
        unfold addX
        by_cases c : j = tl
        · rw [if_pos c, c, st_same]
        · rw [if_neg c, st_col c]; exact g j (by omega)
theorem both_clearText : Both V hs tl tx fX6_clearText fX7_clearText := by
  refine ⟨nI tl, V, hs, 0, tx, ⟨by omega, fun k hk => absurd hk (by omega)⟩, fun M h => ?_, fun M h => ?_⟩
  · obtain ⟨a, b, ⟨o, c⟩, d, g, k, s⟩ := h
    have eo : ∀ i, i ≠ 94 → (st M 94 1 0).1 i = M.1 i := fun i h1 => st_row h1
    refine ⟨st M 94 1 0, by unfold fX6_clearText; rw [g], Fr.st (by omega), a, b.keep (fun i h1 h2 => eo i (by omega)), ⟨o, c.keep (fun i h1 h2 => eo i (by omega))⟩, d.keep (fun i h1 h2 => eo i (by omega)), st_same, fun j hj => absurd hj (by omega), ?_⟩
    rw [eo 0 (by omega)]
    rcases s with s | ⟨s1, s2⟩
    · exact Or.inl s
    · exact Or.inr ⟨s1, s2.keep (fun i h1 h2 => eo i (by omega))⟩
  · obtain ⟨a, b, c, d, g⟩ := h
    exact ⟨st M 96 5 0, by unfold fX7_clearText; rw [d], Fr.st (by omega), a, b.keep (st_row (by omega)), c.keep (st_col (by omega)) (st_row (by omega)), st_same, fun k hk => absurd hk (by omega)⟩
theorem both_fault (ht : TXo tl tx) (hV : OkV V) (x : Int32) : Both V hs tl tx (fX6_fault x) (fX7_fault x) := by
  by_cases h1 : inR x 0 1 = false
  · refine Both.s ht (-2000000001) (fun M h => ⟨M, ?_, Fr.rf, h⟩) (fun M h => ⟨M, ?_, Fr.rf, h⟩)
    · unfold fX6_fault; rw [within_c, bs, h1]; rfl
    · unfold fX7_fault; rw [in_m, bs, h1]; rfl
  rw [Bool.not_eq_false] at h1
  have t100 := ht.1
  have hx := (txR_V (tl := tl) (tx := tx) tl V 0 0 (by omega) (by omega) hV).2.2
  cases hr : (txR tl tx tl V 0 0).1 with
  | none =>
    refine Both.s (V2 := V) (hs2 := hs) ht (-2000000004) (fun M h => ?_) (fun M h => ?_)
    · obtain ⟨M2, a1, a2, a3, a4, a5, a6, a7⟩ := tryText_c ht h
      refine ⟨M2, ?_, a2, a3⟩
      unfold fX6_fault
      rw [within_c, bs, h1, if_neg (by decide), a1, bs, a6, hr, if_pos (show fP none = -1 from rfl)]
    · obtain ⟨M2, a1, a2, a3, a4⟩ := faulty_m ht h
      refine ⟨M2, ?_, a2, a3⟩
      unfold fX7_fault
      rw [in_m, bs, h1, if_neg (by decide), a1, bs, hr, if_pos (show fN none = -2000000004 from rfl)]
      rfl
  | some y =>
    obtain ⟨y1, y2⟩ := hx y hr
    refine Both.s (V2 := V) (hs2 := hs) ht (if x = 0 then nI y.1 else nI y.2) (fun M h => ?_) (fun M h => ?_)
    · obtain ⟨M2, a1, a2, a3, a4, a5, a6, a7⟩ := tryText_c ht h
      refine ⟨M2, ?_, a2, a3⟩
      unfold fX6_fault
      rw [within_c, bs, h1, if_neg (by decide), a1, bs, a6, hr, show fP (some y) = nI y.1 from rfl, if_neg (ne1 (by omega)), a7 y hr]
      by_cases e : x = 0
      · rw [if_pos e, if_pos e]
      · rw [if_neg e, if_neg e]
    · obtain ⟨M2, a1, a2, a3, a4⟩ := faulty_m ht h
      refine ⟨M2, ?_, a2, a3⟩
      unfold fX7_fault
      rw [in_m, bs, h1, if_neg (by decide), a1, bs, hr]
      show (if nI y.1 = (-2000000004 : Int32) then some (nI y.1, M2) else if x = 0 then some (nI y.1, M2) else some (M2.1 96 7, M2)) = _
      rw [if_neg (show ¬ nI y.1 = (-2000000004 : Int32) from fun z => by
        have := congrArg Int32.toInt z
        rw [nI_toInt (by omega), show (-2000000004 : Int32).toInt = -2000000004 from by decide] at this
        omega), a4 y hr]
      by_cases e : x = 0
      · rw [if_pos e, if_pos e]
      · rw [if_neg e, if_neg e]
theorem record_s {M : wM} (h : IC V hs tl tx M) : ∃ M', fX6_record M = some M' ∧ FrC M M' ∧ IC V (push5 hs V) tl tx M' ∧ M'.1 0 8 = 1 ∧ ∀ i, i ≠ 0 → (i < 19 ∨ 66 ≤ i) → M'.1 i = M.1 i := by
  obtain ⟨a, b, ⟨o, c⟩, d, g, k, s⟩ := h
  obtain ⟨o', M1, e1, e2, e3⟩ := keep_h c a b
  have kp : ∀ i, (i < 19 ∨ 66 ≤ i) → M1.1 i = M.1 i ∧ M1.2 i = M.2 i := fun i hi => e2 i (by unfold inH; omega)
  refine ⟨st M1 0 8 1, by unfold fX6_record; rw [e1, bs], fun i hi => ⟨by rw [st_row (by omega)]; exact (kp i (by omega)).1, (kp i (by omega)).2⟩, ⟨a, b.keep (fun i h1 h2 => by rw [st_row (by omega)]; exact (kp i (by omega)).1), ⟨o', e3.keep (fun i h1 h2 => st_row (by omega))⟩, d.keep (fun i h1 h2 => by rw [st_row (by omega)]; exact (kp i (by omega)).1), by rw [st_row (by omega), (kp 94 (by omega)).1]; exact g, fun j hj => by rw [st_row (by omega), (kp 95 (by omega)).1]; exact k j hj, Or.inl st_same⟩, st_same, fun i h0 hi => by rw [st_row h0]; exact (kp i hi).1⟩
theorem both_enter (ht : TXo tl tx) (hV : OkV V) : Both V hs tl tx fX6_enter fX7_enter := by
  have t100 := ht.1
  obtain ⟨hV2, hn, hx⟩ := txR_V (tl := tl) (tx := tx) tl V 0 0 (by omega) (by omega) hV
  cases hr : (txR tl tx tl V 0 0).1 with
  | none =>
    refine Both.s (V2 := (txR tl tx tl V 0 0).2.1) (hs2 := push5 hs V) ht (nI (txR tl tx tl V 0 0).2.2) (fun M h => ?_) (fun M h => ?_)
    · obtain ⟨M1, a1, a2, a3, a4, a5, a6, a7⟩ := tryText_c ht h
      obtain ⟨M2, b1, b2', b3, b4, b5⟩ := record_s a3
      obtain ⟨M3, c1, c2, c3⟩ := copyS (a := 1) (b := 10) (show kd 1 = 2 from rfl) (show kd 10 = 2 from rfl) (by decide) hV2 (a4.keep (fun i h1 h2 => b5 i (by omega) (by omega))) b3.2.1.rooms
      refine ⟨M3, ?_, (a2.tr b2').tr (c2.mono (fun i q => by unfold inS at q; omega)), b3.change b4 hV2 c3 (fun i hi => (c2 i (by unfold inS; omega)).1)⟩
      unfold fX6_enter
      rw [a1, bs, a6, hr, if_pos (show fP none = -1 from rfl), b1, bs, c1, bs, (c2 94 (by unfold inS; omega)).1, b5 94 (by omega) (by omega), a5]
    · obtain ⟨M1, a1, a2, a3, a4⟩ := faulty_m ht h
      obtain ⟨M2, b1, b2', b3⟩ := records_M a3
      obtain ⟨-, hR, hH, h5, h6⟩ := b3
      have f : Fr (fun i => i = 96) M2 (st M2 96 6 (0 : Int32)) := Fr.st rfl
      obtain ⟨M3, c1, c2, c3⟩ := enter_L23 (tl := tl) (tx := tx) tl V 0 0 FU (st M2 96 6 (0 : Int32)) (by omega) (by unfold FU; omega) (by omega) hV (hR.keep (st_row (by omega))) ⟨ht, by omega, by rw [st_col (by omega)]; exact h5, fun k hk => by rw [st_row (by omega)]; exact h6 k hk, st_same⟩ hr
      refine ⟨M3, ?_, ((a2.tr b2').tr (f.mono (fun i q => by omega))).tr (c2.1.mono (fun i q => by omega)), hV2, c3, hH.keep (by rw [c2.2 2 (by omega) (by omega), st_col (by omega)]) (by rw [(c2.1 98 (by omega)).1, st_row (by omega)]), by rw [c2.2 5 (by omega) (by omega), st_col (by omega)]; exact h5, fun k hk => by rw [(c2.1 100 (by omega)).1, st_row (by omega)]; exact h6 k hk⟩
      unfold fX7_enter
      rw [a1, bs, hr, if_pos (show fN none = -2000000004 from rfl), b1, bs]
      exact c1
  | some y =>
    obtain ⟨y1, y2⟩ := hx y hr
    refine Both.s (V2 := V) (hs2 := hs) ht (-2000000002) (fun M h => ?_) (fun M h => ?_)
    · obtain ⟨M1, a1, a2, a3, a4, a5, a6, a7⟩ := tryText_c ht h
      refine ⟨M1, ?_, a2, a3⟩
      unfold fX6_enter
      rw [a1, bs, a6, hr, if_neg (show ¬ fP (some y) = -1 from ne1 (n := y.1) (by omega))]
    · obtain ⟨M1, a1, a2, a3, a4⟩ := faulty_m ht h
      refine ⟨M1, ?_, a2, a3⟩
      unfold fX7_enter
      rw [a1, bs, hr]
      show (if nI y.1 = (-2000000004 : Int32) then _ else some ((-2000000002 : Int32), M1)) = _
      rw [if_neg (show ¬ nI y.1 = (-2000000004 : Int32) from fun z => by
        have := congrArg Int32.toInt z
        rw [nI_toInt (by omega), show (-2000000004 : Int32).toInt = -2000000004 from by decide] at this
        omega)]
end TV

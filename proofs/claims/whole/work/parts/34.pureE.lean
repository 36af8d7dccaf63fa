/-! the history of the reference -/
def RMh (hs : List wV) (M : wM) : Prop := M.1 96 2 = nI hs.length ∧ hs.length ≤ 5 ∧ ∀ k V, hs[k]? = some V → OkV V ∧ RMr V 98 (327 * k) M
theorem ln98 : ln 98 = 1635 := rfl
theorem wix (b k : Nat) : ((327 : Int32) * nI b) + nI k = nI (327 * b + k) := by rw [show (327 : Int32) = nI 327 from rfl, pk_mul, nI_add]
theorem rec_L51 {b : Nat} (hb : b < 5) : ∀ (c k fu : Nat) (N : wM), k + c = 327 → c < fu → N.1 96 2 = nI b → ∃ M', fX7_records_L51 fu (nI k) N = some M' ∧ Fr (fun i => i = 98 ∨ i = 96) N M' ∧ M'.1 96 2 = nI (b + 1) ∧ (∀ j, j ≠ 2 → M'.1 96 j = N.1 96 j) ∧ (∀ j, (j < 327 * b + k ∨ 327 * b + 327 ≤ j) → M'.1 98 j = N.1 98 j) ∧ ∀ j, k ≤ j → j < 327 → M'.1 98 (327 * b + j) = N.1 97 j
  | 0, k, fu, N, hkc, hfu, h2 => by
    obtain ⟨fu, rfl⟩ : ∃ z, fu = z + 1 := ⟨fu - 1, by omega⟩
    refine ⟨st N 96 2 (nI b + 1), ?_, Fr.st (Or.inr rfl), by rw [st_same]; exact nIp1 b, fun j hj => st_col hj, fun j _ => by rw [st_row (by omega)], fun j h1 h2 => absurd h1 (by omega)⟩
    show fX7_records_B51 _ (nI k) N = _
    unfold fX7_records_B51
    rw [if_pos (show (327 : Int32) ≤ nI k from (nI_leI (a := 327) (by omega) (by omega)).mpr (by omega)), h2]
  | c + 1, k, fu, N, hkc, hfu, h2 => by
    obtain ⟨fu, rfl⟩ : ∃ z, fu = z + 1 := ⟨fu - 1, by omega⟩
    obtain ⟨M', a1, a2, a3, a4, a5, a6⟩ := rec_L51 hb c (k + 1) fu (st N 98 (327 * b + k) (N.1 97 k)) (by omega) (by omega) (by rw [st_row (by omega), h2])
    refine ⟨M', ?_, (Fr.st (P := fun i => i = 98 ∨ i = 96) (Or.inl rfl)).tr a2, a3, fun j hj => by rw [a4 j hj, st_row (by omega)], fun j hj => by rw [a5 j (by omega), st_col (by omega)], fun j h1 h3 => ?_⟩
    · show fX7_records_B51 _ (nI k) N = _
      unfold fX7_records_B51
      rw [if_neg (show ¬ (327 : Int32) ≤ nI k from fun q => absurd ((nI_leI (a := 327) (by omega) (by omega)).mp q) (by omega)), ix_in (by rw [ln97]; omega) (by rw [ln97]; omega), bs, h2, wix, ix_in (by rw [ln98]; omega) (by rw [ln98]; omega), bs, nIp1]
      exact a1
    · rcases Nat.eq_or_lt_of_le h1 with rfl | hlt
      · rw [a5 _ (by omega), st_same]
      · rw [a6 j (by omega) h3, st_row (by omega)]
theorem rec_L10 : ∀ (c k fu : Nat) (N : wM), k + c = 1308 → c < fu → ∃ N', fX7_records_L10 fu (nI k) N = fX7_records_L51 FU (0 : Int32) (st N' 96 2 ((N'.1 96 2) - (1 : Int32))) ∧ Fr (fun i => i = 98) N N' ∧ (∀ j, (j < k ∨ 1308 ≤ j) → N'.1 98 j = N.1 98 j) ∧ ∀ j, k ≤ j → j < 1308 → N'.1 98 j = N.1 98 (j + 327)
  | 0, k, fu, N, hkc, hfu => by
    obtain ⟨fu, rfl⟩ : ∃ z, fu = z + 1 := ⟨fu - 1, by omega⟩
    refine ⟨N, ?_, Fr.rf, fun _ _ => rfl, fun j h1 h2 => absurd h1 (by omega)⟩
    show fX7_records_B10 _ (nI k) N = _
    unfold fX7_records_B10
    rw [if_pos (show (1308 : Int32) ≤ nI k from (nI_leI (a := 1308) (by omega) (by omega)).mpr (by omega))]
  | c + 1, k, fu, N, hkc, hfu => by
    obtain ⟨fu, rfl⟩ : ∃ z, fu = z + 1 := ⟨fu - 1, by omega⟩
    obtain ⟨N', a1, a2, a3, a4⟩ := rec_L10 c (k + 1) fu (st N 98 k (N.1 98 (k + 327))) (by omega) (by omega)
    refine ⟨N', ?_, (Fr.st (P := fun i => i = 98) rfl).tr a2, fun j hj => by rw [a3 j (by omega), st_col (by omega)], fun j h1 h2 => ?_⟩
    · show fX7_records_B10 _ (nI k) N = _
      unfold fX7_records_B10
      rw [if_neg (show ¬ (1308 : Int32) ≤ nI k from fun q => absurd ((nI_leI (a := 1308) (by omega) (by omega)).mp q) (by omega)), show (327 : Int32) = nI 327 from rfl, nI_add, ix_in (by rw [ln98]; omega) (by rw [ln98]; omega), bs, ix_in (by rw [ln98]; omega) (by rw [ln98]; omega), bs, nIp1]
      exact a1
    · rcases Nat.eq_or_lt_of_le h1 with rfl | hlt
      · rw [a3 _ (by omega), st_same]
      · rw [a4 j (by omega) h2, st_col (by omega)]
theorem RMr.keep98 {V : wV} {o : Nat} {M M2 : wM} (hV : OkV V) (h : RMr V 98 o M) (hc : ∀ j, j < 327 → M2.1 98 (o + j) = M.1 98 (o + j)) : RMr V 98 o M2 := RMr.copy hV h hc
theorem rec_fin {hs : List wV} {V : wV} {M : wM} (hH : RMh hs M) (hl : hs.length < 5) (hV : OkV V) (hR : RMr V 97 0 M) : ∃ M', fX7_records_L51 FU (0 : Int32) M = some M' ∧ Fr (fun i => i = 98 ∨ i = 96) M M' ∧ (∀ j, j ≠ 2 → M'.1 96 j = M.1 96 j) ∧ RMh (hs ++ [V]) M' := by
  obtain ⟨M', a1, a2, a3, a4, a5, a6⟩ := rec_L51 hl 327 0 FU M (by omega) (by unfold FU; omega) hH.1
  refine ⟨M', a1, a2, a4, ?_, by simp; omega, fun k U hU => ?_⟩
  · rw [a3]; simp
  · rcases Nat.lt_or_ge k hs.length with hk | hk
    · rw [List.getElem?_append_left hk] at hU
      obtain ⟨q1, q2⟩ := hH.2.2 k U hU
      exact ⟨q1, RMr.copy q1 q2 (fun j hj => a5 _ (by omega))⟩
    · rw [List.getElem?_append_right hk] at hU
      have e : k - hs.length = 0 := by
        rcases Nat.eq_zero_or_pos (k - hs.length) with q | q
        · exact q
        · rw [List.getElem?_eq_none (by simp; omega)] at hU; cases hU
      rw [e] at hU
      cases hU
      have e2 : k = hs.length := by omega
      subst e2
      exact ⟨hV, RMr.copy hV hR (fun j hj => by rw [a6 j (by omega) hj, Nat.zero_add])⟩
theorem records_m {hs : List wV} {V : wV} {M : wM} (hH : RMh hs M) (hV : OkV V) (hR : RMr V 97 0 M) : ∃ M', fX7_records M = some M' ∧ Fr (fun i => i = 98 ∨ i = 96) M M' ∧ (∀ j, j ≠ 2 → M'.1 96 j = M.1 96 j) ∧ RMh (push5 hs V) M' := by
  unfold fX7_records push5
  by_cases hl : hs.length = 5
  · rw [if_pos (show M.1 96 2 = (5 : Int32) by rw [hH.1, hl]; rfl), if_pos hl]
    obtain ⟨N', b1, b2, b3, b4⟩ := rec_L10 1308 0 FU M (by omega) (by unfold FU; omega)
    have hN2 : (N'.1 96 2) - (1 : Int32) = nI 4 := by rw [b2.at (show ¬ (96 : Nat) = 98 by decide), hH.1, hl]; decide
    have hH' : RMh hs.tail (st N' 96 2 ((N'.1 96 2) - (1 : Int32))) := by
      refine ⟨by rw [st_same, hN2, List.length_tail, hl], by rw [List.length_tail]; omega, fun k U hU => ?_⟩
      rw [List.getElem?_tail] at hU
      have hk : k + 1 < hs.length := by
        rcases Nat.lt_or_ge (k + 1) hs.length with q | q
        · exact q
        · rw [List.getElem?_eq_none q] at hU; cases hU
      obtain ⟨q1, q2⟩ := hH.2.2 (k + 1) U hU
      exact ⟨q1, RMr.copy q1 q2 (fun j hj => by rw [st_row (by omega), b4 (327 * k + j) (by omega) (by omega), show 327 * k + j + 327 = 327 * (k + 1) + j by omega])⟩
    have hR' : RMr V 97 0 (st N' 96 2 ((N'.1 96 2) - (1 : Int32))) := RMr.copy hV hR (fun j hj => by rw [st_row (by omega), b2.at (show ¬ (97 : Nat) = 98 by decide)])
    obtain ⟨M', c1, c2, c3, c4⟩ := rec_fin hH' (by rw [List.length_tail]; omega) hV hR'
    refine ⟨M', b1.trans c1, ((b2.mono (Q := fun i => i = 98 ∨ i = 96) (fun i q => Or.inl q)).tr (Fr.st (Or.inr rfl))).tr c2, fun j hj => ?_, c4⟩
    rw [c3 j hj, st_col hj, b2.at (show ¬ (96 : Nat) = 98 by decide)]
  · rw [if_neg (show ¬ M.1 96 2 = (5 : Int32) from by rw [hH.1, show (5 : Int32) = nI 5 from rfl, nI_eq (by have := hH.2.1; omega) (by omega)]; exact hl), if_neg hl]
    exact rec_fin hH (by have := hH.2.1; omega) hV hR
theorem undo_L {b : Nat} (hb : b < 5) : ∀ (c k fu : Nat) (N : wM), k + c = 327 → c < fu → N.1 96 2 = nI b → ∃ M', fX7_undo_L22 fu (nI k) N = some (nI b, M') ∧ Fr (fun i => i = 97) N M' ∧ (∀ j, j < k → M'.1 97 j = N.1 97 j) ∧ ∀ j, k ≤ j → j < 327 → M'.1 97 j = N.1 98 (327 * b + j)
  | 0, k, fu, N, hkc, hfu, h2 => by
    obtain ⟨fu, rfl⟩ : ∃ z, fu = z + 1 := ⟨fu - 1, by omega⟩
    refine ⟨N, ?_, Fr.rf, fun _ _ => rfl, fun j h1 h2 => absurd h1 (by omega)⟩
    show fX7_undo_B22 _ (nI k) N = _
    unfold fX7_undo_B22
    rw [if_pos (show (327 : Int32) ≤ nI k from (nI_leI (a := 327) (by omega) (by omega)).mpr (by omega)), h2]
  | c + 1, k, fu, N, hkc, hfu, h2 => by
    obtain ⟨fu, rfl⟩ : ∃ z, fu = z + 1 := ⟨fu - 1, by omega⟩
    obtain ⟨M', a1, a2, a3, a4⟩ := undo_L hb c (k + 1) fu (st N 97 k (N.1 98 (327 * b + k))) (by omega) (by omega) (by rw [st_row (by omega), h2])
    refine ⟨M', ?_, (Fr.st (P := fun i => i = 97) rfl).tr a2, fun j hj => by rw [a3 j (by omega), st_col (by omega)], fun j h1 h3 => ?_⟩
    · show fX7_undo_B22 _ (nI k) N = _
      unfold fX7_undo_B22
      rw [if_neg (show ¬ (327 : Int32) ≤ nI k from fun q => absurd ((nI_leI (a := 327) (by omega) (by omega)).mp q) (by omega)), h2, wix, ix_in (by rw [ln98]; omega) (by rw [ln98]; omega), bs, ix_in (by rw [ln97]; omega) (by rw [ln97]; omega), bs, nIp1]
      exact a1
    · rcases Nat.eq_or_lt_of_le h1 with rfl | hlt
      · rw [a3 _ (by omega), st_same]
      · rw [a4 j (by omega) h3, st_row (by omega)]
theorem undo_m {hs : List wV} {V : wV} {M : wM} (hH : RMh (hs ++ [V]) M) : ∃ M', fX7_undo M = some (nI hs.length, M') ∧ Fr (fun i => i = 97 ∨ i = 96) M M' ∧ (∀ j, j ≠ 2 → M'.1 96 j = M.1 96 j) ∧ RMh hs M' ∧ RMr V 97 0 M' := by
  obtain ⟨h1, h2, h3⟩ := hH
  have hlen : (hs ++ [V]).length = hs.length + 1 := by simp
  rw [hlen] at h1 h2
  have hV := h3 hs.length V (by simp)
  have e2 : (M.1 96 2) - (1 : Int32) = nI hs.length := by rw [h1, nIm1 (by omega), Nat.add_sub_cancel]
  obtain ⟨M', a1, a2, a3, a4⟩ := undo_L (b := hs.length) (by omega) 327 0 FU (st M 96 2 ((M.1 96 2) - (1 : Int32))) (by omega) (by unfold FU; omega) (by rw [st_same, e2])
  refine ⟨M', ?_, (Fr.st (P := fun i => i = 97 ∨ i = 96) (Or.inr rfl)).tr (a2.mono (fun i q => Or.inl q)), fun j hj => by rw [a2.at (show ¬ (96 : Nat) = 97 by decide), st_col hj], ⟨by rw [a2.at (show ¬ (96 : Nat) = 97 by decide), st_same, e2], by omega, fun k U hU => ?_⟩, RMr.copy hV.1 hV.2 (fun j hj => by rw [Nat.zero_add, a4 j (by omega) hj, st_row (by omega)])⟩
  · unfold fX7_undo
    rw [if_neg (show ¬ M.1 96 2 = (0 : Int32) from by rw [h1]; exact nI_ne0 (by omega) (by omega))]
    exact a1
  · have hk : k < hs.length := by
      rcases Nat.lt_or_ge k hs.length with q | q
      · exact q
      · rw [List.getElem?_eq_none q] at hU; cases hU
    obtain ⟨q1, q2⟩ := h3 k U (by rw [List.getElem?_append_left hk]; exact hU)
    exact ⟨q1, RMr.copy q1 q2 (fun j hj => by rw [a2.at (show ¬ (98 : Nat) = 97 by decide), st_row (by omega)])⟩
theorem undo_m0 {M : wM} (hH : RMh [] M) : fX7_undo M = some ((-2000000002 : Int32), M) := by
  unfold fX7_undo
  rw [if_pos (show M.1 96 2 = (0 : Int32) from hH.1)]
/-! ranges -/
def inR (x a b : Int32) : Bool := decide (a ≤ x) && decide (x ≤ b)
theorem inR_iff {x a b : Int32} : inR x a b = true ↔ a ≤ x ∧ x ≤ b := by simp [inR]
theorem within_c {x a b : Int32} {M : wM} : fX6_within x a b M = some (inR x a b) := by
  unfold fX6_within inR
  by_cases h1 : x < a
  · rw [if_pos h1, decide_eq_false (Int32.not_le.mpr h1), Bool.false_and]
  · rw [if_neg h1, decide_eq_true (Int32.not_lt.mp h1), Bool.true_and]
    by_cases h2 : b < x
    · rw [if_pos h2, decide_eq_false (Int32.not_le.mpr h2)]
    · rw [if_neg h2, decide_eq_true (Int32.not_lt.mp h2)]
theorem in_m {x a b : Int32} {M : wM} : fX7_in x a b M = some (inR x a b) := by
  unfold fX7_in inR
  by_cases h1 : x < a
  · rw [if_pos h1, decide_eq_false (Int32.not_le.mpr h1), Bool.false_and]
  · rw [if_neg h1, decide_eq_true (Int32.not_lt.mp h1), Bool.true_and]
    by_cases h2 : b < x
    · rw [if_pos h2, decide_eq_false (Int32.not_le.mpr h2)]
    · rw [if_neg h2, decide_eq_true (Int32.not_lt.mp h2)]
theorem b2i {α : Type} {b : Bool} {A B : α} : (if b2 b = (0 : Int32) then A else B) = if b then B else A := by cases b <;> rfl
def okR (t p c : Int32) : Bool := inR t 0 10000 && inR p 50000 110000 && inR c (-300) 500
theorem isReading_c {t p c : Int32} {M : wM} : fX6_isReading t p c M = some (okR t p c) := by
  unfold fX6_isReading fX6_isTime fX6_isTemperature okR
  simp only [within_c, bs, b2i]
  cases inR t 0 10000 <;> cases inR p 50000 110000 <;> cases inR c (-300) 500 <;> rfl
theorem areValues_m {t p c : Int32} {M : wM} : fX7_areValues t p c M = some (okR t p c) := by
  unfold fX7_areValues okR
  simp only [in_m, bs, b2i]
  cases inR t 0 10000 <;> cases inR p 50000 110000 <;> cases inR c (-300) 500 <;> rfl
theorem isCell_c {x : Int32} {M : wM} : fX6_isCell x M = some (inR x 0 2) := by
  unfold fX6_isCell
  simp only [within_c, bs]
theorem isCell_m {x : Int32} {M : wM} : fX7_isCell x M = some (inR x 0 2) := by
  unfold fX7_isCell
  simp only [in_m, bs]
theorem isPoint_c {x : Int32} {M : wM} : fX6_isPoint x M = some (inR x 0 9) := by
  unfold fX6_isPoint
  simp only [within_c, bs]
def okS (k v : Int32) : Bool := if k = 0 then inR v (-500000) 9000000 else if k = 1 then inR v 1 5000 else if k = 2 then inR v 1 500 else false
theorem isSetting_c {k v : Int32} {M : wM} : fX6_isSetting k v M = some (okS k v) := by
  unfold fX6_isSetting okS
  simp only [within_c, bs]
  split
  · rfl
  · split
    · rfl
    · split <;> rfl
theorem isSetting_m {k v : Int32} {M : wM} : fX7_isSetting k v M = some (okS k v) := by
  unfold fX7_isSetting okS
  simp only [in_m, bs]
  split
  · rfl
  · split
    · rfl
    · split <;> rfl
theorem cell_of {x : Int32} (h : inR x 0 2 = true) : ∃ c : Nat, c < 3 ∧ x = nI c := by
  obtain ⟨h1, h2⟩ := inR_iff.mp h
  obtain ⟨j, hj, e⟩ := nI_of2 (x := x) (M := 2) (n := 2) (by decide) (Int32.not_lt.mpr h1) h2
  exact ⟨j, by omega, e⟩

/-! looks: the same for the reference -/
theorem isSome_hgt {V : wV} {t p c : Int32} : (hgt V t p c).isSome = hasB V t := by
  unfold hgt
  cases hasB V t <;> rfl
theorem RMr.keep {V : wV} {M M2 : wM} (h : RMr V 97 0 M) (e : M2.1 97 = M.1 97) : RMr V 97 0 M2 := ⟨fun k hk => by rw [e]; exact h.1 k hk, fun w hw => by rw [e]; exact h.2 w hw⟩
def FrL (P : Nat → Prop) (M M' : wM) : Prop := Fr (fun i => i = 96 ∨ (102 ≤ i ∧ i < 106)) M M' ∧ (∀ j, ¬ P j → M'.1 96 j = M.1 96 j) ∧ M'.2 96 = M.2 96
theorem FrL.rf {P : Nat → Prop} {M : wM} : FrL P M M := ⟨Fr.rf, fun _ _ => rfl, rfl⟩
theorem FrL.tr {P : Nat → Prop} {M M' M'' : wM} (h : FrL P M M') (h2 : FrL P M' M'') : FrL P M M'' := ⟨h.1.tr h2.1, fun j hj => (h2.2.1 j hj).trans (h.2.1 j hj), h2.2.2.trans h.2.2⟩
theorem FrL.wr {P : Nat → Prop} {M : wM} {a k : Nat} {v : Int32} (ha : 102 ≤ a ∧ a < 106) : FrL P M (st M a k v) := ⟨Fr.st (Or.inr ha), fun j hj => by rw [st_row (by omega)], rfl⟩
theorem FrL.w96 {P : Nat → Prop} {M : wM} {k : Nat} {v : Int32} (h : P k) : FrL P M (st M 96 k v) := ⟨Fr.st (P := fun i => i = 96 ∨ (102 ≤ i ∧ i < 106)) (Or.inl rfl), fun j hj => st_col (fun q => hj (q ▸ h)), rfl⟩
theorem Fr96.L {P Q : Nat → Prop} {M M' : wM} (h : Fr96 P M M') (hPQ : ∀ j, P j → Q j) : FrL Q M M' := ⟨h.1.mono (fun i q => Or.inl q), fun j hj => h.2.1 j (fun q => hj (hPQ j q)), h.2.2⟩
def pL (j : Nat) : Prop := j = 14 ∨ j = 15 ∨ j = 16
theorem FrL.e97 {P : Nat → Prop} {M M' : wM} (h : FrL P M M') : M'.1 97 = M.1 97 := (h.1 97 (by omega)).1
theorem ln103 : ln 103 = 20 := rfl
theorem ln102 : ln 102 = 20 := rfl
theorem ln104 : ln 104 = 20 := rfl
theorem ln105 : ln 105 = 20 := rfl
def gR (V : wV) (w r : Nat) : Int32 := if go V w r then hI (hh V w r) else 0
def rowsK (V : wV) (w k : Nat) (M : wM) : Prop := ∀ r, r < k → M.1 103 r = b2 (go V w r) ∧ M.1 102 r = gR V w r
def LK (V : wV) (w : Nat) (M : wM) : Prop := M.1 96 14 = nI (lpL V w).length ∧ lpRows (lpL V w) 104 105 M ∧ rowsK V w (V.2.1 w) M
section LKS
variable {V : wV} {w : Nat}
theorem look_L96 {r : Nat} {bk7 : Int32 → wM → Option wM} {N : wM} (hV : OkV V) (hw : w < 4) (hR : RMr V 97 0 N) (hr : r < V.2.1 w) (hg : ∀ b, b < r → N.1 103 b = b2 (go V w b)) : ∀ (k fu : Nat), k ≤ r → k < fu → fX7_looks_L96 (nI w) bk7 fu (nI r) (nI k - 1) N = fX7_looks_J134 (nI w) bk7 (nI r) (oI (dnF (fun b => go V w b && decide (V.2.2 w 3 b = V.2.2 w 3 r)) k)) N
  | 0, fu, hkr, hfu => by
    obtain ⟨fu, rfl⟩ : ∃ z, fu = z + 1 := ⟨fu - 1, by omega⟩
    show fX7_looks_B96 (nI w) bk7 _ _ _ N = _
    unfold fX7_looks_B96
    rw [if_pos (show nI 0 - 1 < (0 : Int32) from by decide)]
    rfl
  | k + 1, fu, hkr, hfu => by
    obtain ⟨fu, rfl⟩ : ∃ z, fu = z + 1 := ⟨fu - 1, by omega⟩
    have hn := hV.n hw
    show fX7_looks_B96 (nI w) bk7 _ _ _ N = _
    unfold fX7_looks_B96
    have hd : nI k + (-1 : Int32) = nI k - 1 := by
      rcases Nat.eq_zero_or_pos k with rfl | h
      · decide
      · rw [nId1 h, nIm1 h]
    rw [nIm1 (by omega), Nat.add_sub_cancel, if_neg (nI_pos (by omega)), ix_in (by rw [ln103]; omega) (by rw [ln103]; omega), bs, hg k (by omega)]
    unfold dnF
    cases h : go V w k
    · rw [if_pos (show b2 false = 0 from rfl), hd, look_L96 hV hw hR hr hg k fu (by omega) (by omega)]
      simp
    · rw [if_neg (show ¬ b2 true = 0 from by decide), of3 hw (hR.D hw) hn (by omega), bs, of3 hw (hR.D hw) hn hr, bs]
      by_cases e : V.2.2 w 3 k = V.2.2 w 3 r
      · rw [if_pos e]
        simp [e, oI]
      · rw [if_neg e, hd, look_L96 hV hw hR hr hg k fu (by omega) (by omega)]
        simp [e]
/-- from J52 on: the good one is told, its height, its loop -/
theorem look_J52 {r : Nat} {bk7 : Int32 → wM → Option wM} {N : wM} (hV : OkV V) (hw : w < 4) (hR : RMr V 97 0 N) (hr : r < V.2.1 w) (h14 : N.1 96 14 = nI (lps V w r).length) (hL : lpRows (lps V w r) 104 105 N) (hK : rowsK V w r N) (hB : go V w r = true → N.1 96 15 = Int32.ofInt (bv V 1 (V.2.2 w 0 r)) ∧ N.1 96 16 = Int32.ofInt (bv V 2 (V.2.2 w 0 r))) :
    ∃ M', fX7_looks_J52 (nI w) bk7 (nI r) (nI r) (b2 (go V w r)) N = bk7 (nI (r + 1)) M' ∧ FrL pL N M' ∧ M'.1 96 14 = nI (lps V w (r + 1)).length ∧ lpRows (lps V w (r + 1)) 104 105 M' ∧ rowsK V w (r + 1) M' := by
  have hn := hV.n hw
  have hlen := lps_len (V := V) (w := w) r
  have d := hV.r hw hr
  have i103 : ix (nI r) (ln 103) = some r := ix_in (by rw [ln103]; omega) (by rw [ln103]; omega)
  have i102 : ix (nI r) (ln 102) = some r := ix_in (by rw [ln102]; omega) (by rw [ln102]; omega)
  have vn : ∀ b : Bool, vp_nar .boolean (b2 b) = b2 b := fun b => by cases b <;> rfl
  -- the memory with both told
  have mem : ∃ N2, N2 = st (st N 103 r (b2 (go V w r))) 102 r (gR V w r) := ⟨_, rfl⟩
  obtain ⟨N2, hN2⟩ := mem
  have f2 : FrL pL N N2 := by rw [hN2]; exact (FrL.wr (by omega)).tr (FrL.wr (by omega))
  have k2 : rowsK V w (r + 1) N2 := fun q hq => by
    rw [hN2]
    rcases Nat.eq_or_lt_of_le (show q ≤ r by omega) with e | h
    · rw [e, st_row (show (103 : Nat) ≠ 102 by decide), st_same, st_same]; exact ⟨rfl, rfl⟩
    · rw [st_row (show (103 : Nat) ≠ 102 by decide), st_col (by omega), st_col (by omega), st_row (show (102 : Nat) ≠ 103 by decide)]
      exact hK q h
  have l2 : lpRows (lps V w r) 104 105 N2 := fun k x hx => by
    rw [hN2, st_row (show (104 : Nat) ≠ 102 by decide), st_row (show (104 : Nat) ≠ 103 by decide), st_row (show (105 : Nat) ≠ 102 by decide), st_row (show (105 : Nat) ≠ 103 by decide)]
    exact hL k x hx
  have h14b : N2.1 96 14 = nI (lps V w r).length := by rw [hN2, st_row (by omega), st_row (by omega), h14]
  have R2 : RMr V 97 0 N2 := hR.keep f2.e97
  have key : ∃ M', fX7_looks_L96 (nI w) bk7 FU (nI r) (nI r - 1) N2 = bk7 (nI (r + 1)) M' ∧ FrL pL N M' ∧ M'.1 96 14 = nI (lps V w (r + 1)).length ∧ lpRows (lps V w (r + 1)) 104 105 M' ∧ rowsK V w (r + 1) M' := by
    rw [look_L96 hV hw R2 hr (fun b hb => (k2 b (by omega)).1) r FU (Nat.le_refl _) (by unfold FU; omega)]
    rw [show dnF (fun b => go V w b && decide (V.2.2 w 3 b = V.2.2 w 3 r)) r = lastV V w r from rfl]
    unfold fX7_looks_J134
    rw [i103, bs, (k2 r (by omega)).1, nIp1]
    cases hg : go V w r
    · have e2 : lps V w (r + 1) = lps V w r := by
        show lps V w r ++ lpAt V w r = _
        unfold lpAt; rw [hg]; simp
      rw [if_pos (show b2 false = 0 from rfl), e2]
      exact ⟨N2, rfl, f2, h14b, l2, k2⟩
    · rw [if_neg (show ¬ b2 true = 0 from by decide)]
      cases hl : lastV V w r with
      | none =>
        have e2 : lps V w (r + 1) = lps V w r := by
          show lps V w r ++ lpAt V w r = _
          unfold lpAt; rw [hg, hl]; simp
        rw [if_pos (show oI none < 0 from by decide), e2]
        exact ⟨N2, rfl, f2, h14b, l2, k2⟩
      | some b =>
        have hb := dnF_lt hl
        have e2 : lps V w (r + 1) = lps V w r ++ [(b, r)] := by
          show lps V w r ++ lpAt V w r = _
          unfold lpAt; rw [hg, hl]; simp
        rw [if_neg (show ¬ oI (some b) < 0 from nI_pos (by omega)), h14b, ix_in (by rw [ln104]; omega) (by rw [ln104]; omega), bs, st_row (show (96 : Nat) ≠ 104 by decide), h14b, ix_in (by rw [ln105]; omega) (by rw [ln105]; omega), bs, st_row (show (96 : Nat) ≠ 105 by decide), st_row (show (96 : Nat) ≠ 104 by decide), h14b, nIp1, e2, show oI (some b) = nI b from rfl]
        refine ⟨_, rfl, ((f2.tr (FrL.wr (by omega))).tr (FrL.wr (by omega))).tr (FrL.w96 (Or.inl rfl)), ?_, ?_, ?_⟩
        · rw [st_same]; simp
        · refine lpRows_add l2 ?_ ?_ (fun j hj => ⟨?_, ?_⟩)
          · rw [st_row (by omega), st_row (by omega), st_same]
          · rw [st_row (by omega), st_same]
          · rw [st_row (by omega), st_row (by omega), st_col hj]
          · rw [st_row (by omega), st_col hj, st_row (by omega)]
        · intro q hq
          rw [st_row (show (103 : Nat) ≠ 96 by decide), st_row (show (103 : Nat) ≠ 105 by decide), st_row (show (103 : Nat) ≠ 104 by decide), st_row (show (102 : Nat) ≠ 96 by decide), st_row (show (102 : Nat) ≠ 105 by decide), st_row (show (102 : Nat) ≠ 104 by decide)]
          exact k2 q hq
  unfold fX7_looks_J52
  rw [i103, bs, bs, vn, st_same]
  unfold fX7_looks_J91
  have e97 : ∀ (x : Int32), (st N 103 r x).1 97 = N.1 97 := fun x => st_row (by omega)
  cases hg : go V w r
  · rw [if_pos (show b2 false = 0 from rfl), i102, bs]
    rw [hg, show gR V w r = 0 from by unfold gR; rw [hg]; rfl] at hN2
    rw [← hN2]
    exact key
  · have hb : hasB V (V.2.2 w 0 r) = true := by
      rw [← isSome_hgt (p := V.2.2 w 1 r) (c := V.2.2 w 2 r)]
      unfold go at hg
      simp at hg
      exact hg.1
    obtain ⟨B1, B2⟩ := hB hg
    rw [if_neg (show ¬ b2 true = 0 from by decide), of1 hw ((hR.keep (e97 _)).D hw) hn hr, bs, of2 hw ((hR.keep (e97 _)).D hw) hn hr, bs, rawOf_m (t := V.2.2 w 0 r) hV hb (by rw [e97]; exact hR.S (k := 0) (by omega)) (by rw [st_row (by omega)]; exact B1) (by rw [st_row (by omega)]; exact B2) d.2.1 d.2.2, bs, i102, bs]
    rw [hg, show gR V w r = hI (hgt V (V.2.2 w 0 r) (V.2.2 w 1 r) (V.2.2 w 2 r)) from by unfold gR; rw [hg]; rfl] at hN2
    rw [← hN2]
    exact key
theorem look_L7 (hV : OkV V) (hw : w < 4) : ∀ (c k fu : Nat) (N : wM), k + c = V.2.1 w → c < fu → RMr V 97 0 N → N.1 96 14 = nI (lps V w k).length → lpRows (lps V w k) 104 105 N → rowsK V w k N → ∃ M', fX7_looks_L7 (nI w) fu (nI k) N = some M' ∧ FrL pL N M' ∧ LK V w M'
  | 0, k, fu, N, hkc, hfu, hR, h14, hL, hK => by
    obtain ⟨fu, rfl⟩ : ∃ z, fu = z + 1 := ⟨fu - 1, by omega⟩
    have hn := hV.n hw
    have ek : k = V.2.1 w := by omega
    subst ek
    refine ⟨N, ?_, FrL.rf, h14, hL, hK⟩
    show fX7_looks_B7 (nI w) _ (nI _) N = _
    unfold fX7_looks_B7
    rw [cnt_ix hw, bs, (hR.D hw).1, if_pos ((nI_leI (by omega) (by omega)).mpr (Nat.le_refl _))]
  | c + 1, k, fu, N, hkc, hfu, hR, h14, hL, hK => by
    obtain ⟨fu, rfl⟩ : ∃ z, fu = z + 1 := ⟨fu - 1, by omega⟩
    have hn := hV.n hw
    have hkn : k < V.2.1 w := by omega
    have fin : ∀ (N1 : wM), FrL pL N N1 → N1.1 96 14 = N.1 96 14 → (∀ i, 102 ≤ i → i < 106 → N1.1 i = N.1 i) → (go V w k = true → N1.1 96 15 = Int32.ofInt (bv V 1 (V.2.2 w 0 k)) ∧ N1.1 96 16 = Int32.ofInt (bv V 2 (V.2.2 w 0 k))) → ∃ M', fX7_looks_J52 (nI w) (fX7_looks_L7 (nI w) fu) (nI k) (nI k) (b2 (go V w k)) N1 = some M' ∧ FrL pL N M' ∧ LK V w M' := fun N1 f1 e14 eR hB => by
      obtain ⟨M2, a1, a2, a3, a4, a5⟩ := look_J52 (bk7 := fX7_looks_L7 (nI w) fu) hV hw (hR.keep f1.e97) hkn (by rw [e14]; exact h14) (fun j x hx => by rw [eR 104 (by omega) (by omega), eR 105 (by omega) (by omega)]; exact hL j x hx) (fun q hq => by rw [eR 103 (by omega) (by omega), eR 102 (by omega) (by omega)]; exact hK q hq) hB
      obtain ⟨M3, b1, b2, b3⟩ := look_L7 hV hw c (k + 1) fu M2 (by omega) (by omega) (hR.keep ((f1.tr a2).e97)) a3 a4 a5
      exact ⟨M3, a1.trans b1, (f1.tr a2).tr b2, b3⟩
    show ∃ M', fX7_looks_B7 (nI w) _ (nI k) N = _ ∧ _
    unfold fX7_looks_B7
    rw [cnt_ix hw, bs, (hR.D hw).1, if_neg (by rw [nI_leI (by omega) (by omega)]; omega), isGust_d hw (hR.D hw) hn hkn (hR.S (k := 1) (by omega)), bs, show gustF (V.2.1 w) (V.2.2 w) (V.1 1) k = gu V w k from rfl]
    cases hg : gu V w k
    · rw [if_pos (show b2 false = 0 from rfl), of0 hw (hR.D hw) hn hkn, bs]
      obtain ⟨N1, c1, c2, c3⟩ := hasBase_m (t := V.2.2 w 0 k) hV (hR.D (w := 0) (by omega))
      have ego : go V w k = hasB V (V.2.2 w 0 k) := by
        unfold go hh
        rw [hg, isSome_hgt]; simp
      have base := fin N1 (c2.L (fun j q => by unfold pBP at q; unfold pL; omega)) (c2.2.1 14 (by unfold pBP; omega)) (fun i h1 h2 => (c2.1 i (by omega)).1) (fun q => c3 (by rw [← ego]; exact q))
      rw [c1, bs]
      cases hb : hasB V (V.2.2 w 0 k)
      · rw [if_pos (show b2 (false, N1).1 = 0 from rfl)]
        rw [ego, hb] at base
        exact base
      · rw [if_neg (show ¬ b2 (true, N1).1 = 0 from (by decide : ¬ b2 true = 0))]
        rw [ego, hb] at base
        exact base
    · have ego : go V w k = false := by unfold go; rw [hg]; simp
      rw [if_neg (show ¬ b2 true = 0 from by decide)]
      have base := fin N FrL.rf rfl (fun _ _ _ => rfl) (fun q => by rw [ego] at q; cases q)
      rw [ego] at base
      exact base
theorem looks_m {M : wM} (hV : OkV V) (hw : w < 4) (hR : RMr V 97 0 M) : ∃ M', fX7_looks (nI w) M = some M' ∧ FrL pL M M' ∧ LK V w M' := by
  have hn := hV.n hw
  obtain ⟨M', a1, a2, a3⟩ := look_L7 hV hw (V.2.1 w) 0 FU (st M 96 14 0) (by omega) (by unfold FU; omega) (hR.keep (st_row (by omega))) (by rw [st_same]; rfl) (fun k x hx => by cases hx) (fun r hr => absurd hr (by omega))
  exact ⟨M', a1, (FrL.w96 (Or.inl rfl)).tr a2, a3⟩
end LKS

def SV3 (V : wV) (w v : Nat) (M : wM) : Prop := SV1 V w v M ∧ M.1 v 11 = nI (lpL V w).length ∧ lpRows (lpL V w) (v + 7) (v + 8) M
def oV (V : wV) (w r : Nat) : Int32 := if go V w r then oI (opn V w r) else -1
def cV (V : wV) (w r : Nat) : Int32 := if go V w r then cor V w r else -2000000004
def SVF (V : wV) (w v : Nat) (M : wM) : Prop := SV3 V w v M ∧ M.1 v 9 = nI (cntF (gu V w) (V.2.1 w)) ∧ M.1 v 10 = nI (cntF (go V w) (V.2.1 w)) ∧ ∀ r, r < V.2.1 w → M.1 (v + 5) r = oV V w r ∧ M.1 (v + 6) r = cV V w r
theorem SV3.keep {V : wV} {w v : Nat} {M M2 : wM} (h : SV3 V w v M) (h8 : M2.1 v = M.1 v) (hf : ∀ i, v + 1 ≤ i → i < v + 5 → M2.1 i = M.1 i) (h7 : M2.1 (v + 7) = M.1 (v + 7)) (h7b : M2.1 (v + 8) = M.1 (v + 8)) : SV3 V w v M2 :=
  ⟨h.1.keep (by rw [h8]) hf, by rw [h8]; exact h.2.1, fun k x hx => by rw [h7, h7b]; exact h.2.2 k x hx⟩
section SW
variable {V : wV} {w v : Nat} {M : wM}
theorem begin_v {k : Nat} (hk : kd v = 3) (hn : V.2.1 w ≤ 20) (hS : SV3 V w v M) (h : k < (lpL V w).length) : fX3_begin v (nI k) M = some (nI (lb V w k)) := by
  have hl := lpL_len (V := V) (w := w)
  unfold fX3_begin
  rw [at_in (by rw [lkf3_6 hk]; omega), bs, (hS.2.2 k _ (lpL_k h)).1]
theorem end_v {k : Nat} (hk : kd v = 3) (hn : V.2.1 w ≤ 20) (hS : SV3 V w v M) (h : k < (lpL V w).length) : fX3_end v (nI k) M = some (nI (le2 V w k)) := by
  have hl := lpL_len (V := V) (w := w)
  unfold fX3_end
  rw [at_in (by rw [lkf3_7 hk]; omega), bs, (hS.2.2 k _ (lpL_k h)).2]
theorem raw_v {r : Nat} (hk : kd v = 3) (hn : V.2.1 w ≤ 20) (hS : SV1 V w v M) (h : r < V.2.1 w) : fX3_rawHeight v (nI r) M = some (hI (hh V w r)) := by
  unfold fX3_rawHeight
  rw [at_in (by rw [lkf3_2 hk]; omega), bs, (hS.2 r h).2.2.1]
theorem time_v {r : Nat} (hk : kd v = 3) (hn : V.2.1 w ≤ 20) (hS : SV1 V w v M) (h : r < V.2.1 w) : fX6_at (v + 1) (nI r) M = some (V.2.2 w 0 r) := by
  rw [at_in (by rw [lkf3_0 hk]; omega), (hS.2 r h).1]
theorem minutes_v {k : Nat} (hk : kd v = 3) (hn : V.2.1 w ≤ 20) (hS : SV3 V w v M) (h : k < (lpL V w).length) : fX3_minutes v (nI k) M = some (mn V w k) := by
  obtain ⟨h1, h2, -, -⟩ := lpL_in h
  unfold fX3_minutes
  rw [end_v hk hn hS h, bs, time_v hk hn hS.1 h2, bs, begin_v hk hn hS h, bs, time_v hk hn hS.1 (by omega), bs]
  rfl
theorem mis_v {k : Nat} (hk : kd v = 3) (hn : V.2.1 w ≤ 20) (hS : SV3 V w v M) (h : k < (lpL V w).length) : fX3_misclosure v (nI k) M = some (mis V w k) := by
  obtain ⟨h1, h2, -, -⟩ := lpL_in h
  unfold fX3_misclosure
  rw [end_v hk hn hS h, bs, raw_v hk hn hS.1 h2, bs, begin_v hk hn hS h, bs, raw_v hk hn hS.1 (by omega), bs]
  rfl
theorem oI_ne {j : Nat} (h : j < 2 ^ 31) : ¬ oI (some j) = -1 := fun q => by
  have q3 := congrArg Int32.toInt (show nI j = -1 from q)
  rw [nI_toInt h, show (-1 : Int32).toInt = -1 from by decide] at q3
  omega
theorem short_L {r : Nat} (hk : kd v = 3) (hn : V.2.1 w ≤ 20) (hS : SV3 V w v M) (hr : r < V.2.1 w) : ∀ (c k fu : Nat) (best : Option Nat), k + c = (lpL V w).length → c < fu → (∀ j, best = some j → j < k) → fX3_shortestLoop_L14 v (nI r) M fu (oI best) (nI k) = some (oI (foldF (opS V w r) k c best))
  | 0, k, fu, best, hkc, hfu, hb => by
    obtain ⟨fu, rfl⟩ : ∃ z, fu = z + 1 := ⟨fu - 1, by omega⟩
    have hl := lpL_len (V := V) (w := w)
    show fX3_shortestLoop_B14 v (nI r) M _ _ _ = _
    unfold fX3_shortestLoop_B14
    rw [hS.2.1, if_pos ((nI_leI (by omega) (by omega)).mpr (by omega))]
    rfl
  | c + 1, k, fu, best, hkc, hfu, hb => by
    obtain ⟨fu, rfl⟩ : ∃ z, fu = z + 1 := ⟨fu - 1, by omega⟩
    have hl := lpL_len (V := V) (w := w)
    have hkl : k < (lpL V w).length := by omega
    obtain ⟨h1, h2, -, -⟩ := lpL_in hkl
    have ih := fun (b2 : Option Nat) (hb2 : ∀ j, b2 = some j → j < k + 1) => short_L hk hn hS hr c (k + 1) fu b2 (by omega) (by omega) hb2
    show fX3_shortestLoop_B14 v (nI r) M _ _ _ = _
    unfold fX3_shortestLoop_B14
    rw [hS.2.1, if_neg (by rw [nI_leI (by omega) (by omega)]; omega), begin_v hk hn hS hkl, bs]
    unfold fX3_shortestLoop_J45
    simp only [nIp1]
    rw [show foldF (opS V w r) k (c + 1) best = foldF (opS V w r) (k + 1) c (opS V w r best k) from rfl]
    have keepB : ∀ j, best = some j → j < k + 1 := fun j hj => by have := hb j hj; omega
    by_cases c1 : r < lb V w k
    · have e : opS V w r best k = best := by
        unfold opS
        rw [decide_eq_false (show ¬ lb V w k ≤ r by omega)]
        simp
      rw [if_pos ((nI_ltI (by omega) (by omega)).mpr c1), if_pos trivial, ih best keepB, e]
    · rw [if_neg (by rw [nI_ltI (by omega) (by omega)]; exact c1), end_v hk hn hS hkl, bs]
      by_cases c2 : le2 V w k < r
      · have e : opS V w r best k = best := by
          unfold opS
          rw [decide_eq_false (show ¬ r ≤ le2 V w k by omega)]
          simp
        rw [if_pos ((nI_ltI (by omega) (by omega)).mpr c2), if_pos trivial, ih best keepB, e]
      · rw [if_neg (by rw [nI_ltI (by omega) (by omega)]; exact c2), if_neg (show ¬ (1 : Int32) = 0 from by decide)]
        cases best with
        | none =>
          have e : opS V w r none k = some k := by
            unfold opS
            rw [decide_eq_true (show lb V w k ≤ r by omega), decide_eq_true (show r ≤ le2 V w k by omega)]
            simp
          rw [if_pos (show oI none = -1 from rfl), show nI k = oI (some k) from rfl, ih (some k) (fun j hj => by cases hj; omega), e]
        | some j =>
          have hj := hb j rfl
          rw [if_neg (oI_ne (by omega)), minutes_v hk hn hS hkl, bs, show oI (some j) = nI j from rfl, minutes_v hk hn hS (by omega), bs]
          by_cases c3 : mn V w k < mn V w j
          · have e : opS V w r (some j) k = some k := by
              unfold opS
              rw [decide_eq_true (show lb V w k ≤ r by omega), decide_eq_true (show r ≤ le2 V w k by omega)]
              simp [c3]
            rw [if_neg (Int32.not_le.mpr c3), show nI k = oI (some k) from rfl, ih (some k) (fun j hj => by cases hj; omega), e]
          · have e : opS V w r (some j) k = some j := by
              unfold opS
              rw [decide_eq_true (show lb V w k ≤ r by omega), decide_eq_true (show r ≤ le2 V w k by omega)]
              simp [c3]
            rw [if_pos (Int32.not_lt.mp c3), show nI j = oI (some j) from rfl, ih (some j) keepB, e]
theorem short_v {r : Nat} (hk : kd v = 3) (hV : OkV V) (hw : w < 4) (hS : SV3 V w v M) (hr : r < V.2.1 w) : fX3_shortestLoop v (nI r) M = some (oV V w r) := by
  have hn := hV.n hw
  have hl := lpL_len (V := V) (w := w)
  unfold fX3_shortestLoop oV
  rw [isGood_v hk hV hw hS.1.2 hr, bs]
  cases hg : go V w r
  · rfl
  · rw [if_neg (show ¬ b2 true = 0 from by decide), if_pos rfl, show (-1 : Int32) = oI none from rfl]
    exact short_L hk hn hS hr (lpL V w).length 0 FU none (by omega) (by unfold FU; omega) (fun j hj => by cases hj)
theorem sub_i (x : Int32) (q : Int64) : (x.toInt64 - q).toInt32 = x - q.toInt32 := by
  rw [Int64.toInt32_sub, Int32.toInt32_toInt64]
theorem drift_v {r : Nat} (hk : kd v = 3) (hV : OkV V) (hw : w < 4) (hS : SV3 V w v M) (hr : r < V.2.1 w) (ho : M.1 (v + 5) r = oV V w r) : fX3_withoutDrift v (nI r) M = some (cV V w r) := by
  have hn := hV.n hw
  have hl := lpL_len (V := V) (w := w)
  unfold fX3_withoutDrift cV
  rw [isGood_v hk hV hw hS.1.2 hr, bs]
  cases hg : go V w r
  · rfl
  · rw [if_neg (show ¬ b2 true = 0 from by decide), if_pos rfl]
    unfold fX3_openLoopOf cor
    rw [at_in (by rw [lkf3_4 hk]; omega), bs, ho, bs]
    unfold oV
    rw [hg, if_pos rfl]
    cases e : opn V w r with
    | none =>
      rw [if_pos (show oI none = -1 from rfl), raw_v hk hn hS.1 hr, bs]
    | some k =>
      have hkl := opn_lt e
      obtain ⟨h1, h2, -, -⟩ := lpL_in hkl
      rw [if_neg (oI_ne (by omega)), time_v hk hn hS.1 hr, bs, show oI (some k) = nI k from rfl, begin_v hk hn hS hkl, bs, time_v hk hn hS.1 (by omega), bs, raw_v hk hn hS.1 hr, bs, mis_v hk hn hS hkl, bs, minutes_v hk hn hS hkl, bs, dd_c (by rw [toI64]; exact mn_pos hV hw hkl), bs, sub_i]
theorem work4_L {j1 : Nat} {x2 : Int32} (hk : kd v = 3) (hV : OkV V) (hw : w < 4) : ∀ (c k fu : Nat) (N : wM), k + c = V.2.1 w → c < fu → SV3 V w v N → (∀ r, r < k → N.1 (v + 5) r = oV V w r ∧ N.1 (v + 6) r = cV V w r) → ∃ M', fX3_workOut_L143 v j1 x2 fu (nI k) N = some M' ∧ Fr (fun i => i = v + 5 ∨ i = v + 6) N M' ∧ ∀ r, r < V.2.1 w → M'.1 (v + 5) r = oV V w r ∧ M'.1 (v + 6) r = cV V w r
  | 0, k, fu, N, hkc, hfu, hS, h56 => by
    obtain ⟨fu, rfl⟩ : ∃ z, fu = z + 1 := ⟨fu - 1, by omega⟩
    have hn := hV.n hw
    refine ⟨N, ?_, Fr.rf, fun r hr => h56 r (by omega)⟩
    show fX3_workOut_B143 v j1 x2 _ (nI k) N = _
    unfold fX3_workOut_B143
    rw [hS.1.1, if_pos ((nI_leI (by omega) (by omega)).mpr (by omega))]
  | c + 1, k, fu, N, hkc, hfu, hS, h56 => by
    obtain ⟨fu, rfl⟩ : ∃ z, fu = z + 1 := ⟨fu - 1, by omega⟩
    have hn := hV.n hw
    have hS1 : SV3 V w v (st N (v + 5) k (oV V w k)) := hS.keep (st_row (by omega)) (fun i h1 h2 => st_row (by omega)) (st_row (by omega)) (st_row (by omega))
    obtain ⟨M', a1, a2, a3⟩ := work4_L (j1 := j1) (x2 := x2) hk hV hw c (k + 1) fu (st (st N (v + 5) k (oV V w k)) (v + 6) k (cV V w k)) (by omega) (by omega) (hS1.keep (st_row (by omega)) (fun i h1 h2 => st_row (by omega)) (st_row (by omega)) (st_row (by omega))) (fun r hr => by
      rw [st_row (show v + 5 ≠ v + 6 by omega)]
      rcases Nat.eq_or_lt_of_le (show r ≤ k by omega) with rfl | h
      · rw [st_same, st_same]; exact ⟨rfl, rfl⟩
      · rw [st_col (by omega), st_col (by omega), st_row (by omega)]
        exact h56 r h)
    refine ⟨M', ?_, ((Fr.st (P := fun i => i = v + 5 ∨ i = v + 6) (Or.inl rfl)).tr (Fr.st (Or.inr rfl))).tr a2, a3⟩
    show fX3_workOut_B143 v j1 x2 _ (nI k) N = _
    unfold fX3_workOut_B143
    rw [hS.1.1, if_neg (by rw [nI_leI (by omega) (by omega)]; omega), short_v hk hV hw hS (by omega), bs, put_in (by rw [lkf3_4 hk]; omega), bs, drift_v hk hV hw hS1 (by omega) (by rw [st_same]), bs, put_in (by rw [lkf3_5 hk]; omega), bs, nIp1]
    exact a1
theorem work1_L {x2 : Int32} (hk : kd v = 3) (hv : 10 ≤ v) (hV : OkV V) (hw : w < 4) : ∀ (c k fu : Nat) (N : wM), k + c = V.2.1 w → c < fu → RC V 1 N → N.1 v 8 = nI (V.2.1 w) → rows1 V w v k N → ∃ M', fX3_workOut_L17 v 1 x2 fu (tk 1 w) (nI k) N = (fX3_countKinds v M').bind (fun M8 => (fX3_findLoops v M8).bind (fun M9 => fX3_workOut_L143 v 1 x2 FU (0 : Int32) M9)) ∧ Fr (fun i => v + 1 ≤ i ∧ i < v + 5) N M' ∧ SV1 V w v M'
  | 0, k, fu, N, hkc, hfu, hR, h8, h1 => by
    obtain ⟨fu, rfl⟩ : ∃ z, fu = z + 1 := ⟨fu - 1, by omega⟩
    have hn := hV.n hw
    have ek : k = V.2.1 w := by omega
    subst ek
    refine ⟨N, ?_, Fr.rf, h8, h1⟩
    show fX3_workOut_B17 v 1 x2 _ _ (nI _) N = _
    unfold fX3_workOut_B17
    rw [h8, if_pos ((nI_leI (by omega) (by omega)).mpr (Nat.le_refl _))]
  | c + 1, k, fu, N, hkc, hfu, hR, h8, h1 => by
    obtain ⟨fu, rfl⟩ : ∃ z, fu = z + 1 := ⟨fu - 1, by omega⟩
    have hn := hV.n hw
    have hkt := kd_tk (show kd 1 = 2 from rfl) hw
    have d := hV.r hw (show k < V.2.1 w by omega)
    have kp : ∀ {A : wM} {a b : Nat} {x : Int32}, v + 1 ≤ a → RC V 1 A → RC V 1 (st A a b x) := fun ha hA => hA.keep (fun i h1 h2 => st_row (by omega))
    have R1 := kp (a := v + 1) (b := k) (x := V.2.2 w 0 k) (by omega) hR
    have R2 := kp (a := v + 2) (b := k) (x := V.2.2 w 3 k) (by omega) R1
    have R3 := kp (a := v + 3) (b := k) (x := hI (hh V w k)) (by omega) R2
    have R4 := kp (a := v + 4) (b := k) (x := b2 (gu V w k)) (by omega) R3
    have row : ∀ r, r < k + 1 → (st (st (st (st N (v + 1) k (V.2.2 w 0 k)) (v + 2) k (V.2.2 w 3 k)) (v + 3) k (hI (hh V w k))) (v + 4) k (b2 (gu V w k))).1 (v + 1) r = V.2.2 w 0 r ∧ (st (st (st (st N (v + 1) k (V.2.2 w 0 k)) (v + 2) k (V.2.2 w 3 k)) (v + 3) k (hI (hh V w k))) (v + 4) k (b2 (gu V w k))).1 (v + 2) r = V.2.2 w 3 r ∧ (st (st (st (st N (v + 1) k (V.2.2 w 0 k)) (v + 2) k (V.2.2 w 3 k)) (v + 3) k (hI (hh V w k))) (v + 4) k (b2 (gu V w k))).1 (v + 3) r = hI (hh V w r) ∧ (st (st (st (st N (v + 1) k (V.2.2 w 0 k)) (v + 2) k (V.2.2 w 3 k)) (v + 3) k (hI (hh V w k))) (v + 4) k (b2 (gu V w k))).1 (v + 4) r = b2 (gu V w r) := fun r hr => by
      have pick : ∀ (A : wM) (a : Nat) (x y : Int32), (r = k → x = y) → (r < k → A.1 a r = y) → (st A a k x).1 a r = y := fun A a x y h2 h3 => by
        rcases Nat.eq_or_lt_of_le (show r ≤ k by omega) with e | h
        · rw [e, st_same]; exact h2 e
        · rw [st_col (by omega)]; exact h3 h
      refine ⟨?_, ?_, ?_, ?_⟩
      · rw [st_row (show v + 1 ≠ v + 4 by omega), st_row (show v + 1 ≠ v + 3 by omega), st_row (show v + 1 ≠ v + 2 by omega)]
        exact pick _ _ _ _ (fun e => by rw [e]) (fun h => (h1 r h).1)
      · rw [st_row (show v + 2 ≠ v + 4 by omega), st_row (show v + 2 ≠ v + 3 by omega)]
        exact pick _ _ _ _ (fun e => by rw [e]) (fun h => by rw [st_row (by omega)]; exact (h1 r h).2.1)
      · rw [st_row (show v + 3 ≠ v + 4 by omega)]
        exact pick _ _ _ _ (fun e => by rw [e]) (fun h => by rw [st_row (by omega), st_row (by omega)]; exact (h1 r h).2.2.1)
      · exact pick _ _ _ _ (fun e => by rw [e]) (fun h => by rw [st_row (by omega), st_row (by omega), st_row (by omega)]; exact (h1 r h).2.2.2)
    obtain ⟨M', a1, a2, a3⟩ := work1_L (x2 := x2) hk hv hV hw c (k + 1) fu _ (by omega) (by omega) R4 (by rw [st_row (by omega), st_row (by omega), st_row (by omega), st_row (by omega), h8]) row
    refine ⟨M', ?_, ((((Fr.st (P := fun i => v + 1 ≤ i ∧ i < v + 5) (by omega)).tr (Fr.st (by omega))).tr (Fr.st (by omega))).tr (Fr.st (by omega))).tr a2, a3⟩
    show fX3_workOut_B17 v 1 x2 _ _ (nI k) N = _
    unfold fX3_workOut_B17
    have hg5 : (st (st (st N (v + 1) k (V.2.2 w 0 k)) (v + 2) k (V.2.2 w 3 k)) (v + 3) k (hI (hh V w k))).1 1 5 = V.1 1 := R3.1 1 (by omega)
    rw [h8, if_neg (by rw [nI_leI (by omega) (by omega)]; omega), tv0 hkt (hR.2 w hw) hn (by omega), bs, tv1 hkt (hR.2 w hw) hn (by omega), bs, tv2 hkt (hR.2 w hw) hn (by omega), bs, put_in (by rw [lkf3_0 hk]; omega), bs, tv3 hkt (R1.2 w hw) hn (by omega), bs, put_in (by rw [lkf3_1 hk]; omega), bs, heightAt_s (show kd 1 = 2 from rfl) hV R2 d.2.1 d.2.2, bs, put_in (by rw [lkf3_2 hk]; omega), bs, show hI (hgt V (V.2.2 w 0 k) (V.2.2 w 1 k) (V.2.2 w 2 k)) = hI (hh V w k) from rfl, hg5, standsOut_t hkt (R3.2 w hw) hn (by omega), bs]
    unfold fX3_workOut_J123
    rw [show gustF (V.2.1 w) (V.2.2 w) (V.1 1) k = gu V w k from rfl]
    cases hg : gu V w k
    · rw [hg] at a1
      rw [if_pos (show b2 false = 0 from rfl), put_in (by rw [lkf3_3 hk]; omega), bs, nIp1]
      exact a1
    · rw [hg] at a1
      rw [if_neg (show ¬ b2 true = 0 from by decide), put_in (by rw [lkf3_3 hk]; omega), bs, nIp1]
      exact a1
theorem workOut_v {x2 : Int32} (hk : kd v = 3) (hv : 10 ≤ v) (hV : OkV V) (hw : w < 4) (hR : RC V 1 M) (ht : fX2_track 1 x2 M = some (tk 1 w)) : ∃ M', fX3_workOut v 1 x2 M = some M' ∧ Fr (inV v) M M' ∧ SVF V w v M' := by
  have hn := hV.n hw
  have hkt := kd_tk (show kd 1 = 2 from rfl) hw
  obtain ⟨M1, a1, a2, a3⟩ := work1_L (x2 := x2) hk hv hV hw (V.2.1 w) 0 FU (st M v 8 (M.1 (tk 1 w) 2)) (by omega) (by unfold FU; omega) (hR.keep (fun i h1 h2 => st_row (by omega))) (by rw [st_same]; exact (hR.2 w hw).1) (fun r hr => absurd hr (by omega))
  obtain ⟨M2, b1, b2, b3, b4, b5⟩ := count_L hk hV hw (V.2.1 w) 0 FU (st (st M1 v 9 0) v 10 0) (by omega) (by unfold FU; omega) ((a3.keep (M2 := st M1 v 9 0) (st_col (by omega)) (fun i h1 h2 => st_row (by omega))).keep (st_col (by omega)) (fun i h1 h2 => st_row (by omega))) (by rw [st_col (by omega), st_same]; rfl) (by rw [st_same]; rfl)
  have S2 : SV1 V w v M2 := ((a3.keep (M2 := st M1 v 9 0) (st_col (by omega)) (fun i h1 h2 => st_row (by omega))).keep (M2 := st (st M1 v 9 0) v 10 0) (st_col (by omega)) (fun i h1 h2 => st_row (by omega))).keep (b3 8 (by omega) (by omega)) (fun i h1 h2 => (b2 i (by omega)).1)
  obtain ⟨M3, c1, c2, c3, c4, c5⟩ := find_L hk hV hw (V.2.1 w) 0 FU (st M2 v 11 0) (by omega) (by unfold FU; omega) (S2.keep (st_col (by omega)) (fun i h1 h2 => st_row (by omega))) (by rw [st_same]; rfl) (fun k x hx => by cases hx)
  have S3 : SV3 V w v M3 := ⟨(S2.keep (M2 := st M2 v 11 0) (st_col (by omega)) (fun i h1 h2 => st_row (by omega))).keep (c3 8 (by omega)) (fun i h1 h2 => (c2 i (by omega)).1), c4, c5⟩
  obtain ⟨M4, d1, d2, d3⟩ := work4_L (j1 := 1) (x2 := x2) hk hV hw (V.2.1 w) 0 FU M3 (by omega) (by unfold FU; omega) S3 (fun r hr => absurd hr (by omega))
  have e9 : M4.1 v 9 = nI (cntF (gu V w) (V.2.1 w)) := by rw [(d2 v (by omega)).1, c3 9 (by omega), st_col (by omega), b4]
  have e10 : M4.1 v 10 = nI (cntF (go V w) (V.2.1 w)) := by rw [(d2 v (by omega)).1, c3 10 (by omega), st_col (by omega), b5]
  have iv : ∀ {P : Nat → Prop} {A B : wM}, Fr P A B → (∀ i, P i → inV v i) → Fr (inV v) A B := fun h hP => h.mono hP
  have hvv : inV v v := by unfold inV; omega
  refine ⟨M4, ?_, ?_, S3.keep (d2 v (by omega)).1 (fun i h1 h2 => (d2 i (by omega)).1) (d2 (v + 7) (by omega)).1 (d2 (v + 8) (by omega)).1, e9, e10, d3⟩
  · unfold fX3_workOut
    rw [ht, bs, gk_ok hkt, bs, show (0 : Int32) = nI 0 from rfl, a1]
    unfold fX3_countKinds fX3_findLoops
    rw [show (0 : Int32) = nI 0 from rfl]
    rw [show (0 : Int32) = nI 0 from rfl] at b1 c1
    rw [b1, bs, c1, bs]
    exact d1
  · refine (((((Fr.st (P := inV v) hvv).tr (iv a2 (fun i q => by unfold inV; omega))).tr ((Fr.st hvv).tr (Fr.st hvv))).tr (iv b2 (fun i q => by unfold inV; omega))).tr ((Fr.st hvv).tr (iv c2 (fun i q => by unfold inV; omega)))).tr (iv d2 (fun i q => by unfold inV; omega))
end SW

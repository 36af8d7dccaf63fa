/-! points: the class -/
theorem SVF.keep {V : wV} {w v : Nat} {M M2 : wM} (h : SVF V w v M) (hf : ∀ i, v ≤ i → i < v + 9 → M2.1 i = M.1 i) : SVF V w v M2 := by
  refine ⟨h.1.keep (hf v (by omega) (by omega)) (fun i h1 h2 => hf i (by omega) (by omega)) (hf _ (by omega) (by omega)) (hf _ (by omega) (by omega)), ?_, ?_, ?_⟩
  · rw [hf v (by omega) (by omega)]; exact h.2.1
  · rw [hf v (by omega) (by omega)]; exact h.2.2.1
  · rw [hf (v + 5) (by omega) (by omega), hf (v + 6) (by omega) (by omega)]; exact h.2.2.2
section PC
variable {V : wV} {w v : Nat} {M : wM}
theorem openOf_v {r : Nat} (hk : kd v = 3) (hn : V.2.1 w ≤ 20) (hS : SVF V w v M) (hr : r < V.2.1 w) : fX3_openLoopOf v (nI r) M = some (oV V w r) := by
  unfold fX3_openLoopOf
  rw [at_in (by rw [lkf3_4 hk]; omega), bs, (hS.2.2.2 r hr).1]
theorem corrH_v {r : Nat} (hk : kd v = 3) (hn : V.2.1 w ≤ 20) (hS : SVF V w v M) (hr : r < V.2.1 w) : fX3_correctedHeight v (nI r) M = some (cV V w r) := by
  unfold fX3_correctedHeight
  rw [at_in (by rw [lkf3_5 hk]; omega), bs, (hS.2.2.2 r hr).2]
theorem ends_v {r : Nat} (hk : kd v = 3) (hn : V.2.1 w ≤ 20) (hS : SVF V w v M) (hr : r < V.2.1 w) (hg : go V w r = true) : fX3_endsOpenLoop v (nI r) M = some (endsO V w r) := by
  have hl := lpL_len (V := V) (w := w)
  unfold fX3_endsOpenLoop endsO
  rw [openOf_v hk hn hS hr, bs]
  unfold oV
  rw [hg, if_pos rfl]
  cases e : opn V w r with
  | none => rw [if_pos (show oI none = -1 from rfl)]
  | some k =>
    have hkl := opn_lt e
    obtain ⟨h1, h2, -, -⟩ := lpL_in hkl
    rw [if_neg (oI_ne (by omega)), show oI (some k) = nI k from rfl, end_v hk hn hS.1 hkl, bs]
    show _ = some (decide (le2 V w k = r))
    by_cases c : le2 V w k = r
    · rw [if_pos ((nI_eq (by omega) (by omega)).mpr c), decide_eq_true c]
    · rw [if_neg (by rw [nI_eq (by omega) (by omega)]; exact c), decide_eq_false c]
theorem addTo_L {p : Int32} (hk : kd v = 3) (hv : v + 9 ≤ 93) (hV : OkV V) (hw : w < 4) : ∀ (c k fu : Nat) (N : wM) (s : wT), k + c = V.2.1 w → c < fu → SVF V w v N → PSc s N → s.2.1 + c < 900 → ∃ M', fX3_addTo_L2 v 93 p fu (nI k) N = some M' ∧ Fr (fun i => i = 93) N M' ∧ PSc (foldF (ptS V w p) k c s) M'
  | 0, k, fu, N, s, hkc, hfu, hS, hP, hs => by
    obtain ⟨fu, rfl⟩ : ∃ z, fu = z + 1 := ⟨fu - 1, by omega⟩
    have hn := hV.n hw
    refine ⟨N, ?_, Fr.rf, hP⟩
    show fX3_addTo_B2 v 93 p _ _ N = _
    unfold fX3_addTo_B2
    rw [hS.1.1.1, if_pos ((nI_leI (by omega) (by omega)).mpr (by omega))]
  | c + 1, k, fu, N, s, hkc, hfu, hS, hP, hs => by
    obtain ⟨fu, rfl⟩ : ∃ z, fu = z + 1 := ⟨fu - 1, by omega⟩
    have hn := hV.n hw
    have hkn : k < V.2.1 w := by omega
    have num := ptS_num (V := V) (w := w) (p := p) (s := s) (r := k)
    have skip : ptS V w p s k = s → ∃ M', fX3_addTo_L2 v 93 p fu (nI (k + 1)) N = some M' ∧ Fr (fun i => i = 93) N M' ∧ PSc (foldF (ptS V w p) k (c + 1) s) M' := fun e => by
      rw [show foldF (ptS V w p) k (c + 1) s = foldF (ptS V w p) (k + 1) c (ptS V w p s k) from rfl, e]
      exact addTo_L hk hv hV hw c (k + 1) fu N s (by omega) (by omega) hS hP (by omega)
    show ∃ M', fX3_addTo_B2 v 93 p _ _ N = _ ∧ _
    unfold fX3_addTo_B2
    rw [hS.1.1.1, if_neg (by rw [nI_leI (by omega) (by omega)]; omega), isGood_v hk hV hw hS.1.1.2 hkn, bs, nIp1]
    cases hg : go V w k
    · rw [if_pos (show b2 false = 0 from rfl)]
      exact skip (by unfold ptS inP; rw [hg]; rfl)
    · rw [if_neg (show ¬ b2 true = 0 from by decide), at_in (by rw [lkf3_1 hk]; omega), bs, (hS.1.1.2 k hkn).2.1]
      by_cases e : V.2.2 w 3 k = p
      · rw [if_pos e, ends_v hk hn hS hkn hg, bs]
        cases he : endsO V w k
        · rw [if_pos (show b2 false = 0 from rfl), corrH_v hk hn hS hkn, bs]
          have ecv : cV V w k = cor V w k := by unfold cV; rw [hg, if_pos rfl]
          have es : ptS V w p s k = adS s (cor V w k) := by unfold ptS inP; rw [hg, he, decide_eq_true e]; rfl
          obtain ⟨N1, a1, a2, a3⟩ := add_c (h := cV V w k) hP (by omega)
          rw [a1, bs]
          obtain ⟨M', b1, b2, b3⟩ := addTo_L hk hv hV hw c (k + 1) fu N1 (ptS V w p s k) (by omega) (by omega) (hS.keep (fun i h1 h2 => (a2 i (by omega)).1)) (by rw [es, ← ecv]; exact a3) (by omega)
          exact ⟨M', b1, a2.tr b2, b3⟩
        · rw [if_neg (show ¬ b2 true = 0 from by decide)]
          exact skip (by unfold ptS inP; rw [hg, he]; simp)
      · rw [if_neg e]
        exact skip (by unfold ptS inP; rw [hg, decide_eq_false e]; simp)
end PC
def sv (c : Nat) : Nat := 66 + 9 * c
theorem surveyOf_c {c : Nat} {M : wM} (hc : c < 3) : fX6_surveyOf (nI c) M = some (sv c) := by
  unfold fX6_surveyOf
  rcases (show c = 0 ∨ c = 1 ∨ c = 2 by omega) with rfl | rfl | rfl <;> rfl
theorem kd_sv {c : Nat} (hc : c < 3) : kd (sv c) = 3 := by
  rcases (show c = 0 ∨ c = 1 ∨ c = 2 by omega) with rfl | rfl | rfl <;> rfl
/-- all three surveys are worked out -/
def SVA (V : wV) (M : wM) : Prop := ∀ c, c < 3 → SVF V (c + 1) (sv c) M
theorem SVA.keep {V : wV} {M M2 : wM} (h : SVA V M) (hf : ∀ i, 66 ≤ i → i < 93 → M2.1 i = M.1 i) : SVA V M2 := fun c hc => (h c hc).keep (fun i h1 h2 => hf i (by unfold sv at h1; omega) (by unfold sv at h2; omega))
theorem gather_c {V : wV} {p : Int32} {M : wM} (hV : OkV V) (hS : SVA V M) : ∃ M', fX6_gather p M = some M' ∧ Fr (fun i => i = 93) M M' ∧ PSc (ptA V p) M' := by
  have step : ∀ (c fu : Nat) (N : wM) (s : wT), c < 3 → SVA V N → PSc s N → s.2.1 ≤ 20 * c → ∃ N', fX6_gather_L9 p (fu + 1) (nI c) N = fX6_gather_L9 p fu (nI (c + 1)) N' ∧ Fr (fun i => i = 93) N N' ∧ PSc (ptW V p (c + 1) s) N' ∧ SVA V N' ∧ (ptW V p (c + 1) s).2.1 ≤ 20 * (c + 1) := fun c fu N s hc hS hP hs => by
    have hn := hV.n (w := c + 1) (by omega)
    obtain ⟨N', a1, a2, a3⟩ := addTo_L (p := p) (kd_sv hc) (by unfold sv; omega) hV (w := c + 1) (by omega) (V.2.1 (c + 1)) 0 FU N s (by omega) (by unfold FU; omega) (hS c hc) hP (by omega)
    have num := ptF_num (V := V) (w := c + 1) (p := p) (c := V.2.1 (c + 1)) (k := 0) (s := s)
    refine ⟨N', ?_, a2, a3, hS.keep (fun i h1 h2 => (a2 i (by omega)).1), by unfold ptW; omega⟩
    show fX6_gather_B9 p _ (nI c) N = _
    unfold fX6_gather_B9
    rw [if_neg (show ¬ (3 : Int32) ≤ nI c from fun q => absurd ((nI_leI (a := 3) (by omega) (by omega)).mp q) (by omega)), surveyOf_c hc, bs, gk_ok (kd_sv hc), bs, nIp1]
    unfold fX3_addTo
    rw [show (0 : Int32) = nI 0 from rfl, a1, bs]
  have f0 : Fr (fun i => i = 93) M (st (stL M 93 0) 93 1 0) := (Fr.stL (P := fun i => i = 93) rfl).tr (Fr.st rfl)
  have p0 : PSc (0, 0, 0, 0) (st (stL M 93 0) 93 1 0) := ⟨by show (stL M 93 0).2 93 = 0; rw [stL_same], by rw [st_same]; rfl, fun q => absurd q (by decide)⟩
  obtain ⟨N1, a1, a2, a3, a4, a5⟩ := step 0 99999 _ (0, 0, 0, 0) (by omega) (hS.keep (fun i h1 h2 => (f0 i (by omega)).1)) p0 (by decide)
  obtain ⟨N2, b1, b2, b3, b4, b5⟩ := step 1 99998 N1 _ (by omega) a4 a3 a5
  obtain ⟨N3, c1, c2, c3, c4, c5⟩ := step 2 99997 N2 _ (by omega) b4 b3 b5
  refine ⟨N3, ?_, ((f0.tr a2).tr b2).tr c2, c3⟩
  unfold fX6_gather fX1_clear
  rw [bs]
  have e : fX6_gather_L9 p FU (0 : Int32) (st (stL M 93 0) 93 1 0) = fX6_gather_L9 p 99997 (nI 3) N3 := by
    rw [show FU = 99999 + 1 from rfl, show (0 : Int32) = nI 0 from rfl]
    exact a1.trans (b1.trans c1)
  rw [e]
  show fX6_gather_B9 p _ (nI 3) N3 = _
  unfold fX6_gather_B9
  rw [if_pos (show (3 : Int32) ≤ nI 3 from by decide)]
/-! points: the reference -/
def FrQ (M M' : wM) : Prop := Fr (fun i => i = 96 ∨ (102 ≤ i ∧ i < 106)) M M' ∧ ∀ j, j < 14 → M'.1 96 j = M.1 96 j
theorem FrQ.rf {M : wM} : FrQ M M := ⟨Fr.rf, fun _ _ => rfl⟩
theorem FrQ.tr {M M' M'' : wM} (h : FrQ M M') (h2 : FrQ M' M'') : FrQ M M'' := ⟨h.1.tr h2.1, fun j hj => (h2.2 j hj).trans (h.2 j hj)⟩
theorem FrQ.w {M : wM} {k : Nat} {v : Int32} (h : 14 ≤ k) : FrQ M (st M 96 k v) := ⟨Fr.st (P := fun i => i = 96 ∨ (102 ≤ i ∧ i < 106)) (Or.inl rfl), fun j hj => st_col (by omega)⟩
theorem FrQ.wL {M : wM} {v : Int64} : FrQ M (stL M 96 v) := ⟨Fr.stL (P := fun i => i = 96 ∨ (102 ≤ i ∧ i < 106)) (Or.inl rfl), fun j hj => rfl⟩
theorem FrL.Q {M M' : wM} (h : FrL pL M M') : FrQ M M' := ⟨h.1, fun j hj => h.2.1 j (by unfold pL; omega)⟩
theorem FrQ.e97 {M M' : wM} (h : FrQ M M') : M'.1 97 = M.1 97 := (h.1 97 (by omega)).1
theorem LK.keep {V : wV} {w : Nat} {M M2 : wM} (h : LK V w M) (h14 : M2.1 96 14 = M.1 96 14) (hf : ∀ i, 102 ≤ i → i < 106 → M2.1 i = M.1 i) : LK V w M2 :=
  ⟨by rw [h14]; exact h.1, fun k x hx => by rw [hf 104 (by omega) (by omega), hf 105 (by omega) (by omega)]; exact h.2.1 k x hx, fun r hr => by rw [hf 103 (by omega) (by omega), hf 102 (by omega) (by omega)]; exact h.2.2 r hr⟩
section PM
variable {V : wV} {w : Nat}
theorem gives_J {p : Int32} {r : Nat} {s : wT} {N : wM} {bk12 : Int32 → wM → Option wM} {bk24 : Int32 → Int32 → wM → Option wM} (hV : OkV V) (hw : w < 4) (hR : RMr V 97 0 N) (hK : LK V w N) (hr : r < V.2.1 w) (hg : go V w r = true) (hP : PSm s N) (hs : s.2.1 < 1000) :
    ∃ M', fX7_gives_J95 p bk12 bk24 (nI w) (nI r) N = bk24 (nI w) (nI (r + 1)) M' ∧ FrQ N M' ∧ (∀ i, i ≠ 96 → M'.1 i = N.1 i) ∧ M'.1 96 14 = N.1 96 14 ∧ PSm (adS s (cor V w r)) M' := by
  obtain ⟨h1, h2, h3⟩ := hP
  unfold fX7_gives_J95
  rw [corr_m hV hw hR hK hr hg, bs, stL_1, h1, h2]
  generalize cor V w r = h
  have fin : ∀ a b : Int32, a = (adS s h).2.2.1 → b = (adS s h).2.2.2 → ∃ M', fX7_gives_J170 p bk12 bk24 (nI w) (nI r) b (st (stL N 96 (s.1 + h.toInt64)) 96 19 a) = bk24 (nI w) (nI (r + 1)) M' ∧ FrQ N M' ∧ (∀ i, i ≠ 96 → M'.1 i = N.1 i) ∧ M'.1 96 14 = N.1 96 14 ∧ PSm (adS s h) M' := fun a b ha hb => by
    unfold fX7_gives_J170
    rw [nIp1, st_col (show (18 : Nat) ≠ 20 by decide), st_col (show (18 : Nat) ≠ 19 by decide), stL_1, h2, nIp1]
    refine ⟨_, rfl, ((FrQ.wL.tr (FrQ.w (by omega))).tr (FrQ.w (by omega))).tr (FrQ.w (by omega)), fun i hi => ?_, ?_, ?_, ?_, fun _ => ⟨?_, ?_⟩⟩
    · rw [st_row hi, st_row hi, st_row hi, stL_1]
    · rw [st_col (by omega), st_col (by omega), st_col (by omega), stL_1]
    · show (stL N 96 (s.1 + h.toInt64)).2 96 = _
      rw [stL_same]; rfl
    · rw [st_same]; rfl
    · rw [st_col (by omega), st_col (by omega), st_same]; exact ha
    · rw [st_col (by omega), st_same]; exact hb
  by_cases e : s.2.1 = 0
  · have e0 : nI s.2.1 = (0 : Int32) := by rw [e]; rfl
    rw [if_pos e0]
    unfold fX7_gives_J141
    rw [st_col (by omega), stL_1, h2, if_pos e0]
    exact fin h h (by unfold adS; simp [e]) (by unfold adS; simp [e])
  · have e1 : ¬ nI s.2.1 = (0 : Int32) := nI_ne0 (by omega) (by omega)
    obtain ⟨g1, g2⟩ := h3 (by omega)
    rw [if_neg e1, g1]
    unfold fX7_gives_J141
    have a18 : ∀ x : Int32, (st (stL N 96 (s.1 + h.toInt64)) 96 19 x).1 96 18 = nI s.2.1 := fun x => by rw [st_col (by omega), stL_1, h2]
    have a20 : ∀ x : Int32, (st (stL N 96 (s.1 + h.toInt64)) 96 19 x).1 96 20 = s.2.2.2 := fun x => by rw [st_col (by omega), stL_1, g2]
    by_cases c1 : h < s.2.2.1 <;> by_cases c2 : s.2.2.2 < h
    · rw [if_neg (Int32.not_le.mpr c1), a18, if_neg e1, a20, if_neg (Int32.not_le.mpr c2)]
      exact fin _ _ (by unfold adS; simp [e, c1]) (by unfold adS; simp [e, c2])
    · rw [if_neg (Int32.not_le.mpr c1), a18, if_neg e1, a20, if_pos (Int32.not_lt.mp c2)]
      exact fin _ _ (by unfold adS; simp [e, c1]) (by unfold adS; simp [e, c2])
    · rw [if_pos (Int32.not_lt.mp c1), a18, if_neg e1, a20, if_neg (Int32.not_le.mpr c2)]
      exact fin _ _ (by unfold adS; simp [e, c1]) (by unfold adS; simp [e, c2])
    · rw [if_pos (Int32.not_lt.mp c1), a18, if_neg e1, a20, if_pos (Int32.not_lt.mp c2)]
      exact fin _ _ (by unfold adS; simp [e, c1]) (by unfold adS; simp [e, c2])
theorem gives_L24 {p : Int32} {bk12 : Int32 → wM → Option wM} (hV : OkV V) (hw : w < 4) : ∀ (c k fu : Nat) (N : wM) (s : wT), k + c = V.2.1 w → c < fu → RMr V 97 0 N → LK V w N → PSm s N → s.2.1 + c < 900 → ∃ M', fX7_gives_L24 p bk12 fu (nI w) (nI k) N = bk12 (nI (w + 1)) M' ∧ FrQ N M' ∧ PSm (foldF (ptS V w p) k c s) M'
  | 0, k, fu, N, s, hkc, hfu, hR, hK, hP, hs => by
    obtain ⟨fu, rfl⟩ : ∃ z, fu = z + 1 := ⟨fu - 1, by omega⟩
    have hn := hV.n hw
    refine ⟨N, ?_, FrQ.rf, hP⟩
    show fX7_gives_B24 p bk12 _ _ _ N = _
    unfold fX7_gives_B24
    rw [cnt_ix hw, bs, (hR.D hw).1, if_pos ((nI_leI (by omega) (by omega)).mpr (by omega)), nIp1]
  | c + 1, k, fu, N, s, hkc, hfu, hR, hK, hP, hs => by
    obtain ⟨fu, rfl⟩ : ∃ z, fu = z + 1 := ⟨fu - 1, by omega⟩
    have hn := hV.n hw
    have hkn : k < V.2.1 w := by omega
    have num := ptS_num (V := V) (w := w) (p := p) (s := s) (r := k)
    have i103 : ix (nI k) (ln 103) = some k := ix_in (by rw [ln103]; omega) (by rw [ln103]; omega)
    have skip : ptS V w p s k = s → ∃ M', fX7_gives_L24 p bk12 fu (nI w) (nI (k + 1)) N = bk12 (nI (w + 1)) M' ∧ FrQ N M' ∧ PSm (foldF (ptS V w p) k (c + 1) s) M' := fun e => by
      rw [show foldF (ptS V w p) k (c + 1) s = foldF (ptS V w p) (k + 1) c (ptS V w p s k) from rfl, e]
      exact gives_L24 hV hw c (k + 1) fu N s (by omega) (by omega) hR hK hP (by omega)
    show ∃ M', fX7_gives_B24 p bk12 _ _ _ N = _ ∧ _
    unfold fX7_gives_B24
    rw [cnt_ix hw, bs, (hR.D hw).1, if_neg (by rw [nI_leI (by omega) (by omega)]; omega), i103, bs, (hK.2.2 k hkn).1]
    cases hg : go V w k
    · rw [if_pos (show b2 false = 0 from rfl)]
      unfold fX7_gives_J55
      rw [i103, bs, (hK.2.2 k hkn).1, hg, if_pos (show b2 false = 0 from rfl), nIp1]
      exact skip (by unfold ptS inP; rw [hg]; rfl)
    · rw [if_neg (show ¬ b2 true = 0 from by decide), open_m hV hw hR hK hkn, bs]
      unfold fX7_gives_J55
      rw [i103, bs, (hK.2.2 k hkn).1, hg, if_neg (show ¬ b2 true = 0 from by decide), of3 hw (hR.D hw) hn hkn, bs]
      by_cases e : V.2.2 w 3 k = p
      · rw [if_pos e]
        have take : endsO V w k = false → ∃ M', fX7_gives_J95 p bk12 (fX7_gives_L24 p bk12 fu) (nI w) (nI k) N = bk12 (nI (w + 1)) M' ∧ FrQ N M' ∧ PSm (foldF (ptS V w p) k (c + 1) s) M' := fun he => by
          have es : ptS V w p s k = adS s (cor V w k) := by unfold ptS inP; rw [hg, he, decide_eq_true e]; rfl
          obtain ⟨N1, a1, a2, a3, a4, a5⟩ := gives_J (p := p) (bk12 := bk12) (bk24 := fX7_gives_L24 p bk12 fu) hV hw hR hK hkn hg hP (by omega)
          obtain ⟨M', b1, b2, b3⟩ := gives_L24 (p := p) (bk12 := bk12) hV hw c (k + 1) fu N1 (ptS V w p s k) (by omega) (by omega) (hR.keep a2.e97) (hK.keep a4 (fun i h1 h2 => a3 i (by omega))) (by rw [es]; exact a5) (by omega)
          exact ⟨M', a1.trans b1, a2.tr b2, b3⟩
        cases eo : opn V w k with
        | none =>
          rw [if_pos (show oI none = -1 from rfl)]
          exact take (by unfold endsO; rw [eo])
        | some j =>
          have hjl := opn_lt eo
          have hl := lpL_len (V := V) (w := w)
          obtain ⟨h1, h2, -, -⟩ := lpL_in hjl
          obtain ⟨q1, q2⟩ := en_m hn hK hjl
          rw [if_neg (oI_ne (by omega)), show oI (some j) = nI j from rfl, q1, bs, q2]
          by_cases c2 : le2 V w j = k
          · rw [if_pos ((nI_eq (by omega) (by omega)).mpr c2), nIp1]
            exact skip (by
              have he : endsO V w k = true := by unfold endsO; rw [eo]; exact decide_eq_true c2
              unfold ptS inP; rw [hg, he]; simp)
          · rw [if_neg (by rw [nI_eq (by omega) (by omega)]; exact c2)]
            exact take (by unfold endsO; rw [eo]; exact decide_eq_false c2)
      · rw [if_neg e, nIp1]
        exact skip (by unfold ptS inP; rw [hg, decide_eq_false e]; simp)
end PM
theorem gives_m {V : wV} {p : Int32} {M : wM} (hV : OkV V) (hR : RMr V 97 0 M) : ∃ M', fX7_gives p M = some M' ∧ FrQ M M' ∧ PSm (ptA V p) M' := by
  have step : ∀ (w fu : Nat) (N : wM) (s : wT), 0 < w → w < 4 → RMr V 97 0 N → PSm s N → s.2.1 ≤ 20 * (w - 1) → ∃ N', fX7_gives_L12 p (fu + 1) (nI w) N = fX7_gives_L12 p fu (nI (w + 1)) N' ∧ FrQ N N' ∧ PSm (ptW V p w s) N' ∧ RMr V 97 0 N' ∧ (ptW V p w s).2.1 ≤ 20 * w := fun w fu N s h0 hw hR hP hs => by
    have hn := hV.n hw
    obtain ⟨N1, a1, a2, a3⟩ := looks_m hV hw hR
    have hP1 : PSm s N1 := ⟨by rw [a2.2.2]; exact hP.1, by rw [a2.2.1 18 (by unfold pL; omega)]; exact hP.2.1, fun q => by rw [a2.2.1 19 (by unfold pL; omega), a2.2.1 20 (by unfold pL; omega)]; exact hP.2.2 q⟩
    obtain ⟨N2, b1, b2, b3⟩ := gives_L24 (p := p) (bk12 := fX7_gives_L12 p fu) hV hw (V.2.1 w) 0 FU N1 s (by omega) (by unfold FU; omega) (hR.keep a2.e97) a3 hP1 (by omega)
    have num := ptF_num (V := V) (w := w) (p := p) (c := V.2.1 w) (k := 0) (s := s)
    refine ⟨N2, ?_, a2.Q.tr b2, b3, (hR.keep a2.e97).keep b2.e97, by unfold ptW; omega⟩
    show fX7_gives_B12 p _ (nI w) N = _
    unfold fX7_gives_B12
    rw [if_neg (show ¬ (4 : Int32) ≤ nI w from fun q => absurd ((nI_leI (a := 4) (by omega) (by omega)).mp q) (by omega)), a1, bs]
    exact b1
  have f0 : FrQ M (st (stL M 96 0) 96 18 0) := FrQ.wL.tr (FrQ.w (by omega))
  have p0 : PSm (0, 0, 0, 0) (st (stL M 96 0) 96 18 0) := ⟨by show (stL M 96 0).2 96 = 0; rw [stL_same], by rw [st_same]; rfl, fun q => absurd q (by decide)⟩
  obtain ⟨N1, a1, a2, a3, a4, a5⟩ := step 1 99999 _ (0, 0, 0, 0) (by omega) (by omega) (hR.keep f0.e97) p0 (by decide)
  obtain ⟨N2, b1, b2, b3, b4, b5⟩ := step 2 99998 N1 _ (by omega) (by omega) a4 a3 a5
  obtain ⟨N3, c1, c2, c3, c4, c5⟩ := step 3 99997 N2 _ (by omega) (by omega) b4 b3 b5
  refine ⟨N3, ?_, ((f0.tr a2).tr b2).tr c2, c3⟩
  unfold fX7_gives
  have e : fX7_gives_L12 p FU (1 : Int32) (st (stL M 96 0) 96 18 0) = fX7_gives_L12 p 99997 (nI 4) N3 := by
    rw [show FU = 99999 + 1 from rfl, show (1 : Int32) = nI 1 from rfl]
    exact a1.trans (b1.trans c1)
  rw [e]
  show fX7_gives_B12 p _ (nI 4) N3 = _
  unfold fX7_gives_B12
  rw [if_pos (show (4 : Int32) ≤ nI 4 from by decide)]

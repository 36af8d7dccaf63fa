/-! points: the class -/
theorem SVF.keep {V : wV} {w v : Nat} {M M2 : wM} (h : SVF V w v M) (hf : ∀ i, v ≤ i → i < v + 9 → M2.1 i = M.1 i) : SVF V w v M2 := by
  refine ⟨h.1.keep (hf v (by omega) (by omega)) (fun i h1 h2 => hf i (by omega) (by omega)) (hf _ (by omega) (by omega)) (hf _ (by omega) (by omega)), ?_, ?_, ?_⟩
  · rw [hf v (by omega) (by omega)]; exact h.2.1
  · rw [hf v (by omega) (by omega)]; exact h.2.2.1
  · rw [hf (v + 5) (by omega) (by omega), hf (v + 6) (by omega) (by omega)]; exact h.2.2.2
section PC
variable {V : wV} {w v : Nat} {M : wM}
theorem openOf_v {r : Nat} (hk : kd v = 3) (hn : V.2.1 w ≤ 20) (hS : SVF V w v M) (hr : r < V.2.1 w) : fX3_openLoopOf v (nI r) M = some (oV V w r) := by
  unfold fX3_openLoopOf
  rw [at_in (by rw [lkf3_4 hk]; omega), bs, (hS.2.2.2 r hr).1]
theorem corrH_v {r : Nat} (hk : kd v = 3) (hn : V.2.1 w ≤ 20) (hS : SVF V w v M) (hr : r < V.2.1 w) : fX3_correctedHeight v (nI r) M = some (cV V w r) := by
  unfold fX3_correctedHeight
  rw [at_in (by rw [lkf3_5 hk]; omega), bs, (hS.2.2.2 r hr).2]
theorem ends_v {r : Nat} (hk : kd v = 3) (hn : V.2.1 w ≤ 20) (hS : SVF V w v M) (hr : r < V.2.1 w) (hg : go V w r = true) : fX3_endsOpenLoop v (nI r) M = some (endsO V w r) := by
  have hl := lpL_len (V := V) (w := w)
  unfold fX3_endsOpenLoop endsO
  rw [openOf_v hk hn hS hr, bs]
  unfold oV
  rw [hg, if_pos rfl]
  cases e : opn V w r with
  | none => rw [if_pos (show oI none = -1 from rfl)]
  | some k =>
    have hkl := opn_lt e
    obtain ⟨h1, h2, -, -⟩ := lpL_in hkl
    rw [if_neg (oI_ne (by omega)), show oI (some k) = nI k from rfl, end_v hk hn hS.1 hkl, bs]
    show _ = some (decide (le2 V w k = r))
    by_cases c : le2 V w k = r
    · rw [if_pos ((nI_eq (by omega) (by omega)).mpr c), decide_eq_true c]
    · rw [if_neg (by rw [nI_eq (by omega) (by omega)]; exact c), decide_eq_false c]
theorem addTo_L {p : Int32} (hk : kd v = 3) (hv : v + 9 ≤ 93) (hV : OkV V) (hw : w < 4) : ∀ (c k fu : Nat) (N : wM) (s : wT), k + c = V.2.1 w → c < fu → SVF V w v N → PSc s N → s.2.1 + c < 900 → ∃ M', fX3_addTo_L2 v 93 p fu (nI k) N = some M' ∧ Fr (fun i => i = 93) N M' ∧ PSc (foldF (ptS V w p) k c s) M'
  | 0, k, fu, N, s, hkc, hfu, hS, hP, hs => by
    obtain ⟨fu, rfl⟩ : ∃ z, fu = z + 1 := ⟨fu - 1, by omega⟩
    have hn := hV.n hw
    refine ⟨N, ?_, Fr.rf, hP⟩
    show fX3_addTo_B2 v 93 p _ _ N = _
    unfold fX3_addTo_B2
    rw [hS.1.1.1, if_pos ((nI_leI (by omega) (by omega)).mpr (by omega))]
  | c + 1, k, fu, N, s, hkc, hfu, hS, hP, hs => by
    obtain ⟨fu, rfl⟩ : ∃ z, fu = z + 1 := ⟨fu - 1, by omega⟩
    have hn := hV.n hw
    have hkn : k < V.2.1 w := by omega
    have num := ptS_num (V := V) (w := w) (p := p) (s := s) (r := k)
    have skip : ptS V w p s k = s → ∃ M', fX3_addTo_L2 v 93 p fu (nI (k + 1)) N = some M' ∧ Fr (fun i => i = 93) N M' ∧ PSc (foldF (ptS V w p) k (c + 1) s) M' := fun e => by
      rw [show foldF (ptS V w p) k (c + 1) s = foldF (ptS V w p) (k + 1) c (ptS V w p s k) from rfl, e]
      exact addTo_L hk hv hV hw c (k + 1) fu N s (by omega) (by omega) hS hP (by omega)
    show ∃ M', fX3_addTo_B2 v 93 p _ _ N = _ ∧ _
    unfold fX3_addTo_B2
    rw [hS.1.1.1, if_neg (by rw [nI_leI (by omega) (by omega)]; omega), isGood_v hk hV hw hS.1.1.2 hkn, bs, nIp1]
    cases hg : go V w k
    · rw [if_pos (show b2 false = 0 from rfl)]
      exact skip (by unfold ptS inP; rw [hg]; rfl)
    · rw [if_neg (show ¬ b2 true = 0 from by decide), at_in (by rw [lkf3_1 hk]; omega), bs, (hS.1.1.2 k hkn).2.1]
      by_cases e : V.2.2 w 3 k = p
      · rw [if_pos e, ends_v hk hn hS hkn hg, bs]
        cases he : endsO V w k
        · rw [if_pos (show b2 false = 0 from rfl), corrH_v hk hn hS hkn, bs]
          have ecv : cV V w k = cor V w k := by unfold cV; rw [hg, if_pos rfl]
          have es : ptS V w p s k = adS s (cor V w k) := by unfold ptS inP; rw [hg, he, decide_eq_true e]; rfl
          obtain ⟨N1, a1, a2, a3⟩ := add_c (h := cV V w k) hP (by omega)
          rw [a1, bs]
          obtain ⟨M', b1, b2, b3⟩ := addTo_L hk hv hV hw c (k + 1) fu N1 (ptS V w p s k) (by omega) (by omega) (hS.keep (fun i h1 h2 => (a2 i (by omega)).1)) (by rw [es, ← ecv]; exact a3) (by omega)
          exact ⟨M', b1, a2.tr b2, b3⟩
        · rw [if_neg (show ¬ b2 true = 0 from by decide)]
          exact skip (by unfold ptS inP; rw [hg, he]; simp)
      · rw [if_neg e]
        exact skip (by unfold ptS inP; rw [hg, decide_eq_false e]; simp)
end PC
def sv (c : Nat) : Nat := 66 + 9 * c
theorem surveyOf_c {c : Nat} {M : wM} (hc : c < 3) : fX6_surveyOf (nI c) M = some (sv c) := by
  unfold fX6_surveyOf
  rcases (show c = 0 ∨ c = 1 ∨ c = 2 by omega) with rfl | rfl | rfl <;> rfl
theorem kd_sv {c : Nat} (hc : c < 3) : kd (sv c) = 3 := by
  rcases (show c = 0 ∨ c = 1 ∨ c = 2 by omega) with rfl | rfl | rfl <;> rfl
/-- all three surveys are worked out -/
def SVA (V : wV) (M : wM) : Prop := ∀ c, c < 3 → SVF V (c + 1) (sv c) M
theorem SVA.keep {V : wV} {M M2 : wM} (h : SVA V M) (hf : ∀ i, 66 ≤ i → i < 93 → M2.1 i = M.1 i) : SVA V M2 := fun c hc => (h c hc).keep (fun i h1 h2 => hf i (by unfold sv at h1; omega) (by unfold sv at h2; omega))
theorem gather_c {V : wV} {p : Int32} {M : wM} (hV : OkV V) (hS : SVA V M) : ∃ M', fX6_gather p M = some M' ∧ Fr (fun i => i = 93) M M' ∧ PSc (ptA V p) M' := by
  have step : ∀ (c fu : Nat) (N : wM) (s : wT), c < 3 → SVA V N → PSc s N → s.2.1 ≤ 20 * c → ∃ N', fX6_gather_L9 p (fu + 1) (nI c) N = fX6_gather_L9 p fu (nI (c + 1)) N' ∧ Fr (fun i => i = 93) N N' ∧ PSc (ptW V p (c + 1) s) N' ∧ SVA V N' ∧ (ptW V p (c + 1) s).2.1 ≤ 20 * (c + 1) := fun c fu N s hc hS hP hs => by
    have hn := hV.n (w := c + 1) (by omega)
    obtain ⟨N', a1, a2, a3⟩ := addTo_L (p := p) (kd_sv hc) (by unfold sv; omega) hV (w := c + 1) (by omega) (V.2.1 (c + 1)) 0 FU N s (by omega) (by unfold FU; omega) (hS c hc) hP (by omega)
    have num := ptF_num (V := V) (w := c + 1) (p := p) (c := V.2.1 (c + 1)) (k := 0) (s := s)
    refine ⟨N', ?_, a2, a3, hS.keep (fun i h1 h2 => (a2 i (by omega)).1), by unfold ptW; omega⟩
    show fX6_gather_B9 p _ (nI c) N = _
    unfold fX6_gather_B9
    rw [if_neg (show ¬ (3 : Int32) ≤ nI c from fun q => absurd ((nI_leI (a := 3) (by omega) (by omega)).mp q) (by omega)), surveyOf_c hc, bs, gk_ok (kd_sv hc), bs, nIp1]
    unfold fX3_addTo
    rw [show (0 : Int32) = nI 0 from rfl, a1, bs]
  have f0 : Fr (fun i => i = 93) M (st (stL M 93 0) 93 1 0) := (Fr.stL (P := fun i => i = 93) rfl).tr (Fr.st rfl)
  have p0 : PSc (0, 0, 0, 0) (st (stL M 93 0) 93 1 0) := ⟨by show (stL M 93 0).2 93 = 0; rw [stL_same], by rw [st_same]; rfl, fun q => absurd q (by decide)⟩
  obtain ⟨N1, a1, a2, a3, a4, a5⟩ := step 0 99999 _ (0, 0, 0, 0) (by omega) (hS.keep (fun i h1 h2 => (f0 i (by omega)).1)) p0 (by decide)
  obtain ⟨N2, b1, b2, b3, b4, b5⟩ := step 1 99998 N1 _ (by omega) a4 a3 a5
  obtain ⟨N3, c1, c2, c3, c4, c5⟩ := step 2 99997 N2 _ (by omega) b4 b3 b5
  refine ⟨N3, ?_, ((f0.tr a2).tr b2).tr c2, c3⟩
  unfold fX6_gather fX1_clear
  rw [bs]
  have e : fX6_gather_L9 p FU (0 : Int32) (st (stL M 93 0) 93 1 0) = fX6_gather_L9 p 99997 (nI 3) N3 := by
    rw [show FU = 99999 + 1 from rfl, show (0 : Int32) = nI 0 from rfl]
    exact a1.trans (b1.trans c1)
  rw [e]
  show fX6_gather_B9 p _ (nI 3) N3 = _
  unfold fX6_gather_B9
  rw [if_pos (show (3 : Int32) ≤ nI 3 from by decide)]
/-! points: the reference -/
section PM
variable {V : wV} {w : Nat}
end PM

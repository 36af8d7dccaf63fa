/-! holds: every comparison of it is right, on every view -/
theorem one_c (c : Nat) : (1 : Int32) + nI c = nI (c + 1) := by rw [show (1 : Int32) = nI 1 from rfl, nI_add, Nat.add_comm]
theorem one_cx (w : Nat) : (1 : Int32) + cx w = nI w := by
  unfold cx
  rw [Int32.add_comm, Int32.sub_add_cancel]
theorem cx_1 (w : Nat) : cx w + (1 : Int32) = cx (w + 1) := by
  rw [cx_c]
  unfold cx
  exact Int32.sub_add_cancel _ _
section HO
variable {V : wV} {hs : List wV}
theorem q_time {w j : Nat} (hV : OkV V) (hw : w < 4) (hj : j < V.2.1 w) : Qy V hs (fX6_reading (cx w) (nI j) (0 : Int32)) (V.2.2 w 0 j) := q_rd (f := 0) hV hw (Or.inl (by omega)) hj
theorem q_point {c j : Nat} (hV : OkV V) (hc : c < 3) (hj : j < V.2.1 (c + 1)) : Qy V hs (fX6_reading (nI c) (nI j) (3 : Int32)) (V.2.2 (c + 1) 3 j) := by
  have h := q_rd (hs := hs) (w := c + 1) (f := 3) hV (by omega) (Or.inr ⟨by omega, by omega⟩) hj
  rw [cx_c] at h
  exact h
theorem q_cntc {c : Nat} (hc : c < 3) : Qy V hs (fX6_count ((1 : Int32) + nI c)) (nI (V.2.1 (c + 1))) := by
  rw [one_c]; exact q_cnt (by omega)
theorem q_cntx {w : Nat} (hw : w < 4) : Qy V hs (fX6_count ((1 : Int32) + cx w)) (nI (V.2.1 w)) := by
  rw [one_cx]; exact q_cnt hw
theorem q_num {p : Nat} (hV : OkV V) (hp : p < 10) : Qy V hs (fX6_point (nI p) (2 : Int32)) (nI (nPt V p)) := by
  have h := q_pt (hs := hs) (y := 2) hV hp (Or.inr rfl)
  unfold ptR at h
  rw [if_pos rfl] at h
  exact h
theorem h463 {M : wM} (hV : OkV V) (hM : I0 V hs M) : Wp V hs (fL_holds_J463 1 (nI (nGv V)) M) := by
  obtain ⟨b1, b2, b3, b4⟩ := all_b hV
  unfold fL_holds_J463
  rw [if_neg (by decide)]
  refine Wp.q q_cnt13 hM (fun M h => ?_)
  dsimp only
  rw [if_neg (by rw [nI_ltI (by omega) (by omega)]; omega)]
  refine Wp.q q_cnt13 h (fun M h => ?_)
  dsimp only
  refine Wp.q q_cnt5 h (fun M h => ?_)
  dsimp only
  rw [if_neg (by
    rw [Int32.lt_iff_toInt_lt, pk_sub_toInt (by omega) (by omega), nI_toInt (by omega)]
    omega)]
  exact Wp.ret h
theorem h395 (hV : OkV V) : ∀ (c k fu : Nat) (M : wM), k + c = 10 → c < fu → I0 V hs M → Wp V hs (fL_holds_L395 fu 1 (nI (sm (nPt V) k)) (nI k) M)
  | c, k, 0, M, _, h, _ => absurd h (by omega)
  | 0, k, fu + 1, M, hk, hfu, hM => by
    show Wp V hs (fL_holds_B395 _ 1 (nI (sm (nPt V) k)) (nI k) M)
    have e : k = 10 := by omega
    subst e
    unfold fL_holds_B395
    rw [if_pos (show (10 : Int32) ≤ nI 10 from by decide), sum_pt hV]
    exact h463 hV hM
  | c + 1, k, fu + 1, M, hk, hfu, hM => by
    have ih : ∀ M, I0 V hs M → Wp V hs (fL_holds_L395 fu 1 (nI (sm (nPt V) k) + nI (nPt V k)) (nI k + 1) M) := fun M h => by
      rw [nI_add, nIp1]
      exact h395 hV c (k + 1) fu M (by omega) (by omega) h
    have hp : k < 10 := by omega
    have hb : nPt V k ≤ 60 := ptA_num hV
    show Wp V hs (fL_holds_B395 _ 1 (nI (sm (nPt V) k)) (nI k) M)
    unfold fL_holds_B395
    rw [if_neg (show ¬ (10 : Int32) ≤ nI k from fun q => absurd ((nI_leI (a := 10) (by omega) (by omega)).mp q) (by omega)), if_neg (by decide)]
    refine Wp.q (q_num hV hp) hM (fun M h => ?_)
    dsimp only
    refine Wp.q (q_num hV hp) h (fun M h => ?_)
    dsimp only
    by_cases e0 : nPt V k = 0
    · rw [if_pos (show nI (nPt V k) = 0 by rw [e0]; rfl)]
      exact ih M h
    · obtain ⟨s1, s2⟩ := spread_ok (p := nI k) hV e0
      rw [if_neg (nI_ne0 (by omega) (by omega))]
      refine Wp.q (q_pt hV hp (Or.inl rfl)) h (fun M h => ?_)
      dsimp only
      rw [if_neg (Int32.not_lt.mpr s1)]
      refine Wp.q (q_num hV hp) h (fun M h => ?_)
      dsimp only
      by_cases e1 : 1 < nPt V k
      · rw [if_pos (show (1 : Int32) < nI (nPt V k) from (nI_ltI (a := 1) (by omega) (by omega)).mpr e1)]
        exact ih M h
      · rw [if_neg (show ¬ (1 : Int32) < nI (nPt V k) from fun q => e1 ((nI_ltI (a := 1) (by omega) (by omega)).mp q))]
        refine Wp.q (q_pt hV hp (Or.inl rfl)) h (fun M h => ?_)
        dsimp only
        rw [if_pos (s2 (show nPt V k = 1 by omega))]
        exact ih M h
section RD
variable {c : Nat} {bk83 : Int32 → Int32 → wM → Option (Bool × wM)}
def opI (V : wV) (w r : Nat) : Int32 := if oV V w r = -1 then -2000000004 else oV V w r
theorem h341 {bk276 : Int32 → Int32 → Int32 → wM → Option (Bool × wM)} {r : Nat} {s : Int32} {M : wM} (hV : OkV V) (hc : c < 3) (hr : r < V.2.1 (c + 1)) (hM : I0 V hs M) (k : ∀ M, I0 V hs M → Wp V hs (bk276 1 (nI c) (nI (r + 1)) M)) : Wp V hs (fL_holds_J341 bk83 bk276 (nI c) (nI r) (opI V (c + 1) r) s s M) := by
  have hn := hV.n (show c + 1 < 4 by omega)
  have hl := lpL_len (V := V) (w := c + 1)
  unfold fL_holds_J341
  rw [if_pos rfl, nIp1]
  have hcase : opI V (c + 1) r = -2000000004 ∨ ∃ j, opn V (c + 1) r = some j ∧ opI V (c + 1) r = nI j := by
    unfold opI oV
    by_cases hg : go V (c + 1) r = true
    · rw [if_pos hg]
      cases e : opn V (c + 1) r with
      | none => exact Or.inl (if_pos rfl)
      | some j =>
        have hj := opn_lt e
        exact Or.inr ⟨j, rfl, if_neg (oI_ne (by omega))⟩
    · rw [if_neg hg]
      exact Or.inl (if_pos rfl)
  rcases hcase with e | ⟨j, ej, e⟩
  · rw [e, if_pos (by decide)]
    exact k M hM
  · have hj := opn_lt ej
    obtain ⟨i1, i2⟩ := opn_in ej
    obtain ⟨l1, l2, -, -⟩ := lpL_in hj
    rw [e, if_neg (nI_pos (by omega))]
    refine Wp.q (q_lb hV hc hj) hM (fun M h => ?_)
    dsimp only
    rw [if_neg (by rw [nI_ltI (by omega) (by omega)]; omega)]
    refine Wp.q (q_le hV hc hj) h (fun M h => ?_)
    dsimp only
    rw [if_neg (by rw [nI_ltI (by omega) (by omega)]; omega)]
    exact k M h
theorem h315 {bk276 : Int32 → Int32 → Int32 → wM → Option (Bool × wM)} {r : Nat} {M : wM} (hV : OkV V) (hc : c < 3) (hr : r < V.2.1 (c + 1)) (hM : I0 V hs M) (k : ∀ M, I0 V hs M → Wp V hs (bk276 1 (nI c) (nI (r + 1)) M)) : Wp V hs (fL_holds_J315 bk83 bk276 (nI c) (nI r) (opI V (c + 1) r) (b2 (go V (c + 1) r)) M) := by
  have hk := go_kind hV (show c + 1 < 4 by omega) hr
  unfold fL_holds_J315
  refine Wp.q (q_gu hV hc hr) hM (fun M h => ?_)
  dsimp only
  cases hg : gu V (c + 1) r
  · rw [if_pos (show b2 false = 0 from rfl)]
    refine Wp.q (q_raw hV hc hr) h (fun M h => ?_)
    dsimp only
    by_cases e : hI (hh V (c + 1) r) = -2000000004
    · have eg : go V (c + 1) r = false := by rw [hk, hg, decide_eq_true e]; rfl
      rw [if_pos e, eg]
      exact h341 hV hc hr h k
    · have eg : go V (c + 1) r = true := by rw [hk, hg, decide_eq_false e]; rfl
      rw [if_neg e, eg]
      exact h341 hV hc hr h k
  · have eg : go V (c + 1) r = false := by rw [hk, hg]; rfl
    rw [if_neg (show ¬ b2 true = 0 from by decide), eg]
    exact h341 hV hc hr h k
theorem h276 (hV : OkV V) (hc : c < 3) (hk : ∀ M, I0 V hs M → Wp V hs (bk83 1 (nI (c + 1)) M)) : ∀ (n r fu : Nat) (M : wM), r + n = V.2.1 (c + 1) → n < fu → I0 V hs M → Wp V hs (fL_holds_L276 bk83 fu 1 (nI c) (nI r) M)
  | n, r, 0, M, _, h, _ => absurd h (by omega)
  | 0, r, fu + 1, M, hr, hfu, hM => by
    have hn := hV.n (show c + 1 < 4 by omega)
    show Wp V hs (fL_holds_B276 bk83 _ 1 (nI c) (nI r) M)
    unfold fL_holds_B276
    refine Wp.q (q_cntc hc) hM (fun M h => ?_)
    dsimp only
    rw [if_pos ((nI_leI (by omega) (by omega)).mpr (by omega)), nIp1]
    exact hk M h
  | n + 1, r, fu + 1, M, hr, hfu, hM => by
    have hn := hV.n (show c + 1 < 4 by omega)
    have hrn : r < V.2.1 (c + 1) := by omega
    have k : ∀ M, I0 V hs M → Wp V hs (fL_holds_L276 bk83 fu 1 (nI c) (nI (r + 1)) M) := fun M h => h276 hV hc hk n (r + 1) fu M (by omega) (by omega) h
    show Wp V hs (fL_holds_B276 bk83 _ 1 (nI c) (nI r) M)
    unfold fL_holds_B276
    refine Wp.q (q_cntc hc) hM (fun M h => ?_)
    dsimp only
    rw [if_neg (by rw [nI_leI (by omega) (by omega)]; omega), if_neg (by decide)]
    refine Wp.q (q_op hV hc hrn) h (fun M h => ?_)
    dsimp only
    refine Wp.q (q_go hV hc hrn) h (fun M h => ?_)
    dsimp only
    have q := h315 (bk83 := bk83) (bk276 := fL_holds_L276 bk83 fu) (M := M) hV hc hrn h k
    cases hg : go V (c + 1) r
    · rw [hg] at q
      rw [if_neg (by decide)]
      exact q
    · rw [hg] at q
      rw [if_pos (by decide)]
      exact q
theorem nf_ne {k : Nat} (h : k < 2 ^ 31) : ¬ (-2000000004 : Int32) = nI k := fun q => by
  have q3 := congrArg Int32.toInt q
  rw [nI_toInt h, show (-2000000004 : Int32).toInt = -2000000004 from by decide] at q3
  omega
theorem opI_k {w r k : Nat} (hk : k < 2 ^ 31) (h : opI V w r = nI k) : oV V w r = nI k := by
  unfold opI at h
  by_cases e : oV V w r = -1
  · rw [if_pos e] at h; exact absurd h (nf_ne hk)
  · rw [if_neg e] at h; exact h
theorem h201 {bk94 : Int32 → Int32 → Int32 → wM → Option (Bool × wM)} {k : Nat} {M : wM} (hV : OkV V) (hc : c < 3) (hk : k < (lpL V (c + 1)).length) (hM : I0 V hs M) (kk : ∀ M, I0 V hs M → Wp V hs (bk94 1 (nI c) (nI (k + 1)) M)) : Wp V hs (fL_holds_J201 bk83 bk94 (nI c) (nI k) (nI (lb V (c + 1) k)) (nI (le2 V (c + 1) k)) 1 M) := by
  have hn := hV.n (show c + 1 < 4 by omega)
  have hl := lpL_len (V := V) (w := c + 1)
  obtain ⟨l1, l2, g1, g2⟩ := lpL_in hk
  have hb : lb V (c + 1) k < V.2.1 (c + 1) := by omega
  unfold fL_holds_J201
  rw [if_neg (by decide), nIp1]
  refine Wp.q (q_op hV hc hb) hM (fun M h => ?_)
  dsimp only
  by_cases e1 : opI V (c + 1) (lb V (c + 1) k) = nI k
  · rw [if_pos (show (if oV V (c + 1) (lb V (c + 1) k) = -1 then -2000000004 else oV V (c + 1) (lb V (c + 1) k)) = nI k from e1)]
    refine Wp.q (q_op hV hc l2) h (fun M h => ?_)
    dsimp only
    by_cases e2 : opI V (c + 1) (le2 V (c + 1) k) = nI k
    · rw [if_pos (show (if oV V (c + 1) (le2 V (c + 1) k) = -1 then -2000000004 else oV V (c + 1) (le2 V (c + 1) k)) = nI k from e2)]
      obtain ⟨c1, c2⟩ := ends_cor hV (show c + 1 < 4 by omega) hk (opI_k (by omega) e1) (opI_k (by omega) e2)
      refine Wp.q (q_cor hV hc hb) h (fun M h => ?_)
      dsimp only
      refine Wp.q (q_cor hV hc l2) h (fun M h => ?_)
      dsimp only
      rw [if_pos (c1.trans c2.symm)]
      refine Wp.q (q_cor hV hc hb) h (fun M h => ?_)
      dsimp only
      refine Wp.q (q_raw hV hc hb) h (fun M h => ?_)
      dsimp only
      rw [if_pos c1]
      exact kk M h
    · rw [if_neg (show ¬ (if oV V (c + 1) (le2 V (c + 1) k) = -1 then -2000000004 else oV V (c + 1) (le2 V (c + 1) k)) = nI k from e2)]
      exact kk M h
  · rw [if_neg (show ¬ (if oV V (c + 1) (lb V (c + 1) k) = -1 then -2000000004 else oV V (c + 1) (lb V (c + 1) k)) = nI k from e1)]
    exact kk M h
theorem h94 (hV : OkV V) (hc : c < 3) (hk : ∀ M, I0 V hs M → Wp V hs (bk83 1 (nI (c + 1)) M)) : ∀ (n k fu : Nat) (M : wM), k + n = (lpL V (c + 1)).length → n < fu → I0 V hs M → Wp V hs (fL_holds_L94 bk83 fu 1 (nI c) (nI k) M)
  | n, k, 0, M, _, h, _ => absurd h (by omega)
  | 0, k, fu + 1, M, hr, hfu, hM => by
    have hn := hV.n (show c + 1 < 4 by omega)
    have hl := lpL_len (V := V) (w := c + 1)
    show Wp V hs (fL_holds_B94 bk83 _ 1 (nI c) (nI k) M)
    unfold fL_holds_B94
    refine Wp.q (q_loops hc) hM (fun M h => ?_)
    dsimp only
    rw [if_pos ((nI_leI (by omega) (by omega)).mpr (by omega))]
    exact h276 hV hc hk (V.2.1 (c + 1)) 0 FU M (by omega) (by unfold FU; omega) h
  | n + 1, k, fu + 1, M, hr, hfu, hM => by
    have hn := hV.n (show c + 1 < 4 by omega)
    have hl := lpL_len (V := V) (w := c + 1)
    have hkl : k < (lpL V (c + 1)).length := by omega
    obtain ⟨l1, l2, g1, g2⟩ := lpL_in hkl
    have hb : lb V (c + 1) k < V.2.1 (c + 1) := by omega
    have hmn := mn_pos hV (show c + 1 < 4 by omega) hkl
    have kk : ∀ M, I0 V hs M → Wp V hs (fL_holds_L94 bk83 fu 1 (nI c) (nI (k + 1)) M) := fun M h => h94 hV hc hk n (k + 1) fu M (by omega) (by omega) h
    show Wp V hs (fL_holds_B94 bk83 _ 1 (nI c) (nI k) M)
    unfold fL_holds_B94
    refine Wp.q (q_loops hc) hM (fun M h => ?_)
    dsimp only
    rw [if_neg (by rw [nI_leI (by omega) (by omega)]; omega), if_neg (by decide)]
    refine Wp.q (q_lb hV hc hkl) h (fun M h => ?_)
    dsimp only
    refine Wp.q (q_le hV hc hkl) h (fun M h => ?_)
    dsimp only
    rw [if_neg (by rw [nI_leI (by omega) (by omega)]; omega)]
    refine Wp.q (q_point hV hc hb) h (fun M h => ?_)
    dsimp only
    refine Wp.q (q_point hV hc l2) h (fun M h => ?_)
    dsimp only
    rw [if_pos (lp_pt hkl)]
    refine Wp.q (q_mis hV hc hkl) h (fun M h => ?_)
    dsimp only
    refine Wp.q (q_by hV hc hkl) h (fun M h => ?_)
    dsimp only
    rw [if_pos (by_mis hkl)]
    refine Wp.q (q_mn hV hc hkl) h (fun M h => ?_)
    dsimp only
    rw [if_neg (by
      rw [Int32.le_iff_toInt_le, show (0 : Int32).toInt = 0 from by decide]
      omega)]
    by_cases k0 : k = 0
    · rw [if_pos (show nI k = 0 by rw [k0]; rfl)]
      exact h201 hV hc hkl h kk
    · rw [if_neg (nI_ne0 (by omega) (by omega)), nIm1 (by omega)]
      have hk1 : k - 1 < (lpL V (c + 1)).length := by omega
      have asc := le2_asc (V := V) (w := c + 1) (show k - 1 < k by omega) hkl
      refine Wp.q (q_le hV hc hk1) h (fun M h => ?_)
      dsimp only
      rw [if_neg (by rw [nI_leI (by omega) (by omega)]; omega)]
      exact h201 hV hc hkl h kk
end RD
theorem h83 (hV : OkV V) : ∀ (n c fu : Nat) (M : wM), c + n = 3 → n < fu → I0 V hs M → Wp V hs (fL_holds_L83 fu 1 (nI c) M)
  | n, c, 0, M, _, h, _ => absurd h (by omega)
  | 0, c, fu + 1, M, hc, hfu, hM => by
    show Wp V hs (fL_holds_B83 _ 1 (nI c) M)
    have e : c = 3 := by omega
    subst e
    unfold fL_holds_B83
    rw [if_pos (show (3 : Int32) ≤ nI 3 from by decide)]
    exact h395 hV 10 0 FU M (by omega) (by unfold FU; omega) hM
  | n + 1, c, fu + 1, M, hc, hfu, hM => by
    show Wp V hs (fL_holds_B83 _ 1 (nI c) M)
    have hn := hV.n (show c + 1 < 4 by omega)
    have hl := lpL_len (V := V) (w := c + 1)
    unfold fL_holds_B83
    rw [if_neg (show ¬ (3 : Int32) ≤ nI c from fun q => absurd ((nI_leI (a := 3) (by omega) (by omega)).mp q) (by omega)), if_neg (by decide)]
    exact h94 hV (by omega) (fun M h => h83 hV n (c + 1) fu M (by omega) (by omega) h) (lpL V (c + 1)).length 0 FU M (by omega) (by unfold FU; omega) hM
theorem h29 {w : Nat} {bk18 : Int32 → Int32 → wM → Option (Bool × wM)} (hV : OkV V) (hw : w < 4) (hk : ∀ M, I0 V hs M → Wp V hs (bk18 1 (cx (w + 1)) M)) : ∀ (n r fu : Nat) (M : wM), (r + n = V.2.1 w ∨ (n = 0 ∧ V.2.1 w ≤ r ∧ r ≤ 1)) → 0 < r → n < fu → I0 V hs M → Wp V hs (fL_holds_L29 bk18 fu 1 (cx w) (nI r) M)
  | n, r, 0, M, _, _, h, _ => absurd h (by omega)
  | 0, r, fu + 1, M, hr, h0, hfu, hM => by
    have hn := hV.n hw
    show Wp V hs (fL_holds_B29 bk18 _ 1 (cx w) (nI r) M)
    unfold fL_holds_B29
    refine Wp.q (q_cntx hw) hM (fun M h => ?_)
    dsimp only
    rw [if_pos ((nI_leI (by omega) (by omega)).mpr (by omega)), cx_1]
    exact hk M h
  | n + 1, r, fu + 1, M, hr, h0, hfu, hM => by
    have hn := hV.n hw
    have hrn : r < V.2.1 w := by omega
    show Wp V hs (fL_holds_B29 bk18 _ 1 (cx w) (nI r) M)
    unfold fL_holds_B29
    refine Wp.q (q_cntx hw) hM (fun M h => ?_)
    dsimp only
    rw [if_neg (by rw [nI_leI (by omega) (by omega)]; omega), if_neg (by decide), nIm1 h0]
    refine Wp.q (q_time hV hw hrn) h (fun M h => ?_)
    dsimp only
    refine Wp.q (q_time hV hw (show r - 1 < V.2.1 w by omega)) h (fun M h => ?_)
    dsimp only
    rw [if_neg (Int32.not_le.mpr ((hV.2 w hw).2.2 (r - 1) r (by omega) hrn)), nIp1]
    exact h29 hV hw hk n (r + 1) fu M (by omega) (by omega) (by omega) h
theorem h18 (hV : OkV V) : ∀ (n w fu : Nat) (M : wM), w + n = 4 → n < fu → I0 V hs M → Wp V hs (fL_holds_L18 fu 1 (cx w) M)
  | n, w, 0, M, _, h, _ => absurd h (by omega)
  | 0, w, fu + 1, M, hw, hfu, hM => by
    show Wp V hs (fL_holds_B18 _ 1 (cx w) M)
    have e : w = 4 := by omega
    subst e
    unfold fL_holds_B18
    rw [if_pos (show (3 : Int32) ≤ cx 4 from by decide)]
    exact h83 hV 3 0 FU M (by omega) (by unfold FU; omega) hM
  | n + 1, w, fu + 1, M, hw, hfu, hM => by
    show Wp V hs (fL_holds_B18 _ 1 (cx w) M)
    have hn := hV.n (show w < 4 by omega)
    have n3 : ¬ (3 : Int32) ≤ cx w := by
      rcases (show w = 0 ∨ w = 1 ∨ w = 2 ∨ w = 3 by omega) with rfl | rfl | rfl | rfl <;> decide
    unfold fL_holds_B18
    rw [if_neg n3, if_neg (by decide)]
    have kk : ∀ M, I0 V hs M → Wp V hs (fL_holds_L18 fu 1 (cx (w + 1)) M) := fun M h => h18 hV n (w + 1) fu M (by omega) (by omega) h
    exact h29 hV (by omega) kk (V.2.1 w - 1) 1 FU M (by omega) (by omega) (by unfold FU; omega) hM
theorem holds_ok {M : wM} (hV : OkV V) (hM : I0 V hs M) : Wp V hs (fL_holds M) := by
  have hc : V.2.1 0 ≤ 12 := (hV.2 0 (by omega)).1
  unfold fL_holds
  refine Wp.q (q_cnt (w := 0) (by omega)) hM (fun M h => ?_)
  dsimp only
  rw [if_neg (show ¬ (12 : Int32) < nI (V.2.1 0) from fun q => absurd ((nI_ltI (a := 12) (by omega) (by omega)).mp q) (by omega))]
  exact h18 hV 4 0 FU M (by omega) (by unfold FU; omega) h
/-! level -/
theorem h4 (hV : OkV V) : ∀ (n r fu : Nat) (M : wM), r + n = V.2.1 0 → n < fu → I0 V hs M → Wp V hs (fL_level_L4 fu 1 (nI r) M)
  | n, r, 0, M, _, h, _ => absurd h (by omega)
  | 0, r, fu + 1, M, hr, hfu, hM => by
    have hn := hV.n (show 0 < 4 by omega)
    show Wp V hs (fL_level_B4 _ 1 (nI r) M)
    unfold fL_level_B4
    refine Wp.q (q_cnt (w := 0) (by omega)) hM (fun M h => ?_)
    dsimp only
    rw [if_pos ((nI_leI (by omega) (by omega)).mpr (by omega))]
    exact Wp.ret h
  | n + 1, r, fu + 1, M, hr, hfu, hM => by
    have hn := hV.n (show 0 < 4 by omega)
    have hrn : r < V.2.1 0 := by omega
    have q0 : Qy V hs (fX6_reading (-1 : Int32) (nI r) (0 : Int32)) (V.2.2 0 0 r) := q_rd (w := 0) (f := 0) hV (by omega) (Or.inl (by omega)) hrn
    have q1 : Qy V hs (fX6_reading (-1 : Int32) (nI r) (1 : Int32)) (V.2.2 0 1 r) := q_rd (w := 0) (f := 1) hV (by omega) (Or.inl (by omega)) hrn
    have q2 : Qy V hs (fX6_reading (-1 : Int32) (nI r) (2 : Int32)) (V.2.2 0 2 r) := q_rd (w := 0) (f := 2) hV (by omega) (Or.inl (by omega)) hrn
    have b0 : ∀ M, I0 V hs M → fX6_baseAt (V.2.2 0 0 r) (0 : Int32) M = some (V.2.2 0 1 r) := fun M h => baseAt_at (y := 0) hV hrn (by omega) h
    have b1 : ∀ M, I0 V hs M → fX6_baseAt (V.2.2 0 0 r) (1 : Int32) M = some (V.2.2 0 2 r) := fun M h => baseAt_at (y := 1) hV hrn (by omega) h
    show Wp V hs (fL_level_B4 _ 1 (nI r) M)
    unfold fL_level_B4
    refine Wp.q (q_cnt (w := 0) (by omega)) hM (fun M h => ?_)
    dsimp only
    rw [if_neg (by rw [nI_leI (by omega) (by omega)]; omega), if_neg (by decide)]
    refine Wp.q q0 h (fun M h => ?_)
    dsimp only
    rw [b0 M h, bs]
    refine Wp.q q1 h (fun M h => ?_)
    dsimp only
    rw [if_pos rfl, b1 M h, bs]
    refine Wp.q q2 h (fun M h => ?_)
    dsimp only
    rw [if_pos rfl]
    refine Wp.q q1 h (fun M h => ?_)
    dsimp only
    refine Wp.q q2 h (fun M h => ?_)
    dsimp only
    rw [would_at hV hrn h, bs]
    refine Wp.q q_cnt10 h (fun M h => ?_)
    dsimp only
    rw [if_pos rfl, nIp1]
    exact h4 hV n (r + 1) fu M (by omega) (by omega) h
theorem level_ok {M : wM} (hV : OkV V) (hM : I0 V hs M) : Wp V hs (fL_level M) := by
  have hn := hV.n (show 0 < 4 by omega)
  exact h4 hV (V.2.1 0) 0 FU M (by omega) (by unfold FU; omega) hM
end HO

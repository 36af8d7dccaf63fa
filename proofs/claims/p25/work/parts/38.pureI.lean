/-! what follows for one cell (w: 1 to 3) from the view -/
def hh (V : wV) (w r : Nat) : Option Int := hgt V (V.2.2 w 0 r) (V.2.2 w 1 r) (V.2.2 w 2 r)
def gu (V : wV) (w r : Nat) : Bool := gustF (V.2.1 w) (V.2.2 w) (V.1 1) r
def go (V : wV) (w r : Nat) : Bool := (hh V w r).isSome && !gu V w r
def lastV (V : wV) (w r : Nat) : Option Nat := dnF (fun b => go V w b && decide (V.2.2 w 3 b = V.2.2 w 3 r)) r
def lpAt (V : wV) (w r : Nat) : List (Nat × Nat) := if go V w r then (match lastV V w r with
  | some b => [(b, r)]
  | none => []) else []
def lps (V : wV) (w : Nat) : Nat → List (Nat × Nat)
  | 0 => []
  | r + 1 => lps V w r ++ lpAt V w r
def cntF (p : Nat → Bool) : Nat → Nat
  | 0 => 0
  | k + 1 => cntF p k + (if p k then 1 else 0)
theorem cntF_le {p : Nat → Bool} : ∀ k, cntF p k ≤ k
  | 0 => Nat.le_refl _
  | k + 1 => by
    have := cntF_le (p := p) k
    unfold cntF
    split <;> omega
theorem lpAt_mem {V : wV} {w r : Nat} {L : Nat × Nat} (h : L ∈ lpAt V w r) : L.2 = r ∧ L.1 < r ∧ go V w L.1 = true ∧ go V w r = true := by
  unfold lpAt at h
  split at h
  · next hg =>
    cases e : lastV V w r with
    | none => rw [e] at h; cases h
    | some b =>
      rw [e] at h
      simp at h
      subst h
      have q := dnF_lt e
      simp at q
      exact ⟨rfl, q.1, q.2.1, hg⟩
  · cases h
theorem lpAt_len {V : wV} {w r : Nat} : (lpAt V w r).length ≤ 1 := by
  unfold lpAt
  split
  · split <;> simp
  · simp
theorem lps_len {V : wV} {w : Nat} : ∀ r, (lps V w r).length ≤ r
  | 0 => Nat.le_refl _
  | r + 1 => by
    have h1 := lps_len (V := V) (w := w) r
    have h2 := lpAt_len (V := V) (w := w) (r := r)
    unfold lps
    rw [List.length_append]
    omega
theorem lps_mem {V : wV} {w : Nat} {L : Nat × Nat} : ∀ {r}, L ∈ lps V w r → L.1 < L.2 ∧ L.2 < r ∧ go V w L.1 = true ∧ go V w L.2 = true
  | 0, h => by cases h
  | r + 1, h => by
    unfold lps at h
    rcases List.mem_append.mp h with h | h
    · obtain ⟨a, b, c, d⟩ := lps_mem h
      exact ⟨a, by omega, c, d⟩
    · obtain ⟨a, b, c, d⟩ := lpAt_mem h
      rw [a]
      exact ⟨b, by omega, c, d⟩
def lpL (V : wV) (w : Nat) : List (Nat × Nat) := lps V w (V.2.1 w)
/-- the k-th loop; begin and end -/
def lb (V : wV) (w k : Nat) : Nat := ((lpL V w).getD k (0, 0)).1
def le2 (V : wV) (w k : Nat) : Nat := ((lpL V w).getD k (0, 0)).2
def mn (V : wV) (w k : Nat) : Int32 := V.2.2 w 0 (le2 V w k) - V.2.2 w 0 (lb V w k)
theorem lpL_k {V : wV} {w k : Nat} (h : k < (lpL V w).length) : (lpL V w)[k]? = some (lb V w k, le2 V w k) := by
  unfold lb le2
  rw [List.getD_eq_getElem?_getD, List.getElem?_eq_getElem h]
  rfl
theorem lpL_in {V : wV} {w k : Nat} (h : k < (lpL V w).length) : lb V w k < le2 V w k ∧ le2 V w k < V.2.1 w ∧ go V w (lb V w k) = true ∧ go V w (le2 V w k) = true := lps_mem (L := (lb V w k, le2 V w k)) (List.mem_of_getElem? (lpL_k h))
theorem lpL_len {V : wV} {w : Nat} : (lpL V w).length ≤ V.2.1 w := lps_len _
/-- the open loop at r: the shortest, of several the first -/
def opS (V : wV) (w r : Nat) (best : Option Nat) (k : Nat) : Option Nat := if (decide (lb V w k ≤ r) && decide (r ≤ le2 V w k) && (match best with
  | none => true
  | some j => decide (mn V w k < mn V w j))) = true then some k else best
def opn (V : wV) (w r : Nat) : Option Nat := foldF (opS V w r) 0 (lpL V w).length none
def oI (o : Option Nat) : Int32 := match o with
  | none => -1
  | some k => nI k
def mis (V : wV) (w k : Nat) : Int32 := hI (hh V w (le2 V w k)) - hI (hh V w (lb V w k))
def cor (V : wV) (w r : Nat) : Int32 := match opn V w r with
  | none => hI (hh V w r)
  | some k => hI (hh V w r) - (dn ((mis V w k).toInt64 * (V.2.2 w 0 r - V.2.2 w 0 (lb V w k)).toInt64) (mn V w k).toInt64).toInt32
theorem hh_b {V : wV} {w r : Nat} {z : Int} (hV : OkV V) (hw : w < 4) (hr : r < V.2.1 w) (h : hh V w r = some z) : -12500000 ≤ z ∧ z ≤ 21000000 := by
  have d := hV.r hw hr
  exact hgt_b hV d.2.1 d.2.2 h
theorem hI_nf {V : wV} {w r : Nat} (hV : OkV V) (hw : w < 4) (hr : r < V.2.1 w) : (hI (hh V w r) = -2000000004) ↔ (hh V w r).isSome = false := by
  cases e : hh V w r with
  | none => simp [hI]
  | some z =>
    have hb := hh_b hV hw hr e
    simp only [Option.isSome_some, hI]
    constructor
    · intro q
      have q2 := congrArg Int32.toInt q
      rw [fb_ofI (by omega) (by omega), show (-2000000004 : Int32).toInt = -2000000004 from by decide] at q2
      omega
    · intro q; cases q
theorem mn_pos {V : wV} {w k : Nat} (hV : OkV V) (hw : w < 4) (hk : k < (lpL V w).length) : 0 < (mn V w k).toInt := by
  obtain ⟨h1, h2, -, -⟩ := lpL_in hk
  have t := hV.t hw h1 h2
  have a := (hV.r hw (show lb V w k < V.2.1 w by omega)).1
  have b := (hV.r hw h2).1
  unfold mn
  rw [fb_subI (by omega) (by omega)]
  omega
theorem ite_or {α : Type} {c : Prop} [Decidable c] {a b : α} : (ite c a b = a) ∨ (ite c a b = b) := by
  by_cases h : c
  · exact Or.inl (if_pos h)
  · exact Or.inr (if_neg h)
theorem opS_or {V : wV} {w r k : Nat} {best : Option Nat} : opS V w r best k = some k ∨ opS V w r best k = best := by
  unfold opS
  exact ite_or
theorem opS_lt {V : wV} {w r m : Nat} : ∀ {c k : Nat} {best : Option Nat}, k + c ≤ m → (∀ j, best = some j → j < m) → ∀ j, foldF (opS V w r) k c best = some j → j < m
  | 0, k, best, _, hb, j, h => hb j h
  | c + 1, k, best, hkc, hb, j, h => by
    refine opS_lt (c := c) (k := k + 1) (best := opS V w r best k) (by omega) (fun i hi => ?_) j h
    rcases opS_or (V := V) (w := w) (r := r) (best := best) (k := k) with e | e
    · rw [e] at hi; cases hi; omega
    · rw [e] at hi; exact hb i hi
theorem opn_lt {V : wV} {w r j : Nat} (h : opn V w r = some j) : j < (lpL V w).length := opS_lt (m := (lpL V w).length) (by omega) (fun j h => by cases h) j h
/-! a survey of the class: its cell v, its rows v + 1 to v + 8 -/
def inV (v i : Nat) : Prop := v ≤ i ∧ i < v + 9
def rows1 (V : wV) (w v k : Nat) (M : wM) : Prop := ∀ r, r < k → M.1 (v + 1) r = V.2.2 w 0 r ∧ M.1 (v + 2) r = V.2.2 w 3 r ∧ M.1 (v + 3) r = hI (hh V w r) ∧ M.1 (v + 4) r = b2 (gu V w r)
def SV1 (V : wV) (w v : Nat) (M : wM) : Prop := M.1 v 8 = nI (V.2.1 w) ∧ rows1 V w v (V.2.1 w) M
theorem SV1.keep {V : wV} {w v : Nat} {M M2 : wM} (h : SV1 V w v M) (h8 : M2.1 v 8 = M.1 v 8) (hf : ∀ i, v + 1 ≤ i → i < v + 5 → M2.1 i = M.1 i) : SV1 V w v M2 := by
  refine ⟨by rw [h8]; exact h.1, fun r hr => ?_⟩
  rw [hf (v + 1) (by omega) (by omega), hf (v + 2) (by omega) (by omega), hf (v + 3) (by omega) (by omega), hf (v + 4) (by omega) (by omega)]
  exact h.2 r hr
section SV
variable {V : wV} {w v : Nat} {M : wM}
theorem isGust_v {r : Nat} (hk : kd v = 3) (h : rows1 V w v (V.2.1 w) M) (hn : V.2.1 w ≤ 20) (hr : r < V.2.1 w) : fX3_isGust v (nI r) M = some (gu V w r) := by
  unfold fX3_isGust
  rw [at_in (by rw [lkf3_3 hk]; omega), bs, (h r hr).2.2.2]
  cases gu V w r <;> rfl
theorem isGood_v {r : Nat} (hk : kd v = 3) (hV : OkV V) (hw : w < 4) (h : rows1 V w v (V.2.1 w) M) (hr : r < V.2.1 w) : fX3_isGood v (nI r) M = some (go V w r) := by
  have hn := hV.n hw
  unfold fX3_isGood go
  rw [at_in (by rw [lkf3_2 hk]; omega), bs, (h r hr).2.2.1]
  by_cases e : (hh V w r).isSome = false
  · rw [if_pos ((hI_nf hV hw hr).mpr e), e, Bool.false_and]
  · rw [if_neg (fun q => e ((hI_nf hV hw hr).mp q)), at_in (by rw [lkf3_3 hk]; omega), bs, (h r hr).2.2.2, Bool.not_eq_false _ |>.mp e, Bool.true_and]
    cases gu V w r <;> rfl
theorem count_L (hk : kd v = 3) (hV : OkV V) (hw : w < 4) : ∀ (c k fu : Nat) (N : wM), k + c = V.2.1 w → c < fu → SV1 V w v N → N.1 v 9 = nI (cntF (gu V w) k) → N.1 v 10 = nI (cntF (go V w) k) → ∃ M', fX3_countKinds_L12 v fu (nI k) N = some M' ∧ Fr (fun i => i = v) N M' ∧ (∀ j, j ≠ 9 → j ≠ 10 → M'.1 v j = N.1 v j) ∧ M'.1 v 9 = nI (cntF (gu V w) (V.2.1 w)) ∧ M'.1 v 10 = nI (cntF (go V w) (V.2.1 w))
  | 0, k, fu, N, hkc, hfu, hS, h9, h10 => by
    obtain ⟨fu, rfl⟩ : ∃ z, fu = z + 1 := ⟨fu - 1, by omega⟩
    have hn := hV.n hw
    have ek : k = V.2.1 w := by omega
    subst ek
    refine ⟨N, ?_, Fr.rf, fun _ _ _ => rfl, h9, h10⟩
    show fX3_countKinds_B12 v _ (nI _) N = _
    unfold fX3_countKinds_B12
    rw [hS.1, if_pos ((nI_leI (by omega) (by omega)).mpr (Nat.le_refl _))]
  | c + 1, k, fu, N, hkc, hfu, hS, h9, h10 => by
    obtain ⟨fu, rfl⟩ : ∃ z, fu = z + 1 := ⟨fu - 1, by omega⟩
    have hn := hV.n hw
    have hc1 := cntF_le (p := gu V w) k
    have hc2 := cntF_le (p := go V w) k
    have s1 : ∀ x : Int32, SV1 V w v (st N v 9 x) := fun x => hS.keep (st_col (by omega)) (fun i h1 h2 => st_row (by omega))
    have step : ∀ (x y : Int32), x = nI (cntF (gu V w) (k + 1)) → y = nI (cntF (go V w) (k + 1)) → ∃ M', fX3_countKinds_L12 v fu (nI (k + 1)) (st (st N v 9 x) v 10 y) = some M' ∧ Fr (fun i => i = v) N M' ∧ (∀ j, j ≠ 9 → j ≠ 10 → M'.1 v j = N.1 v j) ∧ M'.1 v 9 = nI (cntF (gu V w) (V.2.1 w)) ∧ M'.1 v 10 = nI (cntF (go V w) (V.2.1 w)) := fun x y hx hy => by
      obtain ⟨M', a1, a2, a3, a4, a5⟩ := count_L hk hV hw c (k + 1) fu (st (st N v 9 x) v 10 y) (by omega) (by omega) ((s1 x).keep (st_col (by omega)) (fun i h1 h2 => st_row (by omega))) (by rw [st_col (by omega), st_same, hx]) (by rw [st_same, hy])
      exact ⟨M', a1, ((Fr.st (P := fun i => i = v) rfl).tr (Fr.st rfl)).tr a2, fun j h1 h2 => by rw [a3 j h1 h2, st_col h2, st_col h1], a4, a5⟩
    have e9 : ∀ b : Bool, b = gu V w k → nI (cntF (gu V w) k) + b2 b = nI (cntF (gu V w) (k + 1)) := fun b hb => by
      rw [show cntF (gu V w) (k + 1) = cntF (gu V w) k + (if gu V w k then 1 else 0) from rfl, ← hb]
      cases b
      · exact nI_add _ 0
      · exact nI_add _ 1
    have e10 : ∀ b : Bool, b = go V w k → nI (cntF (go V w) k) + b2 b = nI (cntF (go V w) (k + 1)) := fun b hb => by
      rw [show cntF (go V w) (k + 1) = cntF (go V w) k + (if go V w k then 1 else 0) from rfl, ← hb]
      cases b
      · exact nI_add _ 0
      · exact nI_add _ 1
    show ∃ M', fX3_countKinds_B12 v _ (nI k) N = _ ∧ _
    unfold fX3_countKinds_B12
    rw [hS.1, if_neg (by rw [nI_leI (by omega) (by omega)]; omega), isGust_v hk hS.2 hn (by omega), bs, h9]
    have gs : ∀ x : Int32, fX3_isGood v (nI k) (st N v 9 x) = some (go V w k) := fun x => isGood_v hk hV hw (s1 x).2 (by omega)
    have e10' : ∀ x : Int32, (st N v 9 x).1 v 10 = nI (cntF (go V w) k) := fun x => by rw [st_col (by omega), h10]
    cases hg : gu V w k
    · rw [if_pos (show b2 false = 0 from rfl)]
      unfold fX3_countKinds_J38
      rw [gs, bs, e10']
      cases ho : go V w k
      · rw [if_pos (show b2 false = 0 from rfl)]
        unfold fX3_countKinds_J60
        rw [nIp1]
        exact step _ _ (e9 false hg.symm) (e10 false ho.symm)
      · rw [if_neg (show ¬ b2 true = 0 from by decide)]
        unfold fX3_countKinds_J60
        rw [nIp1]
        exact step _ _ (e9 false hg.symm) (e10 true ho.symm)
    · rw [if_neg (show ¬ b2 true = 0 from by decide)]
      unfold fX3_countKinds_J38
      rw [gs, bs, e10']
      cases ho : go V w k
      · rw [if_pos (show b2 false = 0 from rfl)]
        unfold fX3_countKinds_J60
        rw [nIp1]
        exact step _ _ (e9 true hg.symm) (e10 false ho.symm)
      · rw [if_neg (show ¬ b2 true = 0 from by decide)]
        unfold fX3_countKinds_J60
        rw [nIp1]
        exact step _ _ (e9 true hg.symm) (e10 true ho.symm)
theorem last_L {r : Nat} (hk : kd v = 3) (hV : OkV V) (hw : w < 4) (hR : rows1 V w v (V.2.1 w) M) (hr : r < V.2.1 w) {x1 : Int32} : ∀ (k fu : Nat), k ≤ r → k < fu → fX3_lastVisit_L13 v x1 M fu (V.2.2 w 3 r) (nI k - 1) = some (oI (dnF (fun b => go V w b && decide (V.2.2 w 3 b = V.2.2 w 3 r)) k))
  | 0, fu, hkr, hfu => by
    obtain ⟨fu, rfl⟩ : ∃ z, fu = z + 1 := ⟨fu - 1, by omega⟩
    show fX3_lastVisit_B13 v x1 M _ _ _ = _
    unfold fX3_lastVisit_B13
    rw [if_pos (show nI 0 - 1 < (0 : Int32) from by decide)]
    rfl
  | k + 1, fu, hkr, hfu => by
    obtain ⟨fu, rfl⟩ : ∃ z, fu = z + 1 := ⟨fu - 1, by omega⟩
    have hn := hV.n hw
    show fX3_lastVisit_B13 v x1 M _ _ _ = _
    unfold fX3_lastVisit_B13
    rw [nIm1 (by omega), Nat.add_sub_cancel, if_neg (nI_pos (by omega)), isGood_v hk hV hw hR (by omega), bs]
    have hd : nI k + (-1 : Int32) = nI k - 1 := by
      rcases Nat.eq_zero_or_pos k with rfl | h
      · decide
      · rw [nId1 h, nIm1 h]
    unfold dnF
    cases hg : go V w k
    · rw [if_pos (show b2 false = 0 from rfl), hd, last_L hk hV hw hR hr k fu (by omega) (by omega)]
      simp
    · rw [if_neg (show ¬ b2 true = 0 from by decide), at_in (by rw [lkf3_1 hk]; omega), bs, (hR k (by omega)).2.1]
      by_cases e : V.2.2 w 3 k = V.2.2 w 3 r
      · rw [if_pos e]
        simp [e, oI]
      · rw [if_neg e, hd, last_L hk hV hw hR hr k fu (by omega) (by omega)]
        simp [e]
theorem last_v {r : Nat} (hk : kd v = 3) (hV : OkV V) (hw : w < 4) (hR : rows1 V w v (V.2.1 w) M) (hr : r < V.2.1 w) : fX3_lastVisit v (nI r) M = some (oI (lastV V w r)) := by
  have hn := hV.n hw
  unfold fX3_lastVisit
  rw [at_in (by rw [lkf3_1 hk]; omega), bs, (hR r hr).2.1]
  exact last_L hk hV hw hR hr r FU (Nat.le_refl _) (by unfold FU; omega)
/-- the loops that lie in the rows -/
def lpRows (L : List (Nat × Nat)) (a b : Nat) (M : wM) : Prop := ∀ k x, L[k]? = some x → M.1 a k = nI x.1 ∧ M.1 b k = nI x.2
theorem lpRows_add {L : List (Nat × Nat)} {a b : Nat} {M M2 : wM} {x : Nat × Nat} (h : lpRows L a b M) (h1 : M2.1 a L.length = nI x.1) (h2 : M2.1 b L.length = nI x.2) (h3 : ∀ j, j ≠ L.length → M2.1 a j = M.1 a j ∧ M2.1 b j = M.1 b j) : lpRows (L ++ [x]) a b M2 := by
  intro k y hy
  rcases Nat.lt_or_ge k L.length with hk | hk
  · rw [List.getElem?_append_left hk] at hy
    obtain ⟨q1, q2⟩ := h3 k (by omega)
    rw [q1, q2]
    exact h k y hy
  · rw [List.getElem?_append_right hk] at hy
    have e : k - L.length = 0 := by
      rcases Nat.eq_zero_or_pos (k - L.length) with q | q
      · exact q
      · rw [List.getElem?_eq_none (by simp; omega)] at hy; cases hy
    rw [e] at hy
    cases hy
    have e2 : k = L.length := by omega
    subst e2
    exact ⟨h1, h2⟩
theorem find_L (hk : kd v = 3) (hV : OkV V) (hw : w < 4) : ∀ (c k fu : Nat) (N : wM), k + c = V.2.1 w → c < fu → SV1 V w v N → N.1 v 11 = nI (lps V w k).length → lpRows (lps V w k) (v + 7) (v + 8) N → ∃ M', fX3_findLoops_L7 v fu (nI k) N = some M' ∧ Fr (fun i => i = v ∨ i = v + 7 ∨ i = v + 8) N M' ∧ (∀ j, j ≠ 11 → M'.1 v j = N.1 v j) ∧ M'.1 v 11 = nI (lpL V w).length ∧ lpRows (lpL V w) (v + 7) (v + 8) M'
  | 0, k, fu, N, hkc, hfu, hS, h11, hL => by
    obtain ⟨fu, rfl⟩ : ∃ z, fu = z + 1 := ⟨fu - 1, by omega⟩
    have hn := hV.n hw
    have ek : k = V.2.1 w := by omega
    subst ek
    refine ⟨N, ?_, Fr.rf, fun _ _ => rfl, h11, hL⟩
    show fX3_findLoops_B7 v _ (nI _) N = _
    unfold fX3_findLoops_B7
    rw [hS.1, if_pos ((nI_leI (by omega) (by omega)).mpr (Nat.le_refl _))]
  | c + 1, k, fu, N, hkc, hfu, hS, h11, hL => by
    obtain ⟨fu, rfl⟩ : ∃ z, fu = z + 1 := ⟨fu - 1, by omega⟩
    have hn := hV.n hw
    have hlen := lps_len (V := V) (w := w) k
    have skip : lpAt V w k = [] → ∃ M', fX3_findLoops_L7 v fu (nI (k + 1)) N = some M' ∧ Fr (fun i => i = v ∨ i = v + 7 ∨ i = v + 8) N M' ∧ (∀ j, j ≠ 11 → M'.1 v j = N.1 v j) ∧ M'.1 v 11 = nI (lpL V w).length ∧ lpRows (lpL V w) (v + 7) (v + 8) M' := fun e => by
      have e2 : lps V w (k + 1) = lps V w k := by unfold lps; rw [e, List.append_nil]; cases k <;> rfl
      exact find_L hk hV hw c (k + 1) fu N (by omega) (by omega) hS (by rw [e2]; exact h11) (by rw [e2]; exact hL)
    show ∃ M', fX3_findLoops_B7 v _ (nI k) N = _ ∧ _
    unfold fX3_findLoops_B7
    rw [hS.1, if_neg (by rw [nI_leI (by omega) (by omega)]; omega), isGood_v hk hV hw hS.2 (by omega), bs]
    cases hg : go V w k
    · rw [if_pos (show b2 false = 0 from rfl)]
      unfold fX3_findLoops_J32
      rw [if_pos rfl, nIp1]
      exact skip (by unfold lpAt; rw [hg]; rfl)
    · rw [if_neg (show ¬ b2 true = 0 from by decide), last_v hk hV hw hS.2 (by omega), bs]
      unfold fX3_findLoops_J32
      cases hl : lastV V w k with
      | none =>
        rw [if_pos (show oI none = -1 from rfl), nIp1]
        exact skip (by unfold lpAt; rw [hg, hl]; rfl)
      | some b =>
        have hb := dnF_lt hl
        have e1 : lpAt V w k = [(b, k)] := by unfold lpAt; rw [hg, hl]; rfl
        have e2 : lps V w (k + 1) = lps V w k ++ [(b, k)] := by rw [← e1]; rfl
        rw [if_neg (show ¬ oI (some b) = -1 from fun q => by
          have q2 : nI b = -1 := q
          have q3 := congrArg Int32.toInt q2
          rw [nI_toInt (by omega), show (-1 : Int32).toInt = -1 from by decide] at q3
          omega), h11, put_in (by rw [lkf3_6 hk]; omega), bs, st_row (show v ≠ v + 7 by omega), h11, put_in (by rw [lkf3_7 hk]; omega), bs, st_row (show v ≠ v + 8 by omega), st_row (show v ≠ v + 7 by omega), h11, nIp1, nIp1, show oI (some b) = nI b from rfl]
        have kp : ∀ i, i ≠ v → i ≠ v + 7 → i ≠ v + 8 → (st (st (st N (v + 7) (lps V w k).length (nI b)) (v + 8) (lps V w k).length (nI k)) v 11 (nI ((lps V w k).length + 1))).1 i = N.1 i := fun i h1 h2 h3 => by rw [st_row h1, st_row h3, st_row h2]
        obtain ⟨M', a1, a2, a3, a4, a5⟩ := find_L hk hV hw c (k + 1) fu _ (by omega) (by omega) (hS.keep (M2 := st (st (st N (v + 7) (lps V w k).length (nI b)) (v + 8) (lps V w k).length (nI k)) v 11 (nI ((lps V w k).length + 1))) (by rw [st_col (by omega), st_row (by omega), st_row (by omega)]) (fun i h1 h2 => kp i (by omega) (by omega) (by omega))) (by rw [st_same, e2]; simp) (by
          rw [e2]
          refine lpRows_add hL ?_ ?_ (fun j hj => ⟨?_, ?_⟩)
          · rw [st_row (by omega), st_row (by omega), st_same]
          · rw [st_row (by omega), st_same]
          · rw [st_row (by omega), st_row (by omega), st_col hj]
          · rw [st_row (by omega), st_col hj, st_row (by omega)])
        exact ⟨M', a1, (((Fr.st (P := fun i => i = v ∨ i = v + 7 ∨ i = v + 8) (Or.inr (Or.inl rfl))).tr (Fr.st (Or.inr (Or.inr rfl)))).tr (Fr.st (Or.inl rfl))).tr a2, fun j hj => by rw [a3 j hj, st_col hj, st_row (by omega), st_row (by omega)], a4, a5⟩
end SV

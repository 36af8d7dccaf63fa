/-! what holds of every view: points and counts -/
section F2
variable {V : wV} {w : Nat}
/-- what the sum of a point holds: least and greatest in order and small, one alone -/
def wTok (s : wT) : Prop := 0 < s.2.1 → (-100000000 ≤ s.2.2.1.toInt ∧ s.2.2.1.toInt ≤ s.2.2.2.toInt ∧ s.2.2.2.toInt ≤ 100000000) ∧ (s.2.1 = 1 → s.2.2.1 = s.2.2.2)
theorem adS_ok {s : wT} {h : Int32} (hs : wTok s) (h1 : -100000000 ≤ h.toInt) (h2 : h.toInt ≤ 100000000) : wTok (adS s h) := by
  intro _
  unfold adS
  by_cases e : s.2.1 = 0
  · simp only [e, if_true]
    exact ⟨⟨h1, Int.le_refl _, h2⟩, fun _ => trivial⟩
  · simp only [if_neg e]
    obtain ⟨⟨a1, a2, a3⟩, -⟩ := hs (by omega)
    refine ⟨?_, fun q => absurd q (by omega)⟩
    by_cases c1 : h < s.2.2.1 <;> by_cases c2 : s.2.2.2 < h
    · have q1 := Int32.lt_iff_toInt_lt.mp c1
      have q2 := Int32.lt_iff_toInt_lt.mp c2
      simp only [if_pos c1, if_pos c2]; omega
    · have q1 := Int32.lt_iff_toInt_lt.mp c1
      simp only [if_pos c1, if_neg c2]; omega
    · have q1 : ¬ h.toInt < s.2.2.1.toInt := fun q => c1 (Int32.lt_iff_toInt_lt.mpr q)
      have q2 := Int32.lt_iff_toInt_lt.mp c2
      simp only [if_neg c1, if_pos c2]; omega
    · simp only [if_neg c1, if_neg c2]; omega
theorem ptF_ok {p : Int32} (hV : OkV V) (hw : w < 4) : ∀ {c k : Nat} {s : wT}, k + c ≤ V.2.1 w → wTok s → wTok (foldF (ptS V w p) k c s)
  | 0, k, s, _, hs => hs
  | c + 1, k, s, hk, hs => by
    rw [show foldF (ptS V w p) k (c + 1) s = foldF (ptS V w p) (k + 1) c (ptS V w p s k) from rfl]
    refine ptF_ok hV hw (c := c) (k := k + 1) (by omega) ?_
    unfold ptS
    by_cases q : inP V w p k = true
    · rw [if_pos q]
      have hg : go V w k = true := by
        unfold inP at q
        simp only [Bool.and_eq_true] at q
        exact q.1.1
      have b := cor_b hV hw (show k < V.2.1 w by omega) hg
      exact adS_ok hs b.1 b.2
    · rw [if_neg q]; exact hs
theorem ptA_ok {p : Int32} (hV : OkV V) : wTok (ptA V p) := by
  unfold ptA ptW
  exact ptF_ok hV (by omega) (by omega) (ptF_ok hV (by omega) (by omega) (ptF_ok hV (by omega) (by omega) (fun q => absurd q (by decide))))
theorem spread_ok {p : Int32} (hV : OkV V) (h : (ptA V p).2.1 ≠ 0) : (0 : Int32) ≤ ptR (ptA V p) 1 ∧ ((ptA V p).2.1 = 1 → ptR (ptA V p) 1 = 0) := by
  obtain ⟨⟨a1, a2, a3⟩, a4⟩ := ptA_ok (p := p) hV (by omega)
  unfold ptR
  rw [if_neg (by decide), if_neg h, if_neg (by decide)]
  refine ⟨?_, fun q => by rw [a4 q, Int32.sub_self]⟩
  rw [Int32.le_iff_toInt_le, show (0 : Int32).toInt = 0 from by decide, fb_subI (by omega) (by omega)]
  omega
theorem ptF_cnt {p : Int32} : ∀ {c k : Nat} {s : wT}, (foldF (ptS V w p) k c s).2.1 = s.2.1 + cntR (inP V w p) k c
  | 0, k, s => rfl
  | c + 1, k, s => by
    rw [show foldF (ptS V w p) k (c + 1) s = foldF (ptS V w p) (k + 1) c (ptS V w p s k) from rfl, ptF_cnt (c := c) (k := k + 1), cstep]
    unfold ptS
    by_cases q : inP V w p k = true
    · rw [if_pos q, if_pos q]
      show s.2.1 + 1 + _ = _
      omega
    · rw [if_neg q, if_neg q]
      omega
/-- readings that give something, and all of them by points -/
def gv (V : wV) (w r : Nat) : Bool := go V w r && !endsO V w r
def nPt (V : wV) (p : Nat) : Nat := (ptA V (nI p)).2.1
theorem nPt_eq {p : Nat} : nPt V p = cntF (inP V 1 (nI p)) (V.2.1 1) + cntF (inP V 2 (nI p)) (V.2.1 2) + cntF (inP V 3 (nI p)) (V.2.1 3) := by
  unfold nPt ptA ptW
  rw [ptF_cnt, ptF_cnt, ptF_cnt, cntR_0, cntR_0, cntR_0]
  dsimp only
  omega
def sm (f : Nat → Nat) : Nat → Nat
  | 0 => 0
  | p + 1 => sm f p + f p
theorem sm_add {f g h : Nat → Nat} (e : ∀ p, f p = g p + h p) : ∀ n, sm f n = sm g n + sm h n
  | 0 => rfl
  | n + 1 => by
    unfold sm
    rw [sm_add e n, e n]
    omega
theorem sm_0 : ∀ n, sm (fun _ => 0) n = 0
  | 0 => rfl
  | n + 1 => by unfold sm; rw [sm_0 n]
theorem sm_le {f : Nat → Nat} {b : Nat} (h : ∀ p, f p ≤ b) : ∀ n, sm f n ≤ n * b
  | 0 => Nat.zero_le _
  | n + 1 => by
    have := sm_le h n
    have := h n
    unfold sm
    rw [Nat.succ_mul]
    omega
theorem pt_num {r : Nat} (hV : OkV V) (hw : w < 4) (hr : r < V.2.1 w) : ∃ j : Nat, j < 10 ∧ V.2.2 w 3 r = nI j := by
  obtain ⟨-, -, -, -, -, -, h1, h2⟩ := (hV.2 w hw).2.1 r hr
  obtain ⟨j, hj, e⟩ := nI_of2 (x := V.2.2 w 3 r) (M := 9) (n := 9) (by decide) (Int32.not_lt.mpr h1) h2
  exact ⟨j, by omega, e⟩
theorem one_pt {r : Nat} (hV : OkV V) (hw : w < 4) (hr : r < V.2.1 w) : sm (fun p => if inP V w (nI p) r = true then 1 else 0) 10 = if gv V w r = true then 1 else 0 := by
  obtain ⟨j, hj, e⟩ := pt_num hV hw hr
  unfold inP gv
  rw [e]
  cases go V w r
  · simp only [Bool.false_and, Bool.false_eq_true, if_false]; exact sm_0 10
  · cases endsO V w r
    · simp only [Bool.true_and, Bool.not_false, Bool.and_true, decide_eq_true_eq, if_true]
      rcases (show j = 0 ∨ j = 1 ∨ j = 2 ∨ j = 3 ∨ j = 4 ∨ j = 5 ∨ j = 6 ∨ j = 7 ∨ j = 8 ∨ j = 9 by omega) with rfl | rfl | rfl | rfl | rfl | rfl | rfl | rfl | rfl | rfl <;> decide
    · simp only [Bool.not_true, Bool.and_false, Bool.false_eq_true, if_false]; exact sm_0 10
theorem all_pt (hV : OkV V) (hw : w < 4) : ∀ n, n ≤ V.2.1 w → sm (fun p => cntF (inP V w (nI p)) n) 10 = cntF (gv V w) n
  | 0, _ => sm_0 10
  | n + 1, hn => by
    rw [sm_add (f := fun p => cntF (inP V w (nI p)) (n + 1)) (g := fun p => cntF (inP V w (nI p)) n) (h := fun p => if inP V w (nI p) n = true then 1 else 0) (fun p => rfl) 10, all_pt hV hw n (by omega), one_pt hV hw (by omega)]
    rfl
def nGv (V : wV) : Nat := cntF (gv V 1) (V.2.1 1) + cntF (gv V 2) (V.2.1 2) + cntF (gv V 3) (V.2.1 3)
theorem sum_pt (hV : OkV V) : sm (nPt V) 10 = nGv V := by
  rw [sm_add (f := nPt V) (g := fun p => cntF (inP V 1 (nI p)) (V.2.1 1) + cntF (inP V 2 (nI p)) (V.2.1 2)) (h := fun p => cntF (inP V 3 (nI p)) (V.2.1 3)) (fun p => nPt_eq) 10, sm_add (f := fun p => cntF (inP V 1 (nI p)) (V.2.1 1) + cntF (inP V 2 (nI p)) (V.2.1 2)) (fun p => rfl) 10, all_pt hV (by omega) _ (Nat.le_refl _), all_pt hV (by omega) _ (Nat.le_refl _), all_pt hV (by omega) _ (Nat.le_refl _)]
  rfl
theorem cntF_split {a b c : Nat → Bool} (h1 : ∀ r, c r = true → a r = true) (h2 : ∀ r, a r = true → c r = true ∨ b r = true) : ∀ n, cntF c n ≤ cntF a n ∧ cntF a n ≤ cntF c n + cntF b n
  | 0 => ⟨Nat.le_refl _, Nat.zero_le _⟩
  | n + 1 => by
    obtain ⟨q1, q2⟩ := cntF_split h1 h2 n
    have k1 := h1 n
    have k2 := h2 n
    unfold cntF
    cases ha : a n <;> cases hb : b n <;> cases hc : c n <;> simp_all <;> omega
theorem ends_lp {n : Nat} (hV : OkV V) (hw : w < 4) : ∀ m, m ≤ V.2.1 w → cntF (fun r => go V w r && endsO V w r) m ≤ (lps V w m).length
  | 0, _ => Nat.zero_le _
  | m + 1, hm => by
    have ih := ends_lp (n := n) hV hw m (by omega)
    unfold lps cntF
    rw [List.length_append]
    by_cases q : (go V w m && endsO V w m) = true
    · rw [if_pos q]
      simp only [Bool.and_eq_true] at q
      have q2 := q.2
      unfold endsO at q2
      cases e : opn V w m with
      | none => rw [e] at q2; cases q2
      | some k =>
        rw [e] at q2
        have hl : le2 V w k = m := of_decide_eq_true q2
        have := lp_at (opn_lt e)
        rw [hl] at this
        have := List.length_pos_iff.mpr this
        omega
    · rw [if_neg q]; omega
theorem gv_b (hV : OkV V) (hw : w < 4) : cntF (gv V w) (V.2.1 w) ≤ cntF (go V w) (V.2.1 w) ∧ cntF (go V w) (V.2.1 w) ≤ cntF (gv V w) (V.2.1 w) + (lpL V w).length := by
  have h := cntF_split (a := go V w) (b := fun r => go V w r && endsO V w r) (c := gv V w) (fun r h => by unfold gv at h; simp only [Bool.and_eq_true] at h; exact h.1) (fun r h => by
    unfold gv
    rw [h]
    cases endsO V w r
    · exact Or.inl rfl
    · exact Or.inr rfl) (V.2.1 w)
  have h2 := ends_lp (n := 0) hV hw (V.2.1 w) (Nat.le_refl _)
  have e : (lpL V w).length = (lps V w (V.2.1 w)).length := rfl
  omega
theorem all_b (hV : OkV V) : nGv V ≤ nGo V ∧ nGo V ≤ nGv V + nLp V ∧ nGo V ≤ 60 ∧ nLp V ≤ 60 := by
  have a := gv_b hV (show 1 < 4 by omega)
  have b := gv_b hV (show 2 < 4 by omega)
  have c := gv_b hV (show 3 < 4 by omega)
  have n1 := hV.n (show 1 < 4 by omega)
  have n2 := hV.n (show 2 < 4 by omega)
  have n3 := hV.n (show 3 < 4 by omega)
  have c1 := cntF_le (p := go V 1) (V.2.1 1)
  have c2 := cntF_le (p := go V 2) (V.2.1 2)
  have c3 := cntF_le (p := go V 3) (V.2.1 3)
  have l1 := lpL_len (V := V) (w := 1)
  have l2 := lpL_len (V := V) (w := 2)
  have l3 := lpL_len (V := V) (w := 3)
  unfold nGv nGo nLp
  omega
end F2

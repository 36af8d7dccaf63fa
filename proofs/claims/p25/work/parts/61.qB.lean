/-! what holds of every view: loops -/
section F1
variable {V : wV} {w : Nat}
theorem lpAt_pt {r : Nat} {L : Nat × Nat} (h : L ∈ lpAt V w r) : V.2.2 w 3 L.1 = V.2.2 w 3 r := by
  unfold lpAt at h
  split at h
  · cases e : lastV V w r with
    | none => rw [e] at h; cases h
    | some b =>
      rw [e] at h
      simp at h
      subst h
      have q := (dnF_lt e).2
      simp at q
      exact q.2
  · cases h
theorem lps_at {L : Nat × Nat} : ∀ {r}, L ∈ lps V w r → L ∈ lpAt V w L.2
  | 0, h => by cases h
  | r + 1, h => by
    unfold lps at h
    rcases List.mem_append.mp h with h | h
    · exact lps_at h
    · rw [(lpAt_mem h).1]; exact h
theorem lps_asc : ∀ {r k k' : Nat} {x x' : Nat × Nat}, k < k' → (lps V w r)[k]? = some x → (lps V w r)[k']? = some x' → x.2 < x'.2
  | 0, k, k', x, x', _, h, _ => by simp [lps] at h
  | r + 1, k, k', x, x', hk, h, h' => by
    unfold lps at h h'
    have hl := lpAt_len (V := V) (w := w) (r := r)
    have inl : ∀ {i : Nat} {y : Nat × Nat}, (lps V w r ++ lpAt V w r)[i]? = some y → i < (lps V w r).length → (lps V w r)[i]? = some y := fun hy hi => by rwa [List.getElem?_append_left hi] at hy
    have inr : ∀ {i : Nat} {y : Nat × Nat}, (lps V w r ++ lpAt V w r)[i]? = some y → (lps V w r).length ≤ i → y ∈ lpAt V w r ∧ i = (lps V w r).length := fun {i y} hy hi => by
      rw [List.getElem?_append_right hi] at hy
      refine ⟨List.mem_of_getElem? hy, ?_⟩
      rcases Nat.lt_or_ge (i - (lps V w r).length) (lpAt V w r).length with q | q
      · omega
      · rw [List.getElem?_eq_none q] at hy; cases hy
    rcases Nat.lt_or_ge k (lps V w r).length with a | a <;> rcases Nat.lt_or_ge k' (lps V w r).length with b | b
    · exact lps_asc hk (inl h a) (inl h' b)
    · have q := (lps_mem (List.mem_of_getElem? (inl h a))).2.1
      have q2 := (lpAt_mem (inr h' b).1).1
      omega
    · omega
    · have q := (inr h a).2
      have q2 := (inr h' b).2
      omega
theorem le2_asc {k k' : Nat} (hk : k < k') (h : k' < (lpL V w).length) : le2 V w k < le2 V w k' :=
  lps_asc (V := V) (w := w) (r := V.2.1 w) hk (lpL_k (show k < (lpL V w).length by omega)) (lpL_k h)
theorem lp_pt {k : Nat} (h : k < (lpL V w).length) : V.2.2 w 3 (lb V w k) = V.2.2 w 3 (le2 V w k) :=
  lpAt_pt (lps_at (L := (lb V w k, le2 V w k)) (List.mem_of_getElem? (lpL_k h)))
theorem lp_at {k : Nat} (h : k < (lpL V w).length) : lpAt V w (le2 V w k) ≠ [] := by
  have q := lps_at (L := (lb V w k, le2 V w k)) (List.mem_of_getElem? (lpL_k h))
  exact List.ne_nil_of_mem q
theorem foldF_last {σ : Type} {g : σ → Nat → σ} : ∀ {c k : Nat} {s : σ}, foldF g k (c + 1) s = g (foldF g k c s) (k + c)
  | 0, k, s => rfl
  | c + 1, k, s => by
    rw [show foldF g k (c + 1 + 1) s = foldF g (k + 1) (c + 1) (g s k) from rfl, foldF_last (c := c) (k := k + 1)]
    rw [show k + 1 + c = k + (c + 1) by omega]
    rfl
/-! the second way comes to the same -/
theorem tel (x y z b : Int32) : (x - b) + (y - x) = y - b := by
  rw [Int32.add_comm, Int32.sub_eq_add_neg (a := y) (b := x), Int32.add_assoc, Int32.sub_eq_add_neg (a := x), ← Int32.add_assoc (-x), Int32.add_left_neg, Int32.zero_add, ← Int32.sub_eq_add_neg]
theorem stS_tel {b : Int32} : ∀ {c k : Nat} {a : Int32 × Nat}, a.1 = hI (hh V w a.2) - b → (foldF (stS V w) k c a).1 = hI (hh V w (foldF (stS V w) k c a).2) - b
  | 0, k, a, h => h
  | c + 1, k, a, h => by
    rw [show foldF (stS V w) k (c + 1) a = foldF (stS V w) (k + 1) c (stS V w a k) from rfl]
    refine stS_tel (c := c) (k := k + 1) ?_
    unfold stS
    by_cases hg : go V w k = true
    · rw [if_pos hg]
      show a.1 + (hI (hh V w k) - hI (hh V w a.2)) = hI (hh V w k) - b
      rw [h]
      exact tel _ _ 0 _
    · rw [if_neg hg]; exact h
theorem by_mis {k : Nat} (h : k < (lpL V w).length) : mis V w k = bySt V w k := by
  obtain ⟨h1, h2, h3, h4⟩ := lpL_in h
  unfold mis bySt
  obtain ⟨c, hc⟩ : ∃ c, le2 V w k - lb V w k = c + 1 := ⟨le2 V w k - lb V w k - 1, by omega⟩
  rw [stS_tel (b := hI (hh V w (lb V w k))) (by show (0 : Int32) = _; rw [Int32.sub_self]), hc, foldF_last, show lb V w k + 1 + c = le2 V w k by omega]
  unfold stS
  rw [if_pos h4]
/-! the open loop -/
theorem opS_in {r k : Nat} {best : Option Nat} (hb : ∀ j, best = some j → lb V w j ≤ r ∧ r ≤ le2 V w j) : ∀ j, opS V w r best k = some j → lb V w j ≤ r ∧ r ≤ le2 V w j := by
  intro j h
  by_cases q : lb V w k ≤ r ∧ r ≤ le2 V w k
  · rcases opS_or (V := V) (w := w) (r := r) (best := best) (k := k) with e | e
    · rw [e] at h; cases h; exact q
    · rw [e] at h; exact hb j h
  · have e : opS V w r best k = best := by
      unfold opS
      refine if_neg (fun z => q ?_)
      simp only [Bool.and_eq_true, decide_eq_true_eq] at z
      exact z.1
    rw [e] at h; exact hb j h
theorem opF_in {r : Nat} : ∀ {c k : Nat} {best : Option Nat}, (∀ j, best = some j → lb V w j ≤ r ∧ r ≤ le2 V w j) → ∀ j, foldF (opS V w r) k c best = some j → lb V w j ≤ r ∧ r ≤ le2 V w j
  | 0, k, best, hb, j, h => hb j h
  | c + 1, k, best, hb, j, h => opF_in (c := c) (k := k + 1) (best := opS V w r best k) (opS_in hb) j h
theorem opn_in {r j : Nat} (h : opn V w r = some j) : lb V w j ≤ r ∧ r ≤ le2 V w j := opF_in (fun j h => by cases h) j h
theorem oV_some {r k : Nat} (hn : V.2.1 w ≤ 20) (hk : k < 2 ^ 31) (h : oV V w r = nI k) : go V w r = true ∧ opn V w r = some k := by
  unfold oV at h
  have hl := lpL_len (V := V) (w := w)
  by_cases hg : go V w r = true
  · rw [if_pos hg] at h
    refine ⟨hg, ?_⟩
    cases e : opn V w r with
    | none => rw [e] at h; exact absurd h.symm (oI_ne hk)
    | some j =>
      rw [e] at h
      have hj := opn_lt e
      rw [(nI_eq (by omega) hk).mp (show nI j = nI k from h)]
  · rw [if_neg hg] at h; exact absurd h.symm (oI_ne hk)
theorem dn_0 {x y : Int64} (h : x.toInt = 0) : dn x y = 0 := by
  unfold dn
  rw [h, Int.zero_ediv]
  rfl
theorem dn_mul {x y : Int64} (hy : 0 < y.toInt) (hx : x.toInt * y.toInt < 9223372036854775808) (hx2 : -9223372036854775808 ≤ x.toInt * y.toInt) : dn (x * y) y = x := by
  unfold dn
  rw [fb_mulL hx2 hx, Int.mul_ediv_cancel _ (by omega), Int64.ofInt_toInt]
theorem cor_lb {k : Nat} (h : opn V w (lb V w k) = some k) : cor V w (lb V w k) = hI (hh V w (lb V w k)) := by
  unfold cor
  rw [h]
  show hI (hh V w (lb V w k)) - (dn ((mis V w k).toInt64 * (V.2.2 w 0 (lb V w k) - V.2.2 w 0 (lb V w k)).toInt64) (mn V w k).toInt64).toInt32 = _
  rw [Int32.sub_self, dn_0 (by rw [show (0 : Int32).toInt64 = 0 from by decide, Int64.mul_zero]; decide)]
  show _ - (0 : Int32) = _
  exact Int32.sub_zero _
theorem sub_sub' (x y : Int32) : x - (x - y) = y := by
  rw [Int32.sub_eq_add_neg, Int32.neg_sub, Int32.sub_eq_add_neg, Int32.add_comm, Int32.add_assoc, Int32.add_left_neg, Int32.add_zero]
theorem cor_le {k : Nat} (hV : OkV V) (hw : w < 4) (hk : k < (lpL V w).length) (h : opn V w (le2 V w k) = some k) : cor V w (le2 V w k) = hI (hh V w (lb V w k)) := by
  have hm := mn_pos hV hw hk
  have r1 := fb_rng (mis V w k)
  have r2 := fb_rng (mn V w k)
  unfold cor
  rw [h]
  show hI (hh V w (le2 V w k)) - (dn ((mis V w k).toInt64 * (mn V w k).toInt64) (mn V w k).toInt64).toInt32 = _
  have p : -9223372036854775808 ≤ (mis V w k).toInt * (mn V w k).toInt ∧ (mis V w k).toInt * (mn V w k).toInt < 9223372036854775808 := by
    have a1 := Int.mul_le_mul_of_nonneg_right (show (mis V w k).toInt ≤ 2147483647 by omega) (show 0 ≤ (mn V w k).toInt by omega)
    have a2 := Int.mul_le_mul_of_nonneg_right (show -2147483648 ≤ (mis V w k).toInt by omega) (show 0 ≤ (mn V w k).toInt by omega)
    omega
  rw [dn_mul (by rw [toI64]; exact hm) (by rw [toI64, toI64]; exact p.2) (by rw [toI64, toI64]; exact p.1), Int32.toInt32_toInt64]
  unfold mis
  exact sub_sub' _ _
/-- both ends in their own open loop: their corrected heights are the raw height of the begin -/
theorem ends_cor {k : Nat} (hV : OkV V) (hw : w < 4) (hk : k < (lpL V w).length) (h1 : oV V w (lb V w k) = nI k) (h2 : oV V w (le2 V w k) = nI k) : cV V w (lb V w k) = hI (hh V w (lb V w k)) ∧ cV V w (le2 V w k) = hI (hh V w (lb V w k)) := by
  have hn := hV.n hw
  have hl := lpL_len (V := V) (w := w)
  obtain ⟨g1, e1⟩ := oV_some hn (by omega) h1
  obtain ⟨g2, e2⟩ := oV_some hn (by omega) h2
  unfold cV
  rw [if_pos g1, if_pos g2]
  exact ⟨cor_lb e1, cor_le hV hw hk e2⟩
/-! heights are small -/
theorem hI_b {r : Nat} (hV : OkV V) (hw : w < 4) (hr : r < V.2.1 w) (hg : go V w r = true) : ∃ z, hh V w r = some z ∧ (hI (hh V w r)).toInt = z ∧ -12500000 ≤ z ∧ z ≤ 21000000 := by
  unfold go at hg
  simp at hg
  obtain ⟨h1, -⟩ := hg
  obtain ⟨z, hz⟩ := Option.isSome_iff_exists.mp h1
  have hb := hh_b hV hw hr hz
  refine ⟨z, hz, ?_, hb⟩
  rw [hz]
  show (Int32.ofInt z).toInt = z
  exact fb_ofI (by omega) (by omega)
theorem cor_b {r : Nat} (hV : OkV V) (hw : w < 4) (hr : r < V.2.1 w) (hg : go V w r = true) : -100000000 ≤ (cor V w r).toInt ∧ (cor V w r).toInt ≤ 100000000 := by
  obtain ⟨z, -, h1, h2, h3⟩ := hI_b hV hw hr hg
  unfold cor
  cases e : opn V w r with
  | none => show _ ≤ (hI (hh V w r)).toInt ∧ (hI (hh V w r)).toInt ≤ _; omega
  | some k =>
    have hk := opn_lt e
    obtain ⟨i1, i2⟩ := opn_in e
    obtain ⟨l1, l2, g1, g2⟩ := lpL_in hk
    obtain ⟨zb, -, b1, b2, b3⟩ := hI_b hV hw (show lb V w k < V.2.1 w by omega) g1
    obtain ⟨ze, -, e1, e2, e3⟩ := hI_b hV hw l2 g2
    have em : (mis V w k).toInt = ze - zb := by unfold mis; rw [fb_subI (by omega) (by omega)]; omega
    have hm := mn_pos hV hw hk
    have tl := (hV.r hw (show lb V w k < V.2.1 w by omega)).1
    have te := (hV.r hw l2).1
    have tr := (hV.r hw hr).1
    have emn : (mn V w k).toInt = (V.2.2 w 0 (le2 V w k)).toInt - (V.2.2 w 0 (lb V w k)).toInt := by unfold mn; rw [fb_subI (by omega) (by omega)]
    have es : (V.2.2 w 0 r - V.2.2 w 0 (lb V w k)).toInt = (V.2.2 w 0 r).toInt - (V.2.2 w 0 (lb V w k)).toInt := fb_subI (by omega) (by omega)
    have o1 : (V.2.2 w 0 (lb V w k)).toInt ≤ (V.2.2 w 0 r).toInt := by
      rcases Nat.eq_or_lt_of_le i1 with q | q
      · rw [q]; exact Int.le_refl _
      · exact Int.le_of_lt (hV.t hw q hr)
    have o2 : (V.2.2 w 0 r).toInt ≤ (V.2.2 w 0 (le2 V w k)).toInt := by
      rcases Nat.eq_or_lt_of_le i2 with q | q
      · rw [q]; exact Int.le_refl _
      · exact Int.le_of_lt (hV.t hw q l2)
    show _ ≤ (hI (hh V w r) - (dn ((mis V w k).toInt64 * (V.2.2 w 0 r - V.2.2 w 0 (lb V w k)).toInt64) (mn V w k).toInt64).toInt32).toInt ∧ (hI (hh V w r) - (dn ((mis V w k).toInt64 * (V.2.2 w 0 r - V.2.2 w 0 (lb V w k)).toInt64) (mn V w k).toInt64).toInt32).toInt ≤ _
    have p := part_b (D := ze - zb) (x := (V.2.2 w 0 r).toInt - (V.2.2 w 0 (lb V w k)).toInt) (y := (mn V w k).toInt) (by omega) (by omega) hm
    have s0 : 0 ≤ (V.2.2 w 0 r).toInt - (V.2.2 w 0 (lb V w k)).toInt := by omega
    have m1 := Int.mul_le_mul_of_nonneg_right (show ze - zb ≤ 33500000 by omega) s0
    have m2 := Int.mul_le_mul_of_nonneg_right (show -33500000 ≤ ze - zb by omega) s0
    have ex : ((mis V w k).toInt64 * (V.2.2 w 0 r - V.2.2 w 0 (lb V w k)).toInt64).toInt = (ze - zb) * ((V.2.2 w 0 r).toInt - (V.2.2 w 0 (lb V w k)).toInt) := by
      rw [fb_mulL (by rw [toI64, toI64, em, es]; omega) (by rw [toI64, toI64, em, es]; omega), toI64, toI64, em, es]
    have eq : (dn ((mis V w k).toInt64 * (V.2.2 w 0 r - V.2.2 w 0 (lb V w k)).toInt64) (mn V w k).toInt64).toInt = (ze - zb) * ((V.2.2 w 0 r).toInt - (V.2.2 w 0 (lb V w k)).toInt) / (mn V w k).toInt := by
      rw [dn_toInt (by rw [toI64]; exact hm), ex, toI64]
    generalize dn ((mis V w k).toInt64 * (V.2.2 w 0 r - V.2.2 w 0 (lb V w k)).toInt64) (mn V w k).toInt64 = q at eq ⊢
    have qb : -33500000 ≤ q.toInt ∧ q.toInt ≤ 33500000 := by
      rw [eq]
      rcases Int.le_total 0 (ze - zb) with h | h
      · have := p.1 h; omega
      · have := p.2 h; omega
    have q32 := l2i_b (x := q) (by omega) (by omega)
    rw [fb_subI (by rw [q32]; omega) (by rw [q32]; omega), q32]
    omega
theorem go_kind {r : Nat} (hV : OkV V) (hw : w < 4) (hr : r < V.2.1 w) : go V w r = (!gu V w r && !decide (hI (hh V w r) = -2000000004)) := by
  have h := hI_nf hV hw hr
  unfold go
  cases e : (hh V w r).isSome
  · rw [decide_eq_true (h.mpr e), Bool.not_true, Bool.and_false, Bool.false_and]
  · rw [decide_eq_false (fun q => by have := h.mp q; rw [e] at this; cases this), Bool.not_false, Bool.and_true, Bool.true_and]
end F1

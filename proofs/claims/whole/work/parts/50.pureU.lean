/-! changes: the same answer on both sides, the same new views -/
theorem okP_of {x : Int32} (h : inR x 0 9 = true) : okP x := by
  obtain ⟨a, b⟩ := inR_iff.mp h
  exact ⟨a, b⟩
section CH
variable {V : wV} {hs : List wV} {tl : Nat} {tx : Nat → Int32}
theorem Both.s {V2 : wV} {hs2 : List wV} {f g : wM → Option (Int32 × wM)} (ht : TXo tl tx) (r : Int32) (hc : ∀ M, IC V hs tl tx M → ∃ M2, f M = some (r, M2) ∧ FrC M M2 ∧ IC V2 hs2 tl tx M2) (hm : ∀ M, IM V hs tl tx M → ∃ M2, g M = some (r, M2) ∧ FrM M M2 ∧ IM V2 hs2 tl tx M2) : Both V hs tl tx f g := ⟨r, V2, hs2, tl, tx, ht, hc, hm⟩
theorem both_set (ht : TXo tl tx) (x v : Int32) : Both V hs tl tx (fX6_set x v) (fX7_set x v) := by
  cases h : okS x v
  · exact Both.s ht (-2000000001) (fun M hM => ⟨M, set_c0 h, Fr.rf, hM⟩) (fun M hM => ⟨M, set_m0 h, Fr.rf, hM⟩)
  · obtain ⟨k, hk, rfl⟩ := okS_k h
    exact Both.s ht (V.1 k) (fun M hM => set_c hM hk h) (fun M hM => set_m hM hk h)
theorem both_base (ht : TXo tl tx) (t p c : Int32) : Both V hs tl tx (fX6_base t p c) (fX7_base t p c) := by
  cases h : okR t p c
  · refine Both.s ht (-2000000001) (fun M hM => ⟨M, ?_, Fr.rf, hM⟩) (fun M hM => ⟨M, ?_, Fr.rf, hM⟩)
    · unfold fX6_base; rw [isReading_c, bs, h]; rfl
    · unfold fX7_base; rw [areValues_m, bs, h]; rfl
  · have c0 : ∀ M, IC V hs tl tx M → fX6_base t p c M = fX6_take (-1) 0 t p c M := fun M hM => by
      unfold fX6_base
      rw [isReading_c, bs, h, if_neg (by decide)]
      cases fX6_take (-1 : Int32) (0 : Int32) t p c M <;> rfl
    have m0 : ∀ M, IM V hs tl tx M → fX7_base t p c M = fX7_adds (nI 0) t p c 0 M := fun M hM => by
      unfold fX7_base
      rw [areValues_m, bs, h, if_neg (by decide)]
      show (fX7_adds (0 : Int32) t p c (0 : Int32) M).bind _ = fX7_adds (0 : Int32) t p c (0 : Int32) M
      cases fX7_adds (0 : Int32) t p c (0 : Int32) M <;> rfl
    have ho : okP (0 : Int32) := okP_of (by decide)
    have trk : ∀ N : wM, fX2_track 1 (-1 : Int32) N = some (tk 1 0) := fun N => rfl
    cases q : takeOk V 0 t
    · exact Both.s ht (takeA V 0 t) (fun M hM => ⟨M, by rw [c0 M hM]; exact (take_c hM (by omega) trk h ho).1 q, Fr.rf, hM⟩) (fun M hM => ⟨M, by rw [m0 M hM]; exact (adds_m hM (by omega) h ho).1 q, Fr.rf, hM⟩)
    · exact Both.s ht (takeA V 0 t) (fun M hM => by rw [c0 M hM]; exact (take_c hM (by omega) trk h ho).2 q) (fun M hM => by rw [m0 M hM]; exact (adds_m hM (by omega) h ho).2 q)
theorem both_read (ht : TXo tl tx) (x pt t p c : Int32) : Both V hs tl tx (fX6_read x pt t p c) (fX7_read x pt t p c) := by
  by_cases h1 : inR x 0 2 = false
  · refine Both.s ht (-2000000001) (fun M h => ⟨M, ?_, Fr.rf, h⟩) (fun M h => ⟨M, ?_, Fr.rf, h⟩)
    · unfold fX6_read; rw [isCell_c, bs, h1]; rfl
    · unfold fX7_read; rw [isCell_m, bs, h1]; rfl
  rw [Bool.not_eq_false] at h1
  by_cases h2 : inR pt 0 9 = false
  · refine Both.s ht (-2000000001) (fun M h => ⟨M, ?_, Fr.rf, h⟩) (fun M h => ⟨M, ?_, Fr.rf, h⟩)
    · unfold fX6_read; rw [isCell_c, bs, h1, if_neg (by decide), isPoint_c, bs, h2]; rfl
    · unfold fX7_read; rw [isCell_m, bs, h1, if_neg (by decide), in_m, bs, h2]; rfl
  rw [Bool.not_eq_false] at h2
  by_cases h : okR t p c = false
  · refine Both.s ht (-2000000001) (fun M h => ⟨M, ?_, Fr.rf, h⟩) (fun M h => ⟨M, ?_, Fr.rf, h⟩)
    · unfold fX6_read; rw [isCell_c, bs, h1, if_neg (by decide), isPoint_c, bs, h2, if_neg (by decide), isReading_c, bs, ‹okR t p c = false›]; rfl
    · unfold fX7_read; rw [isCell_m, bs, h1, if_neg (by decide), in_m, bs, h2, if_neg (by decide), areValues_m, bs, ‹okR t p c = false›]; rfl
  rw [Bool.not_eq_false] at h
  obtain ⟨k, hk, rfl⟩ := cell_of h1
  have c0 : ∀ M, IC V hs tl tx M → fX6_read (nI k) pt t p c M = fX6_take (nI k) pt t p c M := fun M hM => by
    unfold fX6_read
    rw [isCell_c, bs, h1, if_neg (by decide), isPoint_c, bs, h2, if_neg (by decide), isReading_c, bs, h, if_neg (by decide)]
    cases fX6_take (nI k) pt t p c M <;> rfl
  have m0 : ∀ M, IM V hs tl tx M → fX7_read (nI k) pt t p c M = fX7_adds (nI (k + 1)) t p c pt M := fun M hM => by
    unfold fX7_read
    rw [isCell_m, bs, h1, if_neg (by decide), in_m, bs, h2, if_neg (by decide), areValues_m, bs, h, if_neg (by decide), nIp1]
    cases fX7_adds (nI (k + 1)) t p c pt M <;> rfl
  have ho : okP pt := okP_of h2
  have trk : ∀ N : wM, fX2_track 1 (nI k) N = some (tk 1 (k + 1)) := fun N => by
    rcases (show k = 0 ∨ k = 1 ∨ k = 2 by omega) with rfl | rfl | rfl <;> rfl
  cases q : takeOk V (k + 1) t
  · exact Both.s ht (takeA V (k + 1) t) (fun M hM => ⟨M, by rw [c0 M hM]; exact (take_c hM (by omega) trk h ho).1 q, Fr.rf, hM⟩) (fun M hM => ⟨M, by rw [m0 M hM]; exact (adds_m hM (by omega) h ho).1 q, Fr.rf, hM⟩)
  · exact Both.s ht (takeA V (k + 1) t) (fun M hM => by rw [c0 M hM]; exact (take_c hM (by omega) trk h ho).2 q) (fun M hM => by rw [m0 M hM]; exact (adds_m hM (by omega) h ho).2 q)
theorem both_drop (ht : TXo tl tx) (hV : OkV V) (x r : Int32) : Both V hs tl tx (fX6_drop x r) (fX7_drop x r) := by
  cases h : rk V x r
  · exact Both.s ht (-2000000001) (fun M hM => ⟨M, drop_c0 hM h, Fr.rf, hM⟩) (fun M hM => ⟨M, drop_m0 hM h, Fr.rf, hM⟩)
  · obtain ⟨h1, h2, j, hj, rfl⟩ := rk_of hV h
    exact Both.s ht (nI (V.2.1 (wOf x) - 1)) (fun M hM => drop_c hM h1 hj h) (fun M hM => drop_m hM h1 hj h)
theorem both_undo (ht : TXo tl tx) : Both V hs tl tx fX6_undo fX7_undo := by
  rcases List.eq_nil_or_concat hs with rfl | ⟨hs, W, rfl⟩
  · exact Both.s ht (-2000000002) (fun M hM => ⟨M, undo_c0 hM, Fr.rf, hM⟩) (fun M hM => ⟨M, undo_M0 hM, Fr.rf, hM⟩)
  · rw [List.concat_eq_append]
    exact Both.s (V2 := W) (hs2 := hs) ht (nI hs.length) (fun M hM => undo_c hM) (fun M hM => undo_M hM)
end CH

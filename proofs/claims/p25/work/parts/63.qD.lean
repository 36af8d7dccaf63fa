/-! what holds of every view: the base at its own readings -/
section F3
variable {V : wV}
theorem bk_at {r : Nat} (hV : OkV V) (hr : r < V.2.1 0) : bk V (V.2.2 0 0 r) = r := by
  obtain ⟨a1, a2, a3, a4⟩ := fstF_spec (p := fun q => decide (V.2.2 0 0 r ≤ V.2.2 0 0 q)) (c := V.2.1 0) (k := 0)
  rw [show fstF (fun q => decide (V.2.2 0 0 r ≤ V.2.2 0 0 q)) 0 (V.2.1 0) = bk V (V.2.2 0 0 r) from rfl] at a1 a2 a3 a4
  rcases Nat.lt_trichotomy (bk V (V.2.2 0 0 r)) r with h | h | h
  · exfalso
    have q : V.2.2 0 0 r ≤ V.2.2 0 0 (bk V (V.2.2 0 0 r)) := of_decide_eq_true (a4 (by omega))
    have q1 := Int32.le_iff_toInt_le.mp q
    have q2 := hV.t (show 0 < 4 by omega) h hr
    omega
  · exact h
  · exfalso
    have q : ¬ V.2.2 0 0 r ≤ V.2.2 0 0 r := of_decide_eq_false (a3 r (by omega) h)
    exact q (Int32.le_refl _)
theorem hasB_at {r : Nat} (hV : OkV V) (hr : r < V.2.1 0) : hasB V (V.2.2 0 0 r) = true := hasB_iff.mpr (by rw [bk_at hV hr]; exact ⟨hr, Or.inl rfl⟩)
theorem bv_at {r f : Nat} (hV : OkV V) (hr : r < V.2.1 0) : bv V f (V.2.2 0 0 r) = (V.2.2 0 f r).toInt := by
  unfold bv
  rw [bk_at hV hr, if_pos rfl]
theorem hgt_at {r : Nat} (hV : OkV V) (hr : r < V.2.1 0) : hI (hgt V (V.2.2 0 0 r) (V.2.2 0 1 r) (V.2.2 0 2 r)) = V.1 0 := by
  unfold hgt
  rw [if_pos (hasB_at hV hr), bv_at hV hr, bv_at hV hr]
  show Int32.ofInt (rawZ _ _ _ _ _) = _
  unfold rawZ
  rw [Int.sub_self, Int.mul_zero, Int.zero_ediv, Int.add_zero]
  exact Int32.ofInt_toInt _
theorem okR_at {r : Nat} (hV : OkV V) (hr : r < V.2.1 0) : okR (V.2.2 0 0 r) (V.2.2 0 1 r) (V.2.2 0 2 r) = true := by
  obtain ⟨h1, h2, h3, h4, h5, h6, -, -⟩ := (hV.2 0 (by omega)).2.1 r hr
  unfold okR
  rw [inR_iff.mpr ⟨h1, h2⟩, inR_iff.mpr ⟨h3, h4⟩, inR_iff.mpr ⟨h5, h6⟩]
  rfl
theorem isTime_c {t : Int32} {M : wM} : fX6_isTime t M = some (inR t 0 10000) := by
  unfold fX6_isTime
  simp only [within_c, bs]
theorem baseAt_at {hs : List wV} {r y : Nat} {M : wM} (hV : OkV V) (hr : r < V.2.1 0) (hy : y < 2) (h : I0 V hs M) : fX6_baseAt (V.2.2 0 0 r) (nI y) M = some (V.2.2 0 (y + 1) r) := by
  obtain ⟨h1, h2, -⟩ := (hV.2 0 (by omega)).2.1 r hr
  have h3 : inR (nI y) 0 1 = true := inR_iff.mpr ⟨(nI_leI (a := 0) (by omega) (by omega)).mpr (by omega), (nI_leI (b := 1) (by omega) (by omega)).mpr (by omega)⟩
  unfold fX6_baseAt
  rw [isTime_c, bs, inR_iff.mpr ⟨h1, h2⟩, if_neg (by decide), within_c, bs, h3, if_neg (by decide)]
  have key : ∀ f, f < 3 → fX2_baseValue 1 (V.2.2 0 0 r) (nI f) M = some (V.2.2 0 f r) := fun f hf => by
    rw [baseValue_s (show kd 1 = 2 from rfl) hV h.2.1 hf, if_pos (hasB_at hV hr), bv_at hV hr, Int32.ofInt_toInt]
  unfold fX6_baseAt_J33
  rcases (show y = 0 ∨ y = 1 by omega) with rfl | rfl
  · rw [if_pos (show nI 0 = (0 : Int32) from rfl), show (1 : Int32) = nI 1 from rfl, key 1 (by omega), bs]
  · rw [if_neg (show ¬ nI 1 = (0 : Int32) from by decide), show (2 : Int32) = nI 2 from rfl, key 2 (by omega), bs]
theorem would_at {hs : List wV} {r : Nat} {M : wM} (hV : OkV V) (hr : r < V.2.1 0) (h : I0 V hs M) : fX6_would (V.2.2 0 0 r) (V.2.2 0 1 r) (V.2.2 0 2 r) M = some (V.1 0) := by
  have d := hV.r (w := 0) (by omega) hr
  unfold fX6_would
  rw [isReading_c, bs, okR_at hV hr, if_neg (by decide), heightAt_s (show kd 1 = 2 from rfl) hV h.2.1 d.2.1 d.2.2, bs, hgt_at hV hr]
end F3

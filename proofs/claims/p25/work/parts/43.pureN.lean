/-! the two sides of the invariant: hs the history, tl and tx the text -/
def IC (V : wV) (hs : List wV) (tl : Nat) (tx : Nat → Int32) (M : wM) : Prop := OkV V ∧ RC V 1 M ∧ (∃ o, RHo o hs M) ∧ Rooms 10 M ∧ M.1 94 1 = nI tl ∧ (∀ k, k < tl → M.1 95 k = tx k) ∧ (M.1 0 8 = 1 ∨ (M.1 0 8 = 0 ∧ SVA V M))
def FrC (M M' : wM) : Prop := Fr (fun i => i < 96) M M'
theorem RHo.keep {o : Nat} {hs : List wV} {M M2 : wM} (h : RHo o hs M) (hf : ∀ i, 19 ≤ i → i < 66 → M2.1 i = M.1 i) : RHo o hs M2 := by
  obtain ⟨ho, h1, h2, h3, h4, h5⟩ := h
  refine ⟨ho, by rw [hf 19 (by omega) (by omega)]; exact h1, by rw [hf 19 (by omega) (by omega)]; exact h2, h3, fun k V hV => ?_, fun j hj => (h5 j hj).keep (fun i g1 g2 => hf i (by omega) (by omega))⟩
  obtain ⟨q1, q2⟩ := h4 k V hV
  exact ⟨q1, q2.keep (fun i g1 g2 => hf i (by unfold pl at g1; omega) (by unfold pl at g2; omega))⟩
theorem IC.keepR {V : wV} {hs : List wV} {tl : Nat} {tx : Nat → Int32} {M M2 : wM} (h : IC V hs tl tx M) (e : ∀ i, i < 96 → i ≠ 93 → M2.1 i = M.1 i) : IC V hs tl tx M2 := by
  obtain ⟨a, b, ⟨o, c⟩, d, g, k, s⟩ := h
  refine ⟨a, b.keep (fun i h1 h2 => e i (by omega) (by omega)), ⟨o, c.keep (fun i h1 h2 => e i (by omega) (by omega))⟩, d.keep (fun i h1 h2 => e i (by omega) (by omega)), by rw [e 94 (by omega) (by omega)]; exact g, fun j hj => by rw [e 95 (by omega) (by omega)]; exact k j hj, ?_⟩
  rw [e 0 (by omega) (by omega)]
  rcases s with s | ⟨s1, s2⟩
  · exact Or.inl s
  · exact Or.inr ⟨s1, s2.keep (fun i h1 h2 => e i (by omega) (by omega))⟩
section N1
variable {V : wV} {hs : List wV} {tl : Nat} {tx : Nat → Int32} {M : wM}
theorem refresh_c (h : IC V hs tl tx M) : ∃ M', fX6_refresh M = some M' ∧ FrC M M' ∧ IC V hs tl tx M' ∧ SVA V M' := by
  obtain ⟨a, b, ⟨o, c⟩, d, g, k, s⟩ := id h
  rcases s with s | ⟨s1, s2⟩
  · have tr : ∀ (c : Nat) (N : wM), c < 3 → RC V 1 N → ∃ N', fX3_workOut (sv c) 1 (nI c) N = some N' ∧ Fr (inV (sv c)) N N' ∧ SVF V (c + 1) (sv c) N' := fun c N hc hR => workOut_v (kd_sv hc) (by unfold sv; omega) a (by omega) hR (track_c hc)
    obtain ⟨N0, a1, a2, a3⟩ := tr 0 M (by omega) b
    have b1 := b.keep (M2 := N0) (fun i h1 h2 => (a2 i (by unfold inV sv; omega)).1)
    obtain ⟨N1, c1, c2, c3⟩ := tr 1 N0 (by omega) b1
    have b2' := b1.keep (M2 := N1) (fun i h1 h2 => (c2 i (by unfold inV sv; omega)).1)
    obtain ⟨N2, d1, d2, d3⟩ := tr 2 N1 (by omega) b2'
    have kp : ∀ i, (i < 66 ∨ 93 ≤ i) → N2.1 i = M.1 i ∧ N2.2 i = M.2 i := fun i hi => by
      have q0 := a2 i (by unfold inV sv; omega)
      have q1 := c2 i (by unfold inV sv; omega)
      have q2 := d2 i (by unfold inV sv; omega)
      exact ⟨q2.1.trans (q1.1.trans q0.1), q2.2.trans (q1.2.trans q0.2)⟩
    have S : SVA V N2 := fun j hj => by
      rcases (show j = 0 ∨ j = 1 ∨ j = 2 by omega) with rfl | rfl | rfl
      · exact (a3.keep (fun i h1 h2 => (c2 i (by unfold inV; unfold sv at *; omega)).1)).keep (fun i h1 h2 => (d2 i (by unfold inV; unfold sv at *; omega)).1)
      · exact c3.keep (fun i h1 h2 => (d2 i (by unfold inV; unfold sv at *; omega)).1)
      · exact d3
    have S2 : SVA V (st N2 0 8 0) := S.keep (fun i h1 h2 => st_row (by omega))
    refine ⟨st N2 0 8 0, ?_, fun i hi => ⟨by rw [st_row (by omega)]; exact (kp i (by omega)).1, (kp i (by omega)).2⟩, ⟨a, b.keep (fun i h1 h2 => by rw [st_row (by omega)]; exact (kp i (by omega)).1), ⟨o, c.keep (fun i h1 h2 => by rw [st_row (by omega)]; exact (kp i (by omega)).1)⟩, d.keep (fun i h1 h2 => by rw [st_row (by omega)]; exact (kp i (by omega)).1), by rw [st_row (by omega), (kp 94 (by omega)).1]; exact g, fun j hj => by rw [st_row (by omega), (kp 95 (by omega)).1]; exact k j hj, Or.inr ⟨st_same, S2⟩⟩, S2⟩
    unfold fX6_refresh
    rw [if_neg (show ¬ M.1 0 8 = 0 by rw [s]; decide)]
    have e0 : fX3_workOut 66 1 (0 : Int32) M = some N0 := a1
    have e1 : fX3_workOut 75 1 (1 : Int32) N0 = some N1 := c1
    have e2 : fX3_workOut 84 1 (2 : Int32) N1 = some N2 := d1
    rw [e0, bs, e1, bs, e2, bs]
  · refine ⟨M, ?_, Fr.rf, h, s2⟩
    unfold fX6_refresh
    rw [if_pos s1]
/-- before a change: the state goes to the history, what was worked out is stale -/
theorem record_c (h : IC V hs tl tx M) : ∃ M', fX6_record M = some M' ∧ FrC M M' ∧ IC V (push5 hs V) tl tx M' ∧ M'.1 0 8 = 1 := by
  obtain ⟨a, b, ⟨o, c⟩, d, g, k, s⟩ := h
  obtain ⟨o', M1, e1, e2, e3⟩ := keep_h c a b
  have kp : ∀ i, (i < 19 ∨ 66 ≤ i) → M1.1 i = M.1 i ∧ M1.2 i = M.2 i := fun i hi => e2 i (by unfold inH; omega)
  refine ⟨st M1 0 8 1, by unfold fX6_record; rw [e1, bs], fun i hi => ⟨by rw [st_row (by omega)]; exact (kp i (by omega)).1, (kp i (by omega)).2⟩, ⟨a, b.keep (fun i h1 h2 => by rw [st_row (by omega)]; exact (kp i (by omega)).1), ⟨o', e3.keep (fun i h1 h2 => st_row (by omega))⟩, d.keep (fun i h1 h2 => by rw [st_row (by omega)]; exact (kp i (by omega)).1), by rw [st_row (by omega), (kp 94 (by omega)).1]; exact g, fun j hj => by rw [st_row (by omega), (kp 95 (by omega)).1]; exact k j hj, Or.inl st_same⟩, st_same⟩
/-- a state that shows another view behind a change of the state's own cells -/
theorem IC.change {V2 : wV} {M2 : wM} (h : IC V hs tl tx M) (h8 : M.1 0 8 = 1) (hV : OkV V2) (hR : RC V2 1 M2) (e : ∀ i, (i < 1 ∨ 10 ≤ i) → M2.1 i = M.1 i) : IC V2 hs tl tx M2 := by
  obtain ⟨a, b, ⟨o, c⟩, d, g, k, s⟩ := h
  exact ⟨hV, hR, ⟨o, c.keep (fun i h1 h2 => e i (by omega))⟩, d.keep (fun i h1 h2 => e i (by omega)), by rw [e 94 (by omega)]; exact g, fun j hj => by rw [e 95 (by omega)]; exact k j hj, Or.inl (by rw [e 0 (by omega)]; exact h8)⟩
/-! set -/
def setV (V : wV) (k : Nat) (v : Int32) : wV := (fun j => if j = k then v else V.1 j, V.2)
theorem setV_ok {k : Nat} {v : Int32} (hV : OkV V) (hk : k < 3) (h : okS (nI k) v = true) : OkV (setV V k v) := by
  refine ⟨?_, hV.2⟩
  obtain ⟨a1, a2, a3, a4, a5, a6⟩ := hV.1
  unfold okS at h
  rcases (show k = 0 ∨ k = 1 ∨ k = 2 by omega) with rfl | rfl | rfl
  · rw [if_pos (by decide)] at h
    obtain ⟨h1, h2⟩ := inR_iff.mp h
    exact ⟨h1, h2, a3, a4, a5, a6⟩
  · rw [if_neg (by decide), if_pos (by decide)] at h
    obtain ⟨h1, h2⟩ := inR_iff.mp h
    exact ⟨a1, a2, h1, h2, a5, a6⟩
  · rw [if_neg (by decide), if_neg (by decide), if_pos (by decide)] at h
    obtain ⟨h1, h2⟩ := inR_iff.mp h
    exact ⟨a1, a2, a3, a4, h1, h2⟩
theorem okS_k {x v : Int32} (h : okS x v = true) : ∃ k : Nat, k < 3 ∧ x = nI k := by
  unfold okS at h
  by_cases h0 : x = 0
  · exact ⟨0, by omega, h0⟩
  · rw [if_neg h0] at h
    by_cases h1 : x = 1
    · exact ⟨1, by omega, h1⟩
    · rw [if_neg h1] at h
      by_cases h2 : x = 2
      · exact ⟨2, by omega, h2⟩
      · rw [if_neg h2] at h; cases h
theorem set_c0 {x v : Int32} (hb : okS x v = false) : fX6_set x v M = some (-2000000001, M) := by
  unfold fX6_set
  rw [isSetting_c, bs, hb]
  rfl
theorem set_c {k : Nat} {v : Int32} (h : IC V hs tl tx M) (hk : k < 3) (hb : okS (nI k) v = true) : ∃ M', fX6_set (nI k) v M = some (V.1 k, M') ∧ FrC M M' ∧ IC (setV V k v) (push5 hs V) tl tx M' := by
  obtain ⟨M1, a1, a2, a3, a4⟩ := record_c h
  have hR := a3.2.1
  have e1 : fX2_setting 1 (nI k) M1 = some (V.1 k) := by
    unfold fX2_setting
    rw [← hR.1 k hk]
    rcases (show k = 0 ∨ k = 1 ∨ k = 2 by omega) with rfl | rfl | rfl <;> rfl
  have e2 : fX2_putSetting 1 (nI k) v M1 = some (st M1 1 (4 + k) v) := by
    unfold fX2_putSetting
    rcases (show k = 0 ∨ k = 1 ∨ k = 2 by omega) with rfl | rfl | rfl <;> rfl
  refine ⟨st M1 1 (4 + k) v, ?_, a2.tr (Fr.st (by omega)), a3.change a4 (setV_ok h.1 hk hb) ⟨fun j hj => ?_, fun w hw => ?_⟩ (fun i hi => st_row (by omega))⟩
  · unfold fX6_set
    rw [isSetting_c, bs, hb, if_neg (show ¬ b2 true = 0 from by decide), a1, bs, e1, bs, e2, bs]
  · unfold setV
    by_cases e : j = k
    · subst e; rw [st_same]; simp
    · rw [st_col (by omega)]
      show _ = if j = k then v else V.1 j
      rw [if_neg e]
      exact hR.1 j hj
  · obtain ⟨p, q, r⟩ := hR.2 w hw
    have n1 : tk 1 w ≠ 1 := by unfold tk; omega
    have n2 : tk 1 w + 1 ≠ 1 := by unfold tk; omega
    exact ⟨by rw [st_row n1]; exact p, by rw [st_row n1]; exact q, fun r' f hr hf => by rw [st_row n2]; exact r r' f hr hf⟩
end N1

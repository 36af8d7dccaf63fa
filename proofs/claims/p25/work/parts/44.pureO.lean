/-! readings come and go -/
def hasT (V : wV) (w : Nat) (t : Int32) : Bool := anyF (fun r => decide (V.2.2 w 0 r = t)) 0 (V.2.1 w)
def putV (V : wV) (w n : Nat) (d : Nat → Nat → Int32) : wV := (V.1, fun u => if u = w then n else V.2.1 u, fun u => if u = w then d else V.2.2 u)
theorem putV_n {V : wV} {w n : Nat} {d : Nat → Nat → Int32} : (putV V w n d).2.1 w = n ∧ (putV V w n d).2.2 w = d := by simp [putV]
theorem putV_o {V : wV} {w n u : Nat} {d : Nat → Nat → Int32} (h : u ≠ w) : (putV V w n d).2.1 u = V.2.1 u ∧ (putV V w n d).2.2 u = V.2.2 u := by simp [putV, h]
def insV (V : wV) (w : Nat) (ti p c pt : Int32) : wV := putV V w (V.2.1 w + 1) (insD (V.2.2 w) (insK (V.2.2 w 0) ti (V.2.1 w)) (rd4 ti p c pt))
def remV (V : wV) (w r : Nat) : wV := putV V w (V.2.1 w - 1) (remD (V.2.2 w) r)
theorem insK_hi {d0 : Nat → Int32} {x : Int32} : ∀ {n r : Nat}, insK d0 x n ≤ r → r < n → x < d0 r
  | 0, r, h1, h2 => absurd h2 (by omega)
  | n + 1, r, h1, h2 => by
    unfold insK at h1
    by_cases c : x < d0 n
    · rw [if_pos c] at h1
      rcases Nat.eq_or_lt_of_le (show r ≤ n by omega) with rfl | h
      · exact c
      · exact insK_hi h1 h
    · rw [if_neg c] at h1; omega
theorem insK_lo {d0 : Nat → Int32} {x : Int32} : ∀ {n : Nat}, 0 < insK d0 x n → d0 (insK d0 x n - 1) ≤ x
  | 0, h => absurd h (by unfold insK; omega)
  | n + 1, h => by
    unfold insK at h ⊢
    by_cases c : x < d0 n
    · rw [if_pos c] at h ⊢; exact insK_lo h
    · rw [if_neg c] at h ⊢
      rw [Nat.add_sub_cancel]
      exact Int32.not_lt.mp c
def okP (x : Int32) : Prop := (0 : Int32) ≤ x ∧ x ≤ 9
theorem insV_ok {V : wV} {w : Nat} {ti p c pt : Int32} (hV : OkV V) (hw : w < 4) (hc : V.2.1 w < cap w) (h : okR ti p c = true) (hp : okP pt) (hT : hasT V w ti = false) : OkV (insV V w ti p c pt) := by
  have hn := hV.n hw
  have hk := insK_le (d0 := V.2.2 w 0) (x := ti) (V.2.1 w)
  unfold okR at h
  simp only [Bool.and_eq_true] at h
  obtain ⟨⟨q1, q2⟩, q3⟩ := h
  obtain ⟨t1, t2⟩ := inR_iff.mp q1
  obtain ⟨p1, p2⟩ := inR_iff.mp q2
  obtain ⟨c1, c2⟩ := inR_iff.mp q3
  have ne : ∀ r, r < V.2.1 w → ¬ V.2.2 w 0 r = ti := fun r hr e => by
    have : hasT V w ti = true := anyF_iff.mpr ⟨r, by omega, by omega, decide_eq_true e⟩
    rw [hT] at this; cases this
  refine ⟨hV.1, fun u hu => ?_⟩
  by_cases e : u = w
  · subst e
    obtain ⟨e1, e2⟩ := putV_n (V := V) (w := u) (n := V.2.1 u + 1) (d := insD (V.2.2 u) (insK (V.2.2 u 0) ti (V.2.1 u)) (rd4 ti p c pt))
    unfold insV
    rw [e1, e2]
    have hi : ∀ r, insK (V.2.2 u 0) ti (V.2.1 u) ≤ r → r < V.2.1 u → ti < V.2.2 u 0 r := fun r h1 h2 => insK_hi h1 h2
    have hlo : 0 < insK (V.2.2 u 0) ti (V.2.1 u) → V.2.2 u 0 (insK (V.2.2 u 0) ti (V.2.1 u) - 1) ≤ ti := fun h => insK_lo h
    generalize insK (V.2.2 u 0) ti (V.2.1 u) = k at hk hi hlo ⊢
    have srt := (hV.2 u hu).2.2
    have lo : ∀ r, r < k → V.2.2 u 0 r < ti := fun r hr => by
      have a : V.2.2 u 0 (k - 1) < ti := by
        rcases Int32.lt_or_eq_of_le (hlo (by omega)) with h | h
        · exact h
        · exact absurd h (ne _ (by omega))
      rcases Nat.eq_or_lt_of_le (show r ≤ k - 1 by omega) with rfl | h
      · exact a
      · exact Int32.lt_trans (srt r (k - 1) h (by omega)) a
    refine ⟨by omega, fun r hr => ?_, fun r r' h1 h2 => ?_⟩
    · unfold insD
      rcases Nat.lt_trichotomy r k with h | h | h
      · simp only [if_pos h]
        exact (hV.2 u hu).2.1 r (by omega)
      · simp only [if_neg (show ¬ r < k by omega), if_pos h]
        exact ⟨t1, t2, p1, p2, c1, c2, hp.1, hp.2⟩
      · simp only [if_neg (show ¬ r < k by omega), if_neg (show ¬ r = k by omega)]
        exact (hV.2 u hu).2.1 (r - 1) (by omega)
    · unfold insD
      rcases Nat.lt_trichotomy r k with a | a | a <;> rcases Nat.lt_trichotomy r' k with b | b | b
      · rw [if_pos a, if_pos b]; exact srt r r' h1 (by omega)
      · rw [if_pos a, if_neg (show ¬ r' < k by omega), if_pos b]; exact lo r a
      · rw [if_pos a, if_neg (show ¬ r' < k by omega), if_neg (show ¬ r' = k by omega)]; exact srt r (r' - 1) (by omega) (by omega)
      · omega
      · omega
      · rw [if_neg (show ¬ r < k by omega), if_pos a, if_neg (show ¬ r' < k by omega), if_neg (show ¬ r' = k by omega)]
        exact hi (r' - 1) (by omega) (by omega)
      · omega
      · omega
      · rw [if_neg (show ¬ r < k by omega), if_neg (show ¬ r = k by omega), if_neg (show ¬ r' < k by omega), if_neg (show ¬ r' = k by omega)]
        exact srt (r - 1) (r' - 1) (by omega) (by omega)
  · obtain ⟨e1, e2⟩ := putV_o (V := V) (w := w) (n := V.2.1 w + 1) (u := u) (d := insD (V.2.2 w) (insK (V.2.2 w 0) ti (V.2.1 w)) (rd4 ti p c pt)) e
    unfold insV
    rw [e1, e2]
    exact hV.2 u hu
theorem remV_ok {V : wV} {w x : Nat} (hV : OkV V) (hw : w < 4) (hx : x < V.2.1 w) : OkV (remV V w x) := by
  refine ⟨hV.1, fun u hu => ?_⟩
  by_cases e : u = w
  · subst e
    obtain ⟨e1, e2⟩ := putV_n (V := V) (w := u) (n := V.2.1 u - 1) (d := remD (V.2.2 u) x)
    unfold remV
    rw [e1, e2]
    have h0 := hV.2 u hu
    refine ⟨by omega, fun r hr => ?_, fun r r' h1 h2 => ?_⟩
    · unfold remD
      by_cases h : r < x
      · simp only [if_pos h]; exact h0.2.1 r (by omega)
      · simp only [if_neg h]; exact h0.2.1 (r + 1) (by omega)
    · unfold remD
      by_cases a : r < x <;> by_cases b : r' < x
      · rw [if_pos a, if_pos b]; exact h0.2.2 r r' h1 (by omega)
      · rw [if_pos a, if_neg b]; exact h0.2.2 r (r' + 1) (by omega) (by omega)
      · omega
      · rw [if_neg a, if_neg b]; exact h0.2.2 (r + 1) (r' + 1) (by omega) (by omega)
  · obtain ⟨e1, e2⟩ := putV_o (V := V) (w := w) (n := V.2.1 w - 1) (u := u) (d := remD (V.2.2 w) x) e
    unfold remV
    rw [e1, e2]
    exact hV.2 u hu
/-- one track of a state is changed -/
theorem RC.putT {V : wV} {s w n : Nat} {d : Nat → Nat → Int32} {M M2 : wM} (hs : kd s = 2) (hw : w < 4) (hR : RC V s M) (hT : RT (tk s w) M2 n (cap w) d) (f : Fr (fun i => i = tk s w ∨ i = tk s w + 1) M M2) : RC (putV V w n d) s M2 := by
  refine ⟨fun k hk => by rw [(f s (by unfold tk; omega)).1]; exact hR.1 k hk, fun u hu => ?_⟩
  by_cases e : u = w
  · subst e
    obtain ⟨e1, e2⟩ := putV_n (V := V) (w := u) (n := n) (d := d)
    rw [e1, e2]
    exact hT
  · obtain ⟨e1, e2⟩ := putV_o (V := V) (w := w) (n := n) (u := u) (d := d) e
    rw [e1, e2]
    have a1 := (f (tk s u) (by unfold tk; omega)).1
    have a2 := (f (tk s u + 1) (by unfold tk; omega)).1
    obtain ⟨p, q, r⟩ := hR.2 u hu
    exact ⟨by rw [a1]; exact p, by rw [a1]; exact q, fun r' f hr hf => by rw [a2]; exact r r' f hr hf⟩
section TAKE
variable {V : wV} {hs : List wV} {tl : Nat} {tx : Nat → Int32} {M : wM}
def takeA (V : wV) (w : Nat) (t : Int32) : Int32 := if hasT V w t then -2000000002 else if cap w ≤ V.2.1 w then -2000000003 else nI (insK (V.2.2 w 0) t (V.2.1 w))
def takeOk (V : wV) (w : Nat) (t : Int32) : Bool := !hasT V w t && !decide (cap w ≤ V.2.1 w)
theorem take_c {x : Int32} {w : Nat} {pt t p c : Int32} (h : IC V hs tl tx M) (hw : w < 4) (ht : ∀ N : wM, fX2_track 1 x N = some (tk 1 w)) (hr : okR t p c = true) (hp : okP pt) : (takeOk V w t = false → fX6_take x pt t p c M = some (takeA V w t, M)) ∧ (takeOk V w t = true → ∃ M', fX6_take x pt t p c M = some (takeA V w t, M') ∧ FrC M M' ∧ IC (insV V w t p c pt) (push5 hs V) tl tx M') := by
  have hn := h.1.n hw
  have hk := kd_tk (show kd 1 = 2 from rfl) hw
  have hT := h.2.1.2 w hw
  have e1 := hasTime_t (x := t) hk hT hn
  have e2 := isFull_t hT hn (cap_le w)
  have eh : anyF (fun r => decide (V.2.2 w 0 r = t)) 0 (V.2.1 w) = hasT V w t := rfl
  unfold takeOk takeA
  constructor
  · intro hk0
    unfold fX6_take
    rw [ht M, bs, gk_ok hk, bs, e1, bs, eh]
    cases a : hasT V w t
    · rw [a] at hk0
      have b : cap w ≤ V.2.1 w := by simpa using hk0
      rw [if_pos (show b2 false = 0 from rfl), e2, bs, decide_eq_true b, if_neg (show ¬ b2 true = 0 from by decide), if_neg (by decide), if_pos b]
    · rw [if_neg (show ¬ b2 true = 0 from by decide), if_pos rfl]
  · intro hk0
    simp only [Bool.and_eq_true, Bool.not_eq_true', decide_eq_false_iff_not] at hk0
    obtain ⟨a, b⟩ := hk0
    obtain ⟨M1, r1, r2, r3, r4⟩ := record_c h
    obtain ⟨M2, i1, i2, i3⟩ := insert_t (ti := t) (p := p) (c := c) (pt := pt) hk (r3.2.1.2 w hw) (by have := cap_le w; omega)
    refine ⟨M2, ?_, r2.tr (i2.mono (fun i q => by unfold tk at q; omega)), r3.change r4 (insV_ok h.1 hw (by omega) hr hp a) (RC.putT (show kd 1 = 2 from rfl) hw r3.2.1 i3 i2) (fun i hi => (i2 i (by unfold tk; omega)).1)⟩
    unfold fX6_take
    rw [ht M, bs, gk_ok hk, bs, e1, bs, eh, a, if_pos (show b2 false = 0 from rfl), e2, bs, decide_eq_false b, if_pos (show b2 false = 0 from rfl), r1, bs, i1, bs, if_neg (by decide), if_neg b]
/-! drop -/
def wOf (x : Int32) : Nat := (x + 1).toNatClampNeg
def rk (V : wV) (x r : Int32) : Bool := inR x (-1) 2 && inR r 0 (nI (V.2.1 (wOf x)) - 1)
theorem cell4 {x : Int32} (h : inR x (-1) 2 = true) : wOf x < 4 ∧ x + 1 = nI (wOf x) ∧ ((x = -1 ∧ wOf x = 0) ∨ ∃ c : Nat, c < 3 ∧ x = nI c ∧ wOf x = c + 1) := by
  by_cases e : x = -1
  · subst e
    exact ⟨by decide, by decide, Or.inl ⟨rfl, by decide⟩⟩
  · obtain ⟨h1, h2⟩ := inR_iff.mp h
    have h0 : (0 : Int32) ≤ x := by
      rw [Int32.le_iff_toInt_le, show (0 : Int32).toInt = 0 from by decide]
      have a := Int32.le_iff_toInt_le.mp h1
      rw [show (-1 : Int32).toInt = -1 from by decide] at a
      have b : x.toInt ≠ -1 := fun q => e (Int32.toInt_inj.mp (q.trans (by decide)))
      omega
    obtain ⟨c, hc, rfl⟩ := cell_of (inR_iff.mpr ⟨h0, h2⟩)
    have ew : wOf (nI c) = c + 1 := by
      unfold wOf
      rw [nIp1, nI_clamp (by omega)]
    refine ⟨by omega, by rw [ew, nIp1], Or.inr ⟨c, hc, rfl, ew⟩⟩
theorem track_w {x : Int32} {M : wM} (h : inR x (-1) 2 = true) : fX2_track 1 x M = some (tk 1 (wOf x)) := by
  obtain ⟨-, -, q⟩ := cell4 h
  rcases q with ⟨rfl, e⟩ | ⟨c, hc, rfl, e⟩
  · rw [e]; exact track_b
  · rw [e]; exact track_c hc
theorem rd_of {n : Nat} {r : Int32} (hn : n ≤ 20) (h : inR r 0 (nI n - 1) = true) : ∃ j : Nat, j < n ∧ r = nI j := by
  obtain ⟨h1, h2⟩ := inR_iff.mp h
  rcases Nat.eq_zero_or_pos n with rfl | hp
  · exfalso
    have a := Int32.le_iff_toInt_le.mp h1
    have b := Int32.le_iff_toInt_le.mp h2
    rw [show (0 : Int32).toInt = 0 from by decide] at a
    rw [show (nI 0 - 1).toInt = -1 from by decide] at b
    omega
  · rw [nIm1 hp] at h2
    obtain ⟨j, hj, e⟩ := nI_of2 (x := r) (M := nI (n - 1)) (n := n - 1) (nI_toInt (by omega)) (Int32.not_lt.mpr h1) h2
    exact ⟨j, by omega, e⟩
theorem rk_of {x r : Int32} (hV : OkV V) (h : rk V x r = true) : inR x (-1) 2 = true ∧ wOf x < 4 ∧ ∃ j : Nat, j < V.2.1 (wOf x) ∧ r = nI j := by
  unfold rk at h
  simp only [Bool.and_eq_true] at h
  have hw := (cell4 h.1).1
  exact ⟨h.1, hw, rd_of (hV.n hw) h.2⟩
theorem isReadingOf_c {x r : Int32} (h : IC V hs tl tx M) : fX6_isReadingOf x r M = some (rk V x r) := by
  have hJ : inR x (-1) 2 = true → fX6_isReadingOf_J12 x r M = some (rk V x r) := fun hx => by
    have hw := (cell4 hx).1
    unfold fX6_isReadingOf_J12 rk
    rw [track_w hx, bs, gk_ok (kd_tk (show kd 1 = 2 from rfl) hw), bs, (h.2.1.2 _ hw).1, within_c, bs, hx, Bool.true_and]
    cases inR r 0 (nI (V.2.1 (wOf x)) - 1) <;> rfl
  unfold fX6_isReadingOf
  by_cases e : x = -1
  · rw [if_pos e]
    exact hJ (by rw [e]; decide)
  · rw [if_neg e, isCell_c, bs]
    cases hc : inR x 0 2
    · rw [if_pos (show b2 false = 0 from rfl)]
      have : inR x (-1) 2 = false := by
        cases hx : inR x (-1) 2
        · rfl
        · exfalso
          obtain ⟨-, -, q⟩ := cell4 hx
          rcases q with ⟨q, -⟩ | ⟨c, hc3, q, -⟩
          · exact e q
          · rw [q] at hc
            rcases (show c = 0 ∨ c = 1 ∨ c = 2 by omega) with rfl | rfl | rfl <;> exact absurd hc (by decide)
      unfold rk
      rw [this]; rfl
    · rw [if_neg (show ¬ b2 true = 0 from by decide)]
      obtain ⟨c, hc3, q⟩ := cell_of hc
      exact hJ (by rw [q]; rcases (show c = 0 ∨ c = 1 ∨ c = 2 by omega) with rfl | rfl | rfl <;> decide)
theorem drop_c0 {x r : Int32} (h : IC V hs tl tx M) (hk : rk V x r = false) : fX6_drop x r M = some (-2000000001, M) := by
  unfold fX6_drop
  rw [isReadingOf_c h, bs, hk]; rfl
theorem drop_c {x : Int32} {j : Nat} (h : IC V hs tl tx M) (hx : inR x (-1) 2 = true) (hj : j < V.2.1 (wOf x)) (hk : rk V x (nI j) = true) : ∃ M', fX6_drop x (nI j) M = some (nI (V.2.1 (wOf x) - 1), M') ∧ FrC M M' ∧ IC (remV V (wOf x) j) (push5 hs V) tl tx M' := by
  have hw := (cell4 hx).1
  have hn := h.1.n hw
  have hkt := kd_tk (show kd 1 = 2 from rfl) hw
  obtain ⟨M1, r1, r2, r3, r4⟩ := record_c h
  obtain ⟨M2, i1, i2, i3⟩ := remove_t hkt (r3.2.1.2 _ hw) hn hj
  refine ⟨M2, ?_, r2.tr (i2.mono (fun i q => by unfold tk at q; omega)), r3.change r4 (remV_ok h.1 hw hj) (RC.putT (show kd 1 = 2 from rfl) hw r3.2.1 i3 i2) (fun i hi => (i2 i (by unfold tk; omega)).1)⟩
  unfold fX6_drop
  rw [isReadingOf_c h, bs, hk, if_neg (show ¬ b2 true = 0 from by decide), r1, bs, track_w hx, bs, gk_ok hkt, bs, i1, bs, i3.1]
/-! undo -/
theorem undo_c0 (h : IC V [] tl tx M) : fX6_undo M = some (-2000000002, M) := by
  obtain ⟨o, ho, h1, h2, -⟩ := h.2.2.1
  unfold fX6_undo
  rw [if_pos (show M.1 19 2 = 0 from h2)]
theorem undo_c {W : wV} (h : IC V (hs ++ [W]) tl tx M) : ∃ M', fX6_undo M = some (nI hs.length, M') ∧ FrC M M' ∧ IC W hs tl tx M' := by
  obtain ⟨a, b, ⟨o, c⟩, d, g, k, s⟩ := h
  obtain ⟨M1, e1, e2, e3, e4, e5⟩ := giveBack_h c b.rooms
  have hl := c.2.2.1
  have hlen : (hs ++ [W]).length = hs.length + 1 := by simp
  have kp : ∀ i, (i < 1 ∨ 10 ≤ i) → i ≠ 19 → M1.1 i = M.1 i ∧ M1.2 i = M.2 i := fun i hi h19 => e2 i (by unfold inS; omega)
  refine ⟨st M1 0 8 1, ?_, fun i hi => ⟨by rw [st_row (by omega)]; exact (kp i (by omega) (by omega)).1, (kp i (by omega) (by omega)).2⟩, e5, e4.keep (fun i h1 h2 => st_row (by omega)), ⟨o, e3.keep (fun i h1 h2 => st_row (by omega))⟩, d.keep (fun i h1 h2 => by rw [st_row (by omega)]; exact (kp i (by omega) (by omega)).1), by rw [st_row (by omega), (kp 94 (by omega) (by omega)).1]; exact g, fun j hj => by rw [st_row (by omega), (kp 95 (by omega) (by omega)).1]; exact k j hj, Or.inl st_same⟩
  unfold fX6_undo
  rw [hl, if_neg (show ¬ nI (hs ++ [W]).length = 0 by have := c.2.2.2.1; rw [hlen] at *; exact nI_ne0 (by omega) (by omega)), e1, bs, st_row (show (19 : Nat) ≠ 0 by decide), e3.2.2.1]
end TAKE

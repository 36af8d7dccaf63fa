/-! views: settings, counts, readings (of the base: 0, of the cells: 1 to 3) -/
abbrev wV : Type := (Nat → Int32) × (Nat → Nat) × (Nat → Nat → Nat → Int32)
def tk (s w : Nat) : Nat := s + 1 + 2 * w
/-- a state of the class shows V -/
def RC (V : wV) (s : Nat) (M : wM) : Prop := (∀ k, k < 3 → M.1 s (4 + k) = V.1 k) ∧ ∀ w, w < 4 → RT (tk s w) M (V.2.1 w) (cap w) (V.2.2 w)
def OkV (V : wV) : Prop := ((-500000 : Int32) ≤ V.1 0 ∧ V.1 0 ≤ 9000000 ∧ (1 : Int32) ≤ V.1 1 ∧ V.1 1 ≤ 5000 ∧ (1 : Int32) ≤ V.1 2 ∧ V.1 2 ≤ 500) ∧ ∀ w, w < 4 → V.2.1 w ≤ cap w ∧ (∀ r, r < V.2.1 w → ((0 : Int32) ≤ V.2.2 w 0 r ∧ V.2.2 w 0 r ≤ 10000 ∧ (50000 : Int32) ≤ V.2.2 w 1 r ∧ V.2.2 w 1 r ≤ 110000 ∧ (-300 : Int32) ≤ V.2.2 w 2 r ∧ V.2.2 w 2 r ≤ 500 ∧ (0 : Int32) ≤ V.2.2 w 3 r ∧ V.2.2 w 3 r ≤ 9)) ∧ ∀ r r', r < r' → r' < V.2.1 w → V.2.2 w 0 r < V.2.2 w 0 r'
theorem OkV.n {V : wV} (h : OkV V) {w : Nat} (hw : w < 4) : V.2.1 w ≤ 20 := Nat.le_trans (h.2 w hw).1 (cap_le w)
theorem RC.keep {V : wV} {s : Nat} {M M2 : wM} (h : RC V s M) (hf : ∀ i, s ≤ i → i < s + 9 → M2.1 i = M.1 i) : RC V s M2 := by
  refine ⟨fun k hk => by rw [hf s (by omega) (by omega)]; exact h.1 k hk, fun w hw => ?_⟩
  have e1 := hf (tk s w) (by unfold tk; omega) (by unfold tk; omega)
  have e2 := hf (tk s w + 1) (by unfold tk; omega) (by unfold tk; omega)
  obtain ⟨a, b, c⟩ := h.2 w hw
  exact ⟨by rw [e1]; exact a, by rw [e1]; exact b, fun r f hr hf => by rw [e2]; exact c r f hr hf⟩
theorem kd_tk {s w : Nat} (hs : kd s = 2) (hw : w < 4) : kd (tk s w) = 5 := by
  rcases (show w = 0 ∨ w = 1 ∨ w = 2 ∨ w = 3 by omega) with rfl | rfl | rfl | rfl
  · exact kf2_0 hs
  · exact kf2_1 hs
  · exact kf2_2 hs
  · exact kf2_3 hs
theorem kd2_apart {a b : Nat} (ha : kd a = 2) (hb : kd b = 2) (h : a ≠ b) : a + 9 ≤ b ∨ b + 9 ≤ a := by
  have key : ∀ x, x < 96 → ∀ y, y < 96 → kd x = 2 → kd y = 2 → (x = y ∨ x + 9 ≤ y ∨ y + 9 ≤ x) := by decide +kernel
  exact (key a (kdlt ha (by decide)) b (kdlt hb (by decide)) ha hb).resolve_left h
theorem gk_ok {v k : Nat} (h : kd v = k) : gk v k = some () := if_pos h
theorem track_c {s c : Nat} {M : wM} (hc : c < 3) : fX2_track s (nI c) M = some (tk s (c + 1)) := by
  unfold fX2_track
  rcases (show c = 0 ∨ c = 1 ∨ c = 2 by omega) with rfl | rfl | rfl <;> rfl
theorem track_b {s : Nat} {M : wM} : fX2_track s (-1 : Int32) M = some (tk s 0) := rfl
/-- the rooms of a state's tracks -/
def Rooms (s : Nat) (M : wM) : Prop := ∀ w, w < 4 → M.1 (tk s w) 1 = nI (cap w)
theorem RC.rooms {V : wV} {s : Nat} {M : wM} (h : RC V s M) : Rooms s M := fun w hw => (h.2 w hw).2.1
theorem Rooms.keep {s : Nat} {M M2 : wM} (h : Rooms s M) (hf : ∀ i, s ≤ i → i < s + 9 → M2.1 i = M.1 i) : Rooms s M2 := fun w hw => by
  rw [hf (tk s w) (by unfold tk; omega) (by unfold tk; omega)]; exact h w hw
def inS (s i : Nat) : Prop := s ≤ i ∧ i < s + 9
theorem copyS {V : wV} {a b : Nat} {M : wM} (ha : kd a = 2) (hb : kd b = 2) (hab : a ≠ b) (hV : OkV V) (hR : RC V b M) (hr : Rooms a M) : ∃ M', fX2_copyFrom a b M = some M' ∧ Fr (inS a) M M' ∧ RC V a M' := by
  have hap := kd2_apart ha hb hab
  have step : ∀ (w : Nat) (N : wM), w < 4 → RC V b N → Rooms a N → ∃ N', fX5_copyFrom (tk a w) (tk b w) N = some N' ∧ Fr (fun i => i = tk a w ∨ i = tk a w + 1) N N' ∧ RT (tk a w) N' (V.2.1 w) (cap w) (V.2.2 w) := fun w N hw h1 h2 => copyT_RT (kd_tk ha hw) (kd_tk hb hw) (h1.2 w hw) (hV.n hw) (h2 w hw)
  have fB : ∀ {w : Nat} {N N' : wM}, w < 4 → Fr (fun i => i = tk a w ∨ i = tk a w + 1) N N' → ∀ i, b ≤ i → i < b + 9 → N'.1 i = N.1 i := fun hw h i h1 h2 => (h i (fun q => by unfold tk at q; omega)).1
  have fR : ∀ {w : Nat} {N N' : wM}, w < 4 → Fr (fun i => i = tk a w ∨ i = tk a w + 1) N N' → RT (tk a w) N' (V.2.1 w) (cap w) (V.2.2 w) → Rooms a N → Rooms a N' := fun {w N N'} hw h hT h0 u hu => by
    by_cases e : u = w
    · rw [e]; exact hT.2.1
    · rw [(h (tk a u) (fun q => by unfold tk at q; omega)).1]; exact h0 u hu
  have fT : ∀ {w u : Nat} {N N' : wM}, w < 4 → u < 4 → u ≠ w → Fr (fun i => i = tk a w ∨ i = tk a w + 1) N N' → RT (tk a u) N (V.2.1 u) (cap u) (V.2.2 u) → RT (tk a u) N' (V.2.1 u) (cap u) (V.2.2 u) := fun {w u N N'} hw hu hne h hT => by
    have e1 := (h (tk a u) (fun q => by unfold tk at q; omega)).1
    have e2 := (h (tk a u + 1) (fun q => by unfold tk at q; omega)).1
    exact ⟨by rw [e1]; exact hT.1, by rw [e1]; exact hT.2.1, fun r f hr hf => by rw [e2]; exact hT.2.2 r f hr hf⟩
  obtain ⟨M1, a1, a2, a3⟩ := step 0 M (by omega) hR hr
  have b1 := hR.keep (fB (by omega) a2)
  have r1 := fR (by omega) a2 a3 hr
  obtain ⟨M2, c1, c2, c3⟩ := step 1 M1 (by omega) b1 r1
  have b2 := b1.keep (fB (by omega) c2)
  have r2 := fR (by omega) c2 c3 r1
  obtain ⟨M3, d1, d2, d3⟩ := step 2 M2 (by omega) b2 r2
  have b3 := b2.keep (fB (by omega) d2)
  have r3 := fR (by omega) d2 d3 r2
  obtain ⟨M4, e1, e2, e3⟩ := step 3 M3 (by omega) b3 r3
  have b4 := b3.keep (fB (by omega) e2)
  have fS : ∀ {w : Nat} {N N' : wM}, w < 4 → Fr (fun i => i = tk a w ∨ i = tk a w + 1) N N' → Fr (inS a) N N' := fun hw h => h.mono (fun i q => by unfold tk at q; unfold inS; omega)
  have t0 := fT (w := 3) (u := 0) (by omega) (by omega) (by omega) e2 (fT (w := 2) (by omega) (by omega) (by omega) d2 (fT (w := 1) (by omega) (by omega) (by omega) c2 a3))
  have t1 := fT (w := 3) (u := 1) (by omega) (by omega) (by omega) e2 (fT (w := 2) (by omega) (by omega) (by omega) d2 c3)
  have t2 := fT (w := 3) (u := 2) (by omega) (by omega) (by omega) e2 d3
  have hne : b ≠ a := fun q => hab q.symm
  refine ⟨st (st (st M4 a 4 (M4.1 b 4)) a 5 (M4.1 b 5)) a 6 (M4.1 b 6), ?_, ?_, ?_, ?_⟩
  · unfold fX2_copyFrom
    rw [show a + 1 = tk a 0 from rfl, show b + 1 = tk b 0 from rfl, show a + 3 = tk a 1 from rfl, show b + 3 = tk b 1 from rfl, show a + 5 = tk a 2 from rfl, show b + 5 = tk b 2 from rfl, show a + 7 = tk a 3 from rfl, show b + 7 = tk b 3 from rfl, a1, bs, c1, bs, d1, bs, e1, bs]
    simp only [st_row hne]
  · have hia : inS a a := by unfold inS; omega
    exact ((((((fS (by omega) a2).tr (fS (by omega) c2)).tr (fS (by omega) d2)).tr (fS (by omega) e2)).tr (Fr.st hia)).tr (Fr.st hia)).tr (Fr.st hia)
  · intro k hk
    rcases (show k = 0 ∨ k = 1 ∨ k = 2 by omega) with rfl | rfl | rfl
    · rw [st_col (by omega), st_col (by omega), st_same]; exact b4.1 0 (by omega)
    · rw [st_col (by omega), st_same]; exact b4.1 1 (by omega)
    · rw [st_same]; exact b4.1 2 (by omega)
  · intro w hw
    have key : RT (tk a w) M4 (V.2.1 w) (cap w) (V.2.2 w) := by
      rcases (show w = 0 ∨ w = 1 ∨ w = 2 ∨ w = 3 by omega) with rfl | rfl | rfl | rfl
      · exact t0
      · exact t1
      · exact t2
      · exact e3
    have q1 : tk a w ≠ a := by unfold tk; omega
    have q2 : tk a w + 1 ≠ a := by unfold tk; omega
    exact ⟨by rw [st_row q1, st_row q1, st_row q1]; exact key.1, by rw [st_row q1, st_row q1, st_row q1]; exact key.2.1, fun r f hr hf => by rw [st_row q2, st_row q2, st_row q2]; exact key.2.2 r f hr hf⟩
/-! the history of the class -/
def pl (o k : Nat) : Nat := 21 + 9 * ((o + k) % 5)
theorem kd_pl (o k : Nat) : kd (pl o k) = 2 := by
  have h : (o + k) % 5 < 5 := Nat.mod_lt _ (by omega)
  unfold pl
  generalize (o + k) % 5 = j at h
  rcases (show j = 0 ∨ j = 1 ∨ j = 2 ∨ j = 3 ∨ j = 4 by omega) with rfl | rfl | rfl | rfl | rfl <;> rfl
theorem rm5 {a : Nat} (h : a < 2 ^ 31) : rmI (nI a) (5 : Int32) = some (nI (a % 5)) := by
  unfold rmI
  rw [if_neg (by decide), show (5 : Int32) = nI 5 from rfl, pk_rem h (by omega) (by omega)]
theorem place_h {o k : Nat} {M : wM} (h1 : M.1 19 1 = nI o) (ho : o < 5) (hk : k < 5) : fX0_place 19 (nI k) M = some (pl o k) := by
  have hm : (o + k) % 5 < 5 := Nat.mod_lt _ (by omega)
  unfold fX0_place
  rw [h1, nI_add, rm5 (by omega), bs, if_neg (nI_pos (by omega)), if_neg (show ¬ (5 : Int32) ≤ nI ((o + k) % 5) from fun q => absurd ((nI_leI (a := 5) (by omega) (by omega)).mp q) (by omega)), ix_in hm (by omega), bs]
  rfl
/-- the class's history: o the oldest place, hs the states, the oldest first -/
def RHo (o : Nat) (hs : List wV) (M : wM) : Prop := o < 5 ∧ M.1 19 1 = nI o ∧ M.1 19 2 = nI hs.length ∧ hs.length ≤ 5 ∧ (∀ k V, hs[k]? = some V → OkV V ∧ RC V (pl o k) M) ∧ ∀ j, j < 5 → Rooms (21 + 9 * j) M
theorem pl_ne {o k k2 : Nat} (ho : o < 5) (hk : k < 5) (hk2 : k2 < 5) (h : k ≠ k2) : pl o k ≠ pl o k2 := by unfold pl; omega
theorem pl_add (o k : Nat) : pl ((o + 1) % 5) k = pl o (k + 1) := by unfold pl; omega
theorem rooms_pl {o k : Nat} {M : wM} (h : ∀ j, j < 5 → Rooms (21 + 9 * j) M) : Rooms (pl o k) M := h _ (Nat.mod_lt _ (by omega))
/-- the history's list after a change -/
def push5 (hs : List wV) (V : wV) : List wV := (if hs.length = 5 then hs.tail else hs) ++ [V]
theorem push5_len {hs : List wV} {V : wV} (h : hs.length ≤ 5) : (push5 hs V).length ≤ 5 := by
  unfold push5
  split
  · simp; omega
  · simp; omega
def inH (i : Nat) : Prop := 19 ≤ i ∧ i < 66
theorem keep_J {o : Nat} {hs : List wV} {V : wV} {M : wM} (hl : hs.length < 5) (hH : RHo o hs M) (hV : OkV V) (hR : RC V 1 M) : ∃ M', fX0_keep_J30 19 1 M = some M' ∧ Fr inH M M' ∧ RHo o (hs ++ [V]) M' := by
  obtain ⟨ho, h1, h2, h3, h4, h5⟩ := hH
  have hne : pl o hs.length ≠ 1 := by unfold pl; omega
  obtain ⟨M', a1, a2, a3⟩ := copyS (kd_pl o hs.length) (show kd 1 = 2 from rfl) hne hV hR (rooms_pl h5)
  have p1 : 21 ≤ pl o hs.length := by unfold pl; omega
  have p2 : pl o hs.length + 9 ≤ 66 := by unfold pl; omega
  have n19 : ¬ inS (pl o hs.length) 19 := by unfold inS; omega
  refine ⟨st M' 19 2 (M'.1 19 2 + 1), ?_, (a2.mono (fun i q => by unfold inS at q; unfold inH; omega)).tr (Fr.st (by unfold inH; omega)), ho, ?_, ?_, ?_, ?_, ?_⟩
  · unfold fX0_keep_J30
    rw [h2, place_h h1 ho hl, bs, gk_ok (kd_pl o hs.length), bs, a1, bs]
  · rw [st_col (by omega), a2.at n19, h1]
  · rw [st_same, a2.at n19, h2, List.length_append]; exact nIp1 _
  · rw [List.length_append]; simp; omega
  · intro k U hU
    have keepst : ∀ {U : wV} {s : Nat}, 20 ≤ s → RC U s M' → RC U s (st M' 19 2 (M'.1 19 2 + 1)) := fun hs0 h => h.keep (fun i h1 h2 => st_row (by omega))
    rcases Nat.lt_or_ge k hs.length with hk | hk
    · rw [List.getElem?_append_left hk] at hU
      obtain ⟨q1, q2⟩ := h4 k U hU
      have hpp := pl_ne (o := o) ho (show k < 5 by omega) hl (by omega)
      refine ⟨q1, keepst (by unfold pl; omega) (q2.keep (fun i g1 g2 => ?_))⟩
      have hap := kd2_apart (kd_pl o k) (kd_pl o hs.length) hpp
      exact (a2 i (by unfold inS; omega)).1
    · rw [List.getElem?_append_right hk] at hU
      have e : k - hs.length = 0 := by
        rcases Nat.eq_zero_or_pos (k - hs.length) with q | q
        · exact q
        · rw [List.getElem?_eq_none (by simp; omega)] at hU; cases hU
      rw [e] at hU
      cases hU
      have e2 : k = hs.length := by omega
      subst e2
      exact ⟨hV, keepst (by omega) a3⟩
  · intro j hj
    have hrr : Rooms (21 + 9 * j) M' := by
      by_cases e : 21 + 9 * j = pl o hs.length
      · rw [e]; exact a3.rooms
      · have hkj : kd (21 + 9 * j) = 2 := by
          rcases (show j = 0 ∨ j = 1 ∨ j = 2 ∨ j = 3 ∨ j = 4 by omega) with rfl | rfl | rfl | rfl | rfl <;> rfl
        have hap := kd2_apart hkj (kd_pl o hs.length) e
        exact (h5 j hj).keep (fun i g1 g2 => (a2 i (by unfold inS; omega)).1)
    exact hrr.keep (fun i h1 h2 => st_row (by omega))
theorem keep_h {o : Nat} {hs : List wV} {V : wV} {M : wM} (hH : RHo o hs M) (hV : OkV V) (hR : RC V 1 M) : ∃ o' M', fX0_keep 19 1 M = some M' ∧ Fr inH M M' ∧ RHo o' (push5 hs V) M' := by
  unfold fX0_keep push5
  have hH0 := hH
  obtain ⟨ho, h1, h2, h3, h4, h5⟩ := hH
  rw [h2]
  by_cases hl : hs.length = 5
  · have e5 : nI hs.length = nI 5 := by rw [hl]
    rw [if_neg (show ¬ nI hs.length < (5 : Int32) from by rw [e5]; decide), h1, nIp1, rm5 (by omega), bs, if_pos hl]
    have hm : (o + 1) % 5 < 5 := Nat.mod_lt _ (by omega)
    have f0 : Fr inH M (st (st M 19 1 (nI ((o + 1) % 5))) 19 2 ((st M 19 1 (nI ((o + 1) % 5))).1 19 2 - 1)) := (Fr.st (by unfold inH; omega)).tr (Fr.st (by unfold inH; omega))
    have keep2 : ∀ i, 20 ≤ i → (st (st M 19 1 (nI ((o + 1) % 5))) 19 2 ((st M 19 1 (nI ((o + 1) % 5))).1 19 2 - 1)).1 i = M.1 i := fun i hi => by rw [st_row (by omega), st_row (by omega)]
    have hH1 : RHo ((o + 1) % 5) hs.tail (st (st M 19 1 (nI ((o + 1) % 5))) 19 2 ((st M 19 1 (nI ((o + 1) % 5))).1 19 2 - 1)) := by
      refine ⟨hm, ?_, ?_, ?_, ?_, ?_⟩
      · rw [st_col (by omega), st_same]
      · rw [st_same, st_col (by omega), h2, List.length_tail, nIm1 (by omega)]
      · rw [List.length_tail]; omega
      · intro k U hU
        rw [List.getElem?_tail] at hU
        obtain ⟨q1, q2⟩ := h4 (k + 1) U hU
        rw [pl_add]
        exact ⟨q1, q2.keep (fun i g1 g2 => keep2 i (by unfold pl at g1; omega))⟩
      · intro j hj
        exact (h5 j hj).keep (fun i g1 g2 => keep2 i (by omega))
    obtain ⟨M', a1, a2, a3⟩ := keep_J (by rw [List.length_tail]; omega) hH1 hV (hR.keep (fun i g1 g2 => by rw [st_row (by omega), st_row (by omega)]))
    exact ⟨_, M', a1, f0.tr a2, a3⟩
  · rw [if_pos (show nI hs.length < (5 : Int32) from (nI_ltI (b := 5) (by omega) (by omega)).mpr (by omega)), if_neg hl]
    obtain ⟨M', a1, a2, a3⟩ := keep_J (by omega) hH0 hV hR
    exact ⟨_, M', a1, a2, a3⟩
theorem giveBack_h {o : Nat} {hs : List wV} {V : wV} {M : wM} (hH : RHo o (hs ++ [V]) M) (hr : Rooms 1 M) : ∃ M', fX0_giveBack 19 1 M = some M' ∧ Fr (fun i => inS 1 i ∨ i = 19) M M' ∧ RHo o hs M' ∧ RC V 1 M' ∧ OkV V := by
  obtain ⟨ho, h1, h2, h3, h4, h5⟩ := hH
  have hlen : (hs ++ [V]).length = hs.length + 1 := by simp
  rw [hlen] at h2 h3
  have hV := h4 hs.length V (by simp)
  have hne : (1 : Nat) ≠ pl o hs.length := by unfold pl; omega
  obtain ⟨M', a1, a2, a3⟩ := copyS (show kd 1 = 2 from rfl) (kd_pl o hs.length) hne hV.1 hV.2 hr
  have n19 : ¬ inS 1 19 := by unfold inS; omega
  have kp : ∀ i, 20 ≤ i → (st M' 19 2 (M'.1 19 2 - 1)).1 i = M.1 i := fun i hi => by rw [st_row (by omega)]; exact (a2 i (by unfold inS; omega)).1
  refine ⟨st M' 19 2 (M'.1 19 2 - 1), ?_, (a2.mono (fun i q => Or.inl q)).tr (Fr.st (Or.inr rfl)), ⟨ho, ?_, ?_, by omega, ?_, ?_⟩, a3.keep (fun i g1 g2 => st_row (by omega)), hV.1⟩
  · unfold fX0_giveBack
    rw [h2, nIm1 (by omega), Nat.add_sub_cancel, place_h h1 ho (by omega), bs, gk_ok (kd_pl o hs.length), bs, a1, bs]
  · rw [st_col (by omega), a2.at n19, h1]
  · rw [st_same, a2.at n19, h2, nIm1 (by omega), Nat.add_sub_cancel]
  · intro k U hU
    have hk : k < hs.length := by
      rcases Nat.lt_or_ge k hs.length with q | q
      · exact q
      · rw [List.getElem?_eq_none q] at hU; cases hU
    obtain ⟨q1, q2⟩ := h4 k U (by rw [List.getElem?_append_left hk]; exact hU)
    exact ⟨q1, q2.keep (fun i g1 g2 => kp i (by unfold pl at g1; omega))⟩
  · intro j hj
    exact (h5 j hj).keep (fun i g1 g2 => kp i (by omega))

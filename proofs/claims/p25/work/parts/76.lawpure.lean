/-! the law as a function answers true, on every script -/
def Ch (V : wV) (hs : List wV) (f : wM → Option (Int32 × wM)) (r : Int32) (V2 : wV) (hs2 : List wV) : Prop := ∀ M, I0 V hs M → ∃ M2, f M = some (r, M2) ∧ I0 V2 hs2 M2
def Ok (o : Option (Bool × wM)) : Prop := ∃ M2, o = some (true, M2)
theorem Ok.c {V V2 : wV} {hs hs2 : List wV} {f : wM → Option (Int32 × wM)} {r : Int32} {M : wM} {g : Int32 × wM → Option (Bool × wM)} (h : Ch V hs f r V2 hs2) (hM : I0 V hs M) (k : ∀ M2, I0 V2 hs2 M2 → Ok (g (r, M2))) : Ok ((f M).bind g) := by
  obtain ⟨M2, e, h2⟩ := h M hM
  rw [e]
  exact k M2 h2
theorem Ok.q {V : wV} {hs : List wV} {f : wM → Option (Int32 × wM)} {r : Int32} {M : wM} {g : Int32 × wM → Option (Bool × wM)} (h : Qy V hs f r) (hM : I0 V hs M) (k : ∀ M2, I0 V hs M2 → Ok (g (r, M2))) : Ok ((f M).bind g) := by
  obtain ⟨M2, e, h2⟩ := h M hM
  rw [e]
  exact k M2 h2
theorem Ok.w {V : wV} {hs : List wV} {o : Option (Bool × wM)} {g : Bool × wM → Option (Bool × wM)} (h : Wp V hs o) (k : ∀ M2, I0 V hs M2 → Ok (g (true, M2))) : Ok (o.bind g) := by
  obtain ⟨M2, e, h2⟩ := h
  rw [e]
  exact k M2 h2
theorem b2t : ¬ b2 true = (0 : Int32) := by decide
theorem dv_n {a d : Nat} {x : Int32} (hx : nI d = x) (ha : a < 2 ^ 31) (h0 : 0 < d) (hd : d < 2 ^ 31) : dvI (nI a) x = some (nI (a / d)) := by
  subst hx
  unfold dvI
  rw [if_neg (nI_ne0 h0 (by omega)), pk_div ha h0 hd]
theorem rm_n {a d : Nat} {x : Int32} (hx : nI d = x) (ha : a < 2 ^ 31) (h0 : 0 < d) (hd : d < 2 ^ 31) : rmI (nI a) x = some (nI (a % d)) := by
  subst hx
  unfold rmI
  rw [if_neg (nI_ne0 h0 (by omega)), pk_rem ha h0 hd]
theorem cell_n (L : Nat) (xs : Nat → Int32) {k : Nat} (hk : k < 1000) : ∃ y : Nat, y < 2 ^ 31 ∧ cellG L xs (nI k) = some (nI y) := by
  unfold cellG cellV
  rw [if_neg (nI_pos (by omega)), pk_and _ 31 (by decide)]
  exact ⟨_, Nat.mod_lt _ (by decide), rfl⟩
theorem le_n {a : Int32} {n : Nat} {z : Int} (ha : a.toInt = z) (hn : n < 2 ^ 31) (h : z ≤ n) : a ≤ nI n := by
  rw [Int32.le_iff_toInt_le, ha, nI_toInt hn]; exact h
theorem n_le {a : Int32} {n : Nat} {z : Int} (ha : a.toInt = z) (hn : n < 2 ^ 31) (h : (n : Int) ≤ z) : nI n ≤ a := by
  rw [Int32.le_iff_toInt_le, ha, nI_toInt hn]; exact h
/-- what is read in the law is in its ranges -/
theorem okR_n {t p c d : Nat} {x : Int32} (hx : nI d = x) (ht : t ≤ 10000) (hp : 50000 ≤ p) (hp2 : p ≤ 110000) (hc : c ≤ 500) (hd : d ≤ 300) : okR (nI t) (nI p) (nI c - x) = true := by
  subst hx
  have e : (nI c - nI d).toInt = (c : Int) - d := pk_sub_toInt (by omega) (by omega)
  unfold okR
  rw [inR_iff.mpr ⟨le_n (z := 0) (by decide) (by omega) (by omega), n_le (z := 10000) (by decide) (by omega) (by omega)⟩, inR_iff.mpr ⟨le_n (z := 50000) (by decide) (by omega) (by omega), n_le (z := 110000) (by decide) (by omega) (by omega)⟩, inR_iff.mpr ⟨by rw [Int32.le_iff_toInt_le, e, show (-300 : Int32).toInt = -300 from by decide]; omega, by rw [Int32.le_iff_toInt_le, e, show (500 : Int32).toInt = 500 from by decide]; omega⟩]
  rfl
section LW
variable {V : wV} {hs : List wV}
theorem ch_base {t p c : Int32} (hr : okR t p c = true) (q : takeOk V 0 t = true) : Ch V hs (fX6_base t p c) (takeA V 0 t) (insV V 0 t p c 0) (push5 hs V) := by
  intro M hM
  have trk : ∀ N : wM, fX2_track 1 (-1 : Int32) N = some (tk 1 0) := fun N => rfl
  obtain ⟨M2, a1, -, a3⟩ := (take_c (pt := 0) hM (show 0 < 4 by omega) trk hr (okP_of (by decide))).2 q
  refine ⟨M2, ?_, a3⟩
  unfold fX6_base
  rw [isReading_c, bs, hr, if_neg (by decide), a1, bs]
theorem ch_read0 {k : Nat} {pt t p c : Int32} (hk : k < 3) (hp : inR pt 0 9 = true) (hr : okR t p c = true) (q : takeOk V (k + 1) t = false) : Qy V hs (fX6_read (nI k) pt t p c) (takeA V (k + 1) t) := by
  intro M hM
  have a1 := (take_c (pt := pt) hM (show k + 1 < 4 by omega) (fun N => track_c hk) hr (okP_of hp)).1 q
  refine ⟨M, ?_, hM⟩
  unfold fX6_read
  rw [isCell_c, bs, isC (x := nI k) hk, if_neg (by decide), isPoint_c, bs, hp, if_neg (by decide), isReading_c, bs, hr, if_neg (by decide), a1, bs]
theorem ch_read {k : Nat} {pt t p c : Int32} (hk : k < 3) (hp : inR pt 0 9 = true) (hr : okR t p c = true) (q : takeOk V (k + 1) t = true) : Ch V hs (fX6_read (nI k) pt t p c) (takeA V (k + 1) t) (insV V (k + 1) t p c pt) (push5 hs V) := by
  intro M hM
  obtain ⟨M2, a1, -, a3⟩ := (take_c (pt := pt) hM (show k + 1 < 4 by omega) (fun N => track_c hk) hr (okP_of hp)).2 q
  refine ⟨M2, ?_, a3⟩
  unfold fX6_read
  rw [isCell_c, bs, isC (x := nI k) hk, if_neg (by decide), isPoint_c, bs, hp, if_neg (by decide), isReading_c, bs, hr, if_neg (by decide), a1, bs]
theorem ch_drop {w j : Nat} (hV : OkV V) (hw : w < 4) (hj : j < V.2.1 w) : Ch V hs (fX6_drop (cx w) (nI j)) (nI (V.2.1 w - 1)) (remV V w j) (push5 hs V) := by
  intro M hM
  have ew := (cx_in hw).2
  obtain ⟨M2, a1, -, a3⟩ := drop_c hM (cx_in hw).1 (by rw [ew]; exact hj) (rk_in hV hw hj)
  rw [ew] at a1 a3
  exact ⟨M2, a1, a3⟩
theorem ch_undo {W : wV} : Ch V (hs ++ [W]) fX6_undo (nI hs.length) W hs := by
  intro M hM
  obtain ⟨M2, a1, -, a3⟩ := undo_c (V := V) hM
  exact ⟨M2, a1, a3⟩
theorem ch_set {d : Int32} (hb : okS (nI 0) (V.1 0 + d) = true) : Ch V hs (fX6_set (0 : Int32) (V.1 0 + d)) (V.1 0) (upV V d) (push5 hs V) := by
  intro M hM
  obtain ⟨M2, a1, -, a3⟩ := set_c (k := 0) hM (by omega) hb
  exact ⟨M2, a1, a3⟩
theorem hs5 {M : wM} (hM : I0 V hs M) : hs.length ≤ 5 := by
  obtain ⟨o, q⟩ := hM.2.2.1
  exact q.2.2.2.1
/-- behind each of the law's turns -/
theorem g431 {L i : Nat} {xs : Nat → Int32} {bk : Int32 → Int32 → wM → Option (Bool × wM)} {M : wM} (hV : OkV V) (hM : I0 V hs M) (k : ∀ M, I0 V hs M → Ok (bk 1 (nI (i + 1)) M)) : Ok (fL_law_J431 L xs bk 1 (nI i) M) := by
  unfold fL_law_J431
  rw [if_neg (by decide), nIp1]
  refine Ok.w (holds_ok hV hM) (fun M h => ?_)
  dsimp only
  rw [if_neg b2t]
  refine Ok.w (level_ok hV h) (fun M h => ?_)
  dsimp only
  rw [if_neg b2t]
  exact k M h
theorem g531 {L : Nat} {xs : Nat → Int32} {M : wM} (hV : OkV V) (hM : I0 V hs M) : Ok (fL_law_J531 L xs 1 M) := by
  unfold fL_law_J531
  rw [if_neg (by decide)]
  refine Ok.w (holds_ok hV hM) (fun M h => ?_)
  dsimp only
  rw [if_neg b2t]
  exact ⟨M, rfl⟩
theorem g513 {L : Nat} {xs : Nat → Int32} {s : Int32} {M : wM} (hV : OkV V) (hn : V.2.1 0 = 5) (hM : I0 V hs M) : Ok (fL_law_J513 L xs (nI 5) s s M) := by
  unfold fL_law_J513
  rw [if_pos rfl]
  refine Ok.q (q_cnt (w := 0) (by omega)) hM (fun M h => ?_)
  dsimp only
  rw [hn, if_pos rfl]
  exact g531 hV h
theorem g461 {L : Nat} {xs : Nat → Int32} {M : wM} (hV : OkV V) (hn : V.2.1 0 = 5) (hM : I0 V hs M) : Ok (fL_law_J461 L xs 1 M) := by
  have hl := hs5 hM
  unfold fL_law_J461
  refine Ok.q q_cnt8 hM (fun M h => ?_)
  dsimp only
  refine Ok.q (q_cnt (w := 0) (by omega)) h (fun M h => ?_)
  dsimp only
  rw [if_neg (by decide), hn]
  have cd : Ch V hs (fX6_drop (-1 : Int32) (0 : Int32)) (nI (V.2.1 0 - 1)) (remV V 0 0) (push5 hs V) := ch_drop (w := 0) (j := 0) hV (by omega) (by omega)
  refine Ok.c cd h (fun M h => ?_)
  dsimp only
  rw [hn, if_pos (by decide)]
  refine Ok.w (holds_ok (remV_ok hV (by omega) (by omega)) h) (fun M h => ?_)
  dsimp only
  rw [if_neg b2t]
  unfold push5 at h
  refine Ok.c ch_undo h (fun M h => ?_)
  dsimp only
  by_cases e : hs.length = 5
  · rw [if_pos (show (5 : Int32) ≤ nI hs.length by rw [e]; decide)]
    rw [if_pos e] at h ⊢
    rw [List.length_tail, e]
    exact g513 hV hn h
  · rw [if_neg (show ¬ (5 : Int32) ≤ nI hs.length from fun q => absurd ((nI_leI (a := 5) (by omega) (by omega)).mp q) (by omega))]
    rw [if_neg e] at h ⊢
    exact g513 hV hn h
end LW
/-- what holds between the turns: five readings of the base, its height small -/
def Inv (i : Nat) (V : wV) : Prop := OkV V ∧ V.2.1 0 = 5 ∧ 0 ≤ (V.1 0).toInt ∧ (V.1 0).toInt ≤ 5000 * i
theorem Inv.up {i : Nat} {V : wV} (h : Inv i V) : Inv (i + 1) V := ⟨h.1, h.2.1, h.2.2.1, by have := h.2.2.2; omega⟩
theorem Inv.put {i w n : Nat} {V : wV} {d : Nat → Nat → Int32} (h : Inv i V) (hw : w ≠ 0) (ok : OkV (putV V w n d)) : Inv (i + 1) (putV V w n d) := ⟨ok, by rw [(putV_o (V := V) (n := n) (d := d) (show 0 ≠ w by omega)).1]; exact h.2.1, h.2.2.1, by have := h.2.2.2; show (V.1 0).toInt ≤ _; omega⟩
section LW2
variable {L : Nat} {xs : Nat → Int32}
/-- a turn that sets the base higher -/
theorem g_set {V : wV} {hs : List wV} {i c by' : Nat} {bk : Int32 → Int32 → wM → Option (Bool × wM)} {M : wM} (hI : Inv i V) (hi : i < 36) (hc : c < 3) (hb : by' < 5000) (hM : I0 V hs M) (k : ∀ (V : wV) (hs : List wV) (M : wM), Inv (i + 1) V → I0 V hs M → Ok (bk 1 (nI (i + 1)) M)) :
    Ok (if nI (V.2.1 (c + 1)) = (0 : Int32) then fL_law_J325 L xs bk (nI i) (nI c) (nI (V.2.1 (c + 1))) (V.1 0) (nI by') (0 : Int32) M else (fX6_raw (nI c) (0 : Int32) M).bind (fun p45 => fL_law_J325 L xs bk (nI i) (nI c) (nI (V.2.1 (c + 1))) (V.1 0) (nI by') p45.1 p45.2)) := by
  obtain ⟨hV, hn0, h0, h5⟩ := hI
  have hn := hV.n (show c + 1 < 4 by omega)
  have eb : (nI by').toInt = by' := nI_toInt (by omega)
  have hd : (V.1 0 + nI by').toInt = (V.1 0).toInt + (nI by').toInt := fb_addI (by rw [eb]; omega) (by rw [eb]; omega)
  have hb2 : okS (nI 0) (V.1 0 + nI by') = true := by
    unfold okS
    rw [if_pos (by decide)]
    exact inR_iff.mpr ⟨by rw [Int32.le_iff_toInt_le, hd, eb, show (-500000 : Int32).toInt = -500000 from by decide]; omega, by rw [Int32.le_iff_toInt_le, hd, eb, show (9000000 : Int32).toInt = 9000000 from by decide]; omega⟩
  have hV2 : OkV (upV V (nI by')) := setV_ok hV (by omega) hb2
  have hI2 : Inv (i + 1) (upV V (nI by')) := ⟨hV2, hn0, by show 0 ≤ (V.1 0 + nI by').toInt; rw [hd, eb]; omega, by show (V.1 0 + nI by').toInt ≤ _; rw [hd, eb]; omega⟩
  by_cases e0 : V.2.1 (c + 1) = 0
  · rw [if_pos (show nI (V.2.1 (c + 1)) = 0 by rw [e0]; rfl)]
    unfold fL_law_J325
    rw [if_pos (show nI (V.2.1 (c + 1)) = 0 by rw [e0]; rfl)]
    unfold fL_law_J346
    refine Ok.c (ch_set hb2) hM (fun M h => ?_)
    dsimp only
    rw [if_pos rfl, if_pos (show nI (V.2.1 (c + 1)) = 0 by rw [e0]; rfl)]
    exact g431 hV2 h (fun M h => k _ _ M hI2 h)
  · have ne : ¬ nI (V.2.1 (c + 1)) = (0 : Int32) := nI_ne0 (by omega) (by omega)
    have qr : ∀ (W : wV) (hs : List wV), OkV W → W.2 = V.2 → Qy W hs (fX6_raw (nI c) (0 : Int32)) (hI (hh W (c + 1) 0)) := fun W hs hW eW => q_raw (j := 0) hW hc (by rw [eW]; omega)
    have qc : ∀ (W : wV) (hs : List wV), OkV W → W.2 = V.2 → Qy W hs (fX6_corrected (nI c) (nI (V.2.1 (c + 1)) - 1)) (cV W (c + 1) (V.2.1 (c + 1) - 1)) := fun W hs hW eW => by
      rw [nIm1 (by omega)]
      exact q_cor hW hc (by rw [eW]; omega)
    rw [if_neg ne]
    refine Ok.q (qr V hs hV rfl) hM (fun M h => ?_)
    dsimp only
    unfold fL_law_J325
    rw [if_neg ne]
    refine Ok.q (qc V hs hV rfl) h (fun M h => ?_)
    dsimp only
    unfold fL_law_J346
    refine Ok.c (ch_set hb2) h (fun M h => ?_)
    dsimp only
    rw [if_pos rfl, if_neg ne]
    have r1 := up_raw (r := 0) hV (show c + 1 < 4 by omega) (by omega) hd
    have r2 := up_cV (r := V.2.1 (c + 1) - 1) hV (show c + 1 < 4 by omega) (by omega) hd
    have last : ∀ (M : wM) (s : Int32), I0 (upV V (nI by')) (push5 hs V) M → hI (hh (upV V (nI by')) (c + 1) 0) = s → Ok (fL_law_J392 L xs bk (nI i) (nI c) (nI (V.2.1 (c + 1))) (nI by') (cV V (c + 1) (V.2.1 (c + 1) - 1)) (hI (hh (upV V (nI by')) (c + 1) 0)) s M) := fun M s h es => by
      unfold fL_law_J392
      rw [if_pos es]
      refine Ok.q (qc (upV V (nI by')) _ hV2 rfl) h (fun M h => ?_)
      dsimp only
      have fin : ∀ t : Int32, cV (upV V (nI by')) (c + 1) (V.2.1 (c + 1) - 1) = t → Ok (fL_law_J422 L xs bk (nI i) (cV (upV V (nI by')) (c + 1) (V.2.1 (c + 1) - 1)) t M) := fun t et => by
        unfold fL_law_J422
        rw [if_pos et]
        exact g431 hV2 h (fun M h => k _ _ M hI2 h)
      by_cases ec : cV V (c + 1) (V.2.1 (c + 1) - 1) = -2000000004
      · rw [if_pos ec] at r2 ⊢
        exact fin _ r2
      · rw [if_neg ec] at r2 ⊢
        exact fin _ r2
    refine Ok.q (qr (upV V (nI by')) _ hV2 rfl) h (fun M h => ?_)
    dsimp only
    by_cases er : hI (hh V (c + 1) 0) = -2000000004
    · rw [if_pos er] at r1 ⊢
      exact last M _ h r1
    · rw [if_neg er] at r1 ⊢
      exact last M _ h r1
theorem g94 : ∀ (n i fu : Nat) (V : wV) (hs : List wV) (M : wM), i + n = 36 → n < fu → Inv i V → I0 V hs M → Ok (fL_law_L94 L xs fu 1 (nI i) M)
  | n, i, 0, V, hs, M, _, h, _, _ => absurd h (by omega)
  | 0, i, fu + 1, V, hs, M, hi, hfu, hI, hM => by
    show Ok (fL_law_B94 L xs _ 1 (nI i) M)
    unfold fL_law_B94
    rw [if_pos (show (36 : Int32) ≤ nI i from (nI_leI (a := 36) (by omega) (by omega)).mpr (by omega))]
    exact g461 hI.1 hI.2.1 hM
  | n + 1, i, fu + 1, V, hs, M, hi, hfu, hI, hM => by
    have k : ∀ (V : wV) (hs : List wV) (M : wM), Inv (i + 1) V → I0 V hs M → Ok (fL_law_L94 L xs fu 1 (nI (i + 1)) M) := fun V hs M hI hM => g94 n (i + 1) fu V hs M (by omega) (by omega) hI hM
    obtain ⟨y, hy, ey⟩ := cell_n L xs (k := 5 + i) (by omega)
    obtain ⟨z, hz⟩ : ∃ z, y / 8 = z := ⟨_, rfl⟩
    have hzb : z < 2 ^ 31 := by omega
    obtain ⟨c, hcz⟩ : ∃ c, z % 3 = c := ⟨_, rfl⟩
    have hc : c < 3 := by omega
    have hV := hI.1
    have hn := hV.n (show c + 1 < 4 by omega)
    show Ok (fL_law_B94 L xs _ 1 (nI i) M)
    unfold fL_law_B94
    rw [if_neg (show ¬ (36 : Int32) ≤ nI i from fun q => absurd ((nI_leI (a := 36) (by omega) (by omega)).mp q) (by omega)), if_neg (by decide), show (5 : Int32) + nI i = nI (5 + i) from by rw [show (5 : Int32) = nI 5 from rfl, nI_add], ey, bs, dv_n (d := 8) (x := 8) rfl hy (by omega) (by omega), bs, hz, rm_n (d := 3) (x := 3) rfl hzb (by omega) (by omega), bs, hcz]
    refine Ok.q (q_cntc hc) hM (fun M h => ?_)
    dsimp only
    rw [rm_n (d := 8) (x := 8) rfl hy (by omega) (by omega), bs]
    by_cases c1 : 6 ≤ y % 8
    · rw [if_pos (show (6 : Int32) ≤ nI (y % 8) from (nI_leI (a := 6) (by omega) (by omega)).mpr c1), bs]
      by_cases c2 : y % 8 = 6
      · rw [if_pos (show nI (y % 8) = 6 by rw [c2]; rfl)]
        by_cases e0 : V.2.1 (c + 1) = 0
        · rw [if_pos (show nI (V.2.1 (c + 1)) = 0 by rw [e0]; rfl)]
          exact g431 hV h (fun M h => k V hs M hI.up h)
        · have hm : z / 4 % V.2.1 (c + 1) < V.2.1 (c + 1) := Nat.mod_lt _ (by omega)
          rw [if_neg (nI_ne0 (by omega) (by omega)), dv_n (d := 4) (x := 4) rfl hzb (by omega) (by omega), bs, rm_n (d := V.2.1 (c + 1)) rfl (by omega) (by omega) (by omega), bs]
          have cd := ch_drop (hs := hs) hV (show c + 1 < 4 by omega) hm
          rw [cx_c] at cd
          have ok2 := remV_ok hV (show c + 1 < 4 by omega) hm
          refine Ok.c cd h (fun M h => ?_)
          dsimp only
          rw [nIm1 (by omega), if_pos rfl]
          exact g431 ok2 h (fun M h => k _ _ M (hI.put (by omega) ok2) h)
      · rw [if_neg (show ¬ nI (y % 8) = (6 : Int32) from fun q => c2 ((nI_eq (b := 6) (by omega) (by omega)).mp q))]
        refine Ok.q q_cnt10 h (fun M h => ?_)
        dsimp only
        rw [rm_n (d := 5000) (x := 5000) rfl hzb (by omega) (by omega), bs]
        exact g_set hI (by omega) hc (Nat.mod_lt _ (by omega)) h k
    · rw [if_neg (show ¬ (6 : Int32) ≤ nI (y % 8) from fun q => c1 ((nI_leI (a := 6) (by omega) (by omega)).mp q))]
      rw [dv_n (d := 4) (x := 4) rfl hzb (by omega) (by omega), bs, rm_n (d := 3) (x := 3) rfl (by omega) (by omega) (by omega), bs, dv_n (d := 16) (x := 16) rfl hzb (by omega) (by omega), bs, rm_n (d := 105) (x := 105) rfl (by omega) (by omega) (by omega), bs, dv_n (d := 32) (x := 32) rfl hzb (by omega) (by omega), bs, rm_n (d := 500) (x := 500) rfl (by omega) (by omega) (by omega), bs, dv_n (d := 64) (x := 64) rfl hzb (by omega) (by omega), bs, rm_n (d := 300) (x := 300) rfl (by omega) (by omega) (by omega), bs]
      have hpt : inR (nI (z / 4 % 3)) 0 9 = true := inR_iff.mpr ⟨(nI_leI (a := 0) (by omega) (by omega)).mpr (by omega), (nI_leI (b := 9) (by omega) (by omega)).mpr (by omega)⟩
      have hr : okR (nI (z / 16 % 105)) ((94800 : Int32) + nI (z / 32 % 500)) (nI (z / 64 % 300) - (80 : Int32)) = true := by
        rw [show (94800 : Int32) + nI (z / 32 % 500) = nI (94800 + z / 32 % 500) from by rw [show (94800 : Int32) = nI 94800 from rfl, nI_add]]
        exact okR_n (d := 80) rfl (by omega) (by omega) (by omega) (by omega) (by omega)
      generalize nI (z / 16 % 105) = t at hr ⊢
      generalize (94800 : Int32) + nI (z / 32 % 500) = p at hr ⊢
      generalize nI (z / 64 % 300) - (80 : Int32) = d at hr ⊢
      generalize nI (z / 4 % 3) = pt at hpt ⊢
      cases q : takeOk V (c + 1) t
      · have neg : takeA V (c + 1) t < 0 := by
          unfold takeOk at q
          unfold takeA
          cases a : hasT V (c + 1) t
          · rw [a] at q
            have b : cap (c + 1) ≤ V.2.1 (c + 1) := by simpa using q
            rw [if_neg (by decide), if_pos b]
            decide
          · rw [if_pos rfl]
            decide
        refine Ok.q (ch_read0 hc hpt hr q) h (fun M h => ?_)
        dsimp only
        rw [if_pos neg]
        refine Ok.q (q_cntc hc) h (fun M h => ?_)
        dsimp only
        rw [if_pos rfl]
        exact g431 hV h (fun M h => k V hs M hI.up h)
      · have q2 := q
        unfold takeOk at q2
        simp only [Bool.and_eq_true, Bool.not_eq_true', decide_eq_false_iff_not] at q2
        obtain ⟨a, b⟩ := q2
        have ea : takeA V (c + 1) t = nI (insK (V.2.2 (c + 1) 0) t (V.2.1 (c + 1))) := by
          unfold takeA
          rw [a, if_neg (by decide), if_neg b]
        have hle := insK_le (d0 := V.2.2 (c + 1) 0) (x := t) (V.2.1 (c + 1))
        have ok2 := insV_ok hV (show c + 1 < 4 by omega) (Nat.not_le.mp b) hr (okP_of hpt) a
        have en : (insV V (c + 1) t p d pt).2.1 (c + 1) = V.2.1 (c + 1) + 1 := putV_n.1
        refine Ok.c (ch_read hc hpt hr q) h (fun M h => ?_)
        dsimp only
        rw [ea, if_neg (nI_pos (by omega))]
        refine Ok.q (q_cntc hc) h (fun M h => ?_)
        dsimp only
        rw [en, nIp1, if_pos rfl, if_neg (by rw [nI_ltI (by omega) (by omega)]; omega)]
        exact g431 ok2 h (fun M h => k _ _ M (hI.put (by omega) ok2) h)
/-- the base's five readings, at 0, 25, .. -/
def InvB (i : Nat) (V : wV) : Prop := OkV V ∧ V.2.1 0 = i ∧ (∀ r, r < i → V.2.2 0 0 r = nI (25 * r)) ∧ (V.1 0).toInt = 0
theorem g30 : ∀ (n i fu : Nat) (V : wV) (hs : List wV) (M : wM), i + n = 5 → n < fu → InvB i V → I0 V hs M → Ok (fL_law_L30 L xs fu 1 (nI i) M)
  | n, i, 0, V, hs, M, _, h, _, _ => absurd h (by omega)
  | 0, i, fu + 1, V, hs, M, hi, hfu, hI, hM => by
    show Ok (fL_law_B30 L xs _ 1 (nI i) M)
    unfold fL_law_B30
    rw [if_pos (show (5 : Int32) ≤ nI i from (nI_leI (a := 5) (by omega) (by omega)).mpr (by omega))]
    exact g94 36 0 FU V hs M (by omega) (by unfold FU; omega) ⟨hI.1, by rw [hI.2.1]; omega, by rw [hI.2.2.2]; omega, by rw [hI.2.2.2]; omega⟩ hM
  | n + 1, i, fu + 1, V, hs, M, hi, hfu, hI, hM => by
    obtain ⟨hV, hn, ht, h0⟩ := hI
    obtain ⟨y, hy, ey⟩ := cell_n L xs (k := i) (by omega)
    show Ok (fL_law_B30 L xs _ 1 (nI i) M)
    unfold fL_law_B30
    rw [if_neg (show ¬ (5 : Int32) ≤ nI i from fun q => absurd ((nI_leI (a := 5) (by omega) (by omega)).mp q) (by omega)), if_neg (by decide), ey, bs, rm_n (d := 300) (x := 300) rfl hy (by omega) (by omega), bs, dv_n (d := 512) (x := 512) rfl hy (by omega) (by omega), bs, rm_n (d := 400) (x := 400) rfl (by omega) (by omega) (by omega), bs]
    have et : (25 : Int32) * nI i = nI (25 * i) := by rw [show (25 : Int32) = nI 25 from rfl, pk_mul]
    have hr : okR (nI (25 * i)) ((95000 : Int32) + nI (y % 300)) (nI (y / 512 % 400) - (100 : Int32)) = true := by
      rw [show (95000 : Int32) + nI (y % 300) = nI (95000 + y % 300) from by rw [show (95000 : Int32) = nI 95000 from rfl, nI_add]]
      exact okR_n (d := 100) rfl (by omega) (by omega) (by omega) (by omega) (by omega)
    rw [et]
    generalize (95000 : Int32) + nI (y % 300) = p at hr ⊢
    generalize nI (y / 512 % 400) - (100 : Int32) = d at hr ⊢
    have hT : hasT V 0 (nI (25 * i)) = false := by
      rw [← Bool.not_eq_true]
      intro q
      obtain ⟨r, h1, h2, h3⟩ := anyF_iff.mp q
      have e := of_decide_eq_true h3
      rw [ht r (by omega), nI_eq (by omega) (by omega)] at e
      omega
    have hK : insK (V.2.2 0 0) (nI (25 * i)) (V.2.1 0) = i := by
      rw [hn]
      cases i with
      | zero => rfl
      | succ j =>
        unfold insK
        rw [if_neg (by rw [ht j (by omega), nI_ltI (by omega) (by omega)]; omega)]
    have hcap : ¬ cap 0 ≤ V.2.1 0 := by rw [hn, show cap 0 = 12 from rfl]; omega
    have hok : takeOk V 0 (nI (25 * i)) = true := by
      unfold takeOk
      rw [hT, decide_eq_false hcap]
      rfl
    have hA : takeA V 0 (nI (25 * i)) = nI i := by
      unfold takeA
      rw [hT, if_neg (by decide), if_neg hcap, hK]
    have ok2 := insV_ok hV (show 0 < 4 by omega) (Nat.not_le.mp hcap) hr (okP_of (x := 0) (by decide)) hT
    have hI2 : InvB (i + 1) (insV V 0 (nI (25 * i)) p d 0) := by
      refine ⟨ok2, ?_, fun r hr2 => ?_, h0⟩
      · rw [show (insV V 0 (nI (25 * i)) p d 0).2.1 0 = V.2.1 0 + 1 from putV_n.1, hn]
      · rw [show (insV V 0 (nI (25 * i)) p d 0).2.2 0 = insD (V.2.2 0) (insK (V.2.2 0 0) (nI (25 * i)) (V.2.1 0)) (rd4 (nI (25 * i)) p d 0) from putV_n.2, hK]
        unfold insD
        rcases Nat.eq_or_lt_of_le (show r ≤ i by omega) with e | h
        · rw [if_neg (by omega), if_pos e, e]
          rfl
        · rw [if_pos h]
          exact ht r h
    refine Ok.c (ch_base hr hok) hM (fun M h => ?_)
    dsimp only
    rw [hA, if_pos rfl, nIp1]
    exact g30 n (i + 1) fu _ _ M (by omega) (by omega) hI2 h
theorem law_ok {M : wM} {V : wV} (hV : OkV V) (hn : V.2.1 0 = 0) (h0 : (V.1 0).toInt = 0) (hM : I0 V [] M) : ∃ M2, fL_law L xs M = some (true, M2) := by
  have key : Ok (fL_law L xs M) := by
    unfold fL_law
    refine Ok.w (holds_ok hV hM) (fun M h => ?_)
    dsimp only
    rw [if_neg b2t]
    refine Ok.w (level_ok hV h) (fun M h => ?_)
    dsimp only
    rw [if_neg b2t]
    exact g30 5 0 FU V [] M (by omega) (by unfold FU; omega) ⟨hV, hn, fun r hr => absurd hr (by omega), h0⟩ h
  exact key
end LW2

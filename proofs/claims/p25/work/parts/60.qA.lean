/-! questions: on every memory that shows V the call answers r, and the memory shows V again -/
def t0 : Nat → Int32 := fun _ => 0
def I0 (V : wV) (hs : List wV) (M : wM) : Prop := IC V hs 0 t0 M
def Qy (V : wV) (hs : List wV) (f : wM → Option (Int32 × wM)) (r : Int32) : Prop := ∀ M, I0 V hs M → ∃ M2, f M = some (r, M2) ∧ I0 V hs M2
def Wp (V : wV) (hs : List wV) (o : Option (Bool × wM)) : Prop := ∃ M2, o = some (true, M2) ∧ I0 V hs M2
theorem Wp.q {V : wV} {hs : List wV} {f : wM → Option (Int32 × wM)} {r : Int32} {M : wM} {g : Int32 × wM → Option (Bool × wM)} (h : Qy V hs f r) (hM : I0 V hs M) (k : ∀ M2, I0 V hs M2 → Wp V hs (g (r, M2))) : Wp V hs ((f M).bind g) := by
  obtain ⟨M2, e, h2⟩ := h M hM
  rw [e]
  exact k M2 h2
theorem Wp.ret {V : wV} {hs : List wV} {M : wM} (hM : I0 V hs M) : Wp V hs (some (true, M)) := ⟨M, rfl, hM⟩
/-- the number of the cell w - 1; w is 0 for the base -/
def cx (w : Nat) : Int32 := nI w - 1
theorem cx_c (c : Nat) : cx (c + 1) = nI c := nIm1 (by omega)
theorem cx_in {w : Nat} (hw : w < 4) : inR (cx w) (-1) 2 = true ∧ wOf (cx w) = w := by
  rcases (show w = 0 ∨ w = 1 ∨ w = 2 ∨ w = 3 by omega) with rfl | rfl | rfl | rfl <;> exact ⟨by decide, by decide⟩
theorem inR_lt {n j : Nat} (hn : n ≤ 20) (hj : j < n) : inR (nI j) 0 (nI n - 1) = true := by
  rw [nIm1 (by omega)]
  exact inR_iff.mpr ⟨(nI_leI (a := 0) (by omega) (by omega)).mpr (by omega), (nI_leI (by omega) (by omega)).mpr (by omega)⟩
theorem rk_in {V : wV} {w j : Nat} (hV : OkV V) (hw : w < 4) (hj : j < V.2.1 w) : rk V (cx w) (nI j) = true := by
  unfold rk
  rw [(cx_in hw).1, (cx_in hw).2, inR_lt (hV.n hw) hj]
  rfl
theorem rk_c {V : wV} {c j : Nat} (hV : OkV V) (hc : c < 3) (hj : j < V.2.1 (c + 1)) : rk V (nI c) (nI j) = true := by
  have h := rk_in hV (show c + 1 < 4 by omega) hj
  rwa [cx_c] at h
theorem n4 {f : Nat} (h : f < 4) : ¬ nI f = (4 : Int32) ∧ ¬ nI f = (5 : Int32) := ⟨fun q => absurd ((nI_eq (b := 4) (by omega) (by omega)).mp q) (by omega), fun q => absurd ((nI_eq (b := 5) (by omega) (by omega)).mp q) (by omega)⟩
section QY
variable {V : wV} {hs : List wV}
theorem q_rd {w f j : Nat} (hV : OkV V) (hw : w < 4) (hf : f < 3 ∨ f < 4 ∧ 0 < w) (hj : j < V.2.1 w) : Qy V hs (fX6_reading (cx w) (nI j) (nI f)) (V.2.2 w f j) := by
  intro M h
  have hx := (cx_in hw).1
  have ew := (cx_in hw).2
  have h2 := rk_in hV hw hj
  have h3 : inR (nI f) 0 5 = true := inR_iff.mpr ⟨(nI_leI (a := 0) (by omega) (by omega)).mpr (by omega), (nI_leI (b := 5) (by omega) (by omega)).mpr (by omega)⟩
  obtain ⟨M2, a1, a2, a3, a4⟩ := refresh_c h
  have e : fX6_reading_J34 (cx w) (nI j) (nI f) M = some (V.2.2 w f j, M2) := by
    unfold fX6_reading_J34
    rw [a1, bs, if_neg (n4 (f := f) (by omega)).1, if_neg (n4 (f := f) (by omega)).2, track_w hx, bs, ew, gk_ok (kd_tk (show kd 1 = 2 from rfl) hw), bs, tv (kd_tk (show kd 1 = 2 from rfl) hw) (a3.2.1.2 _ hw) (hV.n hw) hj (by omega), bs]
  refine ⟨M2, ?_, a3⟩
  unfold fX6_reading
  rw [isReadingOf_c h, bs, h2, if_neg (by decide), within_c, bs, h3, if_neg (by decide)]
  by_cases e1 : cx w = (-1 : Int32)
  · rw [if_pos e1]
    by_cases e3 : nI f < (3 : Int32)
    · rw [if_pos e3]; exact e
    · exfalso
      have hf3 : f = 3 := by
        rcases Nat.lt_or_ge f 3 with q | q
        · exact absurd ((nI_ltI (b := 3) (by omega) (by omega)).mpr q) e3
        · omega
      obtain ⟨c, rfl⟩ : ∃ c, w = c + 1 := ⟨w - 1, by omega⟩
      rw [cx_c] at e1
      exact oI_ne (by omega) e1
  · rw [if_neg e1]; exact e
theorem q_gu {c j : Nat} (hV : OkV V) (hc : c < 3) (hj : j < V.2.1 (c + 1)) : Qy V hs (fX6_reading (nI c) (nI j) (4 : Int32)) (b2 (gu V (c + 1) j)) := by
  intro M h
  have h2 := rk_c hV hc hj
  obtain ⟨M2, a1, a2, a3, a4⟩ := refresh_c h
  refine ⟨M2, ?_, a3⟩
  unfold fX6_reading
  rw [isReadingOf_c h, bs, h2, if_neg (by decide), within_c, bs, show inR (4 : Int32) 0 5 = true from by decide, if_neg (by decide), if_neg (show ¬ nI c = (-1 : Int32) from oI_ne (by omega))]
  unfold fX6_reading_J34
  rw [a1, bs, if_pos rfl, surveyOf_c hc, bs, gk_ok (kd_sv hc), bs, isGust_v (kd_sv hc) (a4 c hc).1.1.2 (hV.n (by omega)) hj, bs]
  cases gu V (c + 1) j <;> rfl
theorem q_go {c j : Nat} (hV : OkV V) (hc : c < 3) (hj : j < V.2.1 (c + 1)) : Qy V hs (fX6_reading (nI c) (nI j) (5 : Int32)) (b2 (go V (c + 1) j)) := by
  intro M h
  have h2 := rk_c hV hc hj
  obtain ⟨M2, a1, a2, a3, a4⟩ := refresh_c h
  refine ⟨M2, ?_, a3⟩
  unfold fX6_reading
  rw [isReadingOf_c h, bs, h2, if_neg (by decide), within_c, bs, show inR (5 : Int32) 0 5 = true from by decide, if_neg (by decide), if_neg (show ¬ nI c = (-1 : Int32) from oI_ne (by omega))]
  unfold fX6_reading_J34
  rw [a1, bs, if_neg (show ¬ (5 : Int32) = 4 from by decide), if_pos rfl, surveyOf_c hc, bs, gk_ok (kd_sv hc), bs, isGood_v (kd_sv hc) hV (by omega) (a4 c hc).1.1.2 hj, bs]
  cases go V (c + 1) j <;> rfl
theorem q_cnt {w : Nat} (hw : w < 4) : Qy V hs (fX6_count (nI w)) (nI (V.2.1 w)) := by
  intro M h
  obtain ⟨M2, a1, a2, a3, a4⟩ := refresh_c h
  refine ⟨M2, ?_, a3⟩
  have J76 : fX6_count_J76 (nI w) M2 = some (nI (V.2.1 w), M2) := by
    unfold fX6_count_J76
    rw [trk_ix hw, bs, gk_ok (kd_tk (show kd 1 = 2 from rfl) hw), bs, (a3.2.1.2 w hw).1]
  unfold fX6_count
  rw [a1, bs]
  rcases (show w = 0 ∨ w = 1 ∨ w = 2 ∨ w = 3 by omega) with rfl | rfl | rfl | rfl <;> exact J76
/-- all loops, all good readings -/
def nLp (V : wV) : Nat := (lpL V 1).length + (lpL V 2).length + (lpL V 3).length
def nGo (V : wV) : Nat := cntF (go V 1) (V.2.1 1) + cntF (go V 2) (V.2.1 2) + cntF (go V 3) (V.2.1 3)
theorem q_cnt5 : Qy V hs (fX6_count (5 : Int32)) (nI (nLp V)) := by
  intro M h
  obtain ⟨M2, a1, a2, a3, a4⟩ := refresh_c h
  refine ⟨M2, ?_, a3⟩
  unfold fX6_count nLp
  rw [a1, bs, if_neg (by decide), if_neg (by decide), if_neg (by decide), if_neg (by decide), if_neg (by decide), if_pos rfl, show M2.1 66 11 = _ from (a4 0 (by omega)).1.2.1, show M2.1 75 11 = _ from (a4 1 (by omega)).1.2.1, show M2.1 84 11 = _ from (a4 2 (by omega)).1.2.1, nI_add, nI_add]
theorem q_cnt8 : Qy V hs (fX6_count (8 : Int32)) (nI hs.length) := by
  intro M h
  obtain ⟨M2, a1, a2, a3, a4⟩ := refresh_c h
  refine ⟨M2, ?_, a3⟩
  obtain ⟨-, -, ⟨o, q⟩, -⟩ := a3
  unfold fX6_count
  rw [a1, bs, if_neg (by decide), if_neg (by decide), if_neg (by decide), if_neg (by decide), if_neg (by decide), if_neg (by decide), if_neg (by decide), if_neg (by decide), if_pos rfl, q.2.2.1]
theorem q_cnt10 : Qy V hs (fX6_count (10 : Int32)) (V.1 0) := by
  intro M h
  obtain ⟨M2, a1, a2, a3, a4⟩ := refresh_c h
  refine ⟨M2, ?_, a3⟩
  unfold fX6_count
  rw [a1, bs, if_neg (by decide), if_neg (by decide), if_neg (by decide), if_neg (by decide), if_neg (by decide), if_neg (by decide), if_neg (by decide), if_neg (by decide), if_neg (by decide), if_neg (by decide), if_pos rfl]
  exact congrArg (fun z => some (z, M2)) (a3.2.1.1 0 (by omega))
theorem q_cnt13 : Qy V hs (fX6_count (13 : Int32)) (nI (nGo V)) := by
  intro M h
  obtain ⟨M2, a1, a2, a3, a4⟩ := refresh_c h
  refine ⟨M2, ?_, a3⟩
  unfold fX6_count nGo
  rw [a1, bs, if_neg (by decide), if_neg (by decide), if_neg (by decide), if_neg (by decide), if_neg (by decide), if_neg (by decide), if_neg (by decide), if_neg (by decide), if_neg (by decide), if_neg (by decide), if_neg (by decide), if_neg (by decide), if_neg (by decide), if_pos rfl, show M2.1 66 10 = _ from (a4 0 (by omega)).2.2.1, show M2.1 75 10 = _ from (a4 1 (by omega)).2.2.1, show M2.1 84 10 = _ from (a4 2 (by omega)).2.2.1, nI_add, nI_add]
theorem q_loops {c : Nat} (hc : c < 3) : Qy V hs (fX6_loops (nI c)) (nI (lpL V (c + 1)).length) := by
  intro M h
  obtain ⟨M2, a1, a2, a3, a4⟩ := refresh_c h
  refine ⟨M2, ?_, a3⟩
  unfold fX6_loops
  rw [isCell_c, bs, isC (x := nI c) hc, if_neg (by decide), a1, bs, surveyOf_c hc, bs, gk_ok (kd_sv hc), bs, (a4 c hc).1.2.1]
theorem lp_head {c k : Nat} {y r : Int32} (hV : OkV V) (hc : c < 3) (hk : k < (lpL V (c + 1)).length) (hr : ∀ M2, SVF V (c + 1) (sv c) M2 → (if y = (0 : Int32) then (fX3_begin (sv c) (nI k) M2).bind (fun v9 => some (v9, M2))
    else if y = (1 : Int32) then (fX3_end (sv c) (nI k) M2).bind (fun v11 => some (v11, M2))
    else if y = (2 : Int32) then (fX3_misclosure (sv c) (nI k) M2).bind (fun v13 => some (v13, M2))
    else if y = (3 : Int32) then (fX3_misclosureBySteps (sv c) (nI k) M2).bind (fun v15 => some (v15, M2))
    else if y = (4 : Int32) then (fX3_minutes (sv c) (nI k) M2).bind (fun v17 => some (v17, M2))
    else some ((-2000000001 : Int32), M2)) = some (r, M2)) : Qy V hs (fX6_loop (nI c) (nI k) y) r := by
  intro M h
  obtain ⟨M2, a1, a2, a3, a4⟩ := refresh_c h
  refine ⟨M2, ?_, a3⟩
  have hn := hV.n (show c + 1 < 4 by omega)
  have hl := lpL_len (V := V) (w := c + 1)
  unfold fX6_loop
  rw [isCell_c, bs, isC (x := nI c) hc, if_neg (by decide), a1, bs, surveyOf_c hc, bs, gk_ok (kd_sv hc), bs, within_c, bs, (a4 c hc).1.2.1, inR_lt (by omega) hk, if_neg (by decide)]
  exact hr M2 (a4 c hc)
theorem q_lb {c k : Nat} (hV : OkV V) (hc : c < 3) (hk : k < (lpL V (c + 1)).length) : Qy V hs (fX6_loop (nI c) (nI k) (0 : Int32)) (nI (lb V (c + 1) k)) :=
  lp_head hV hc hk (fun M2 hS => by rw [if_pos rfl, begin_v (kd_sv hc) (hV.n (by omega)) hS.1 hk, bs])
theorem q_le {c k : Nat} (hV : OkV V) (hc : c < 3) (hk : k < (lpL V (c + 1)).length) : Qy V hs (fX6_loop (nI c) (nI k) (1 : Int32)) (nI (le2 V (c + 1) k)) :=
  lp_head hV hc hk (fun M2 hS => by rw [if_neg (by decide), if_pos rfl, end_v (kd_sv hc) (hV.n (by omega)) hS.1 hk, bs])
theorem q_mis {c k : Nat} (hV : OkV V) (hc : c < 3) (hk : k < (lpL V (c + 1)).length) : Qy V hs (fX6_loop (nI c) (nI k) (2 : Int32)) (mis V (c + 1) k) :=
  lp_head hV hc hk (fun M2 hS => by rw [if_neg (by decide), if_neg (by decide), if_pos rfl, mis_v (kd_sv hc) (hV.n (by omega)) hS.1 hk, bs])
theorem q_by {c k : Nat} (hV : OkV V) (hc : c < 3) (hk : k < (lpL V (c + 1)).length) : Qy V hs (fX6_loop (nI c) (nI k) (3 : Int32)) (bySt V (c + 1) k) :=
  lp_head hV hc hk (fun M2 hS => by rw [if_neg (by decide), if_neg (by decide), if_neg (by decide), if_pos rfl, byS_v (kd_sv hc) hV (by omega) hS.1 hk, bs])
theorem q_mn {c k : Nat} (hV : OkV V) (hc : c < 3) (hk : k < (lpL V (c + 1)).length) : Qy V hs (fX6_loop (nI c) (nI k) (4 : Int32)) (mn V (c + 1) k) :=
  lp_head hV hc hk (fun M2 hS => by rw [if_neg (by decide), if_neg (by decide), if_neg (by decide), if_neg (by decide), if_pos rfl, minutes_v (kd_sv hc) (hV.n (by omega)) hS.1 hk, bs])
theorem q_op {c j : Nat} (hV : OkV V) (hc : c < 3) (hj : j < V.2.1 (c + 1)) : Qy V hs (fX6_openLoop (nI c) (nI j)) (if oV V (c + 1) j = -1 then -2000000004 else oV V (c + 1) j) := by
  intro M h
  obtain ⟨M2, a1, a2, a3, a4⟩ := refresh_c h
  refine ⟨M2, ?_, a3⟩
  unfold fX6_openLoop
  rw [isCell_c, bs, isC (x := nI c) hc, if_neg (by decide), isReadingOf_c h, bs, rk_c hV hc hj, if_neg (by decide), a1, bs, surveyOf_c hc, bs, gk_ok (kd_sv hc), bs, openOf_v (kd_sv hc) (hV.n (by omega)) (a4 c hc) hj, bs]
  by_cases e : oV V (c + 1) j = -1
  · rw [if_pos e, if_pos e]
  · rw [if_neg e, if_neg e]
theorem q_raw {c j : Nat} (hV : OkV V) (hc : c < 3) (hj : j < V.2.1 (c + 1)) : Qy V hs (fX6_raw (nI c) (nI j)) (hI (hh V (c + 1) j)) := by
  intro M h
  obtain ⟨M2, a1, a2, a3, a4⟩ := refresh_c h
  refine ⟨M2, ?_, a3⟩
  unfold fX6_raw
  rw [isCell_c, bs, isC (x := nI c) hc, if_neg (by decide), isReadingOf_c h, bs, rk_c hV hc hj, if_neg (by decide), a1, bs, surveyOf_c hc, bs, gk_ok (kd_sv hc), bs, raw_v (kd_sv hc) (hV.n (by omega)) (a4 c hc).1.1 hj, bs]
theorem q_cor {c j : Nat} (hV : OkV V) (hc : c < 3) (hj : j < V.2.1 (c + 1)) : Qy V hs (fX6_corrected (nI c) (nI j)) (cV V (c + 1) j) := by
  intro M h
  obtain ⟨M2, a1, a2, a3, a4⟩ := refresh_c h
  refine ⟨M2, ?_, a3⟩
  unfold fX6_corrected
  rw [isCell_c, bs, isC (x := nI c) hc, if_neg (by decide), isReadingOf_c h, bs, rk_c hV hc hj, if_neg (by decide), a1, bs, surveyOf_c hc, bs, gk_ok (kd_sv hc), bs, corrH_v (kd_sv hc) (hV.n (by omega)) (a4 c hc) hj, bs]
theorem q_pt {p : Nat} {y : Int32} (hV : OkV V) (hp : p < 10) (hy : y = 1 ∨ y = 2) : Qy V hs (fX6_point (nI p) y) (ptR (ptA V (nI p)) y) := by
  intro M h
  have h1 : inR (nI p) 0 9 = true := inR_iff.mpr ⟨(nI_leI (a := 0) (by omega) (by omega)).mpr (by omega), (nI_leI (b := 9) (by omega) (by omega)).mpr (by omega)⟩
  have h2 : inR y 0 2 = true := by rcases hy with rfl | rfl <;> decide
  have hnum := ptA_num (p := nI p) hV
  obtain ⟨M2, a1, a2, a3, a4⟩ := refresh_c h
  obtain ⟨M3, b1, b2', b3⟩ := gather_c (p := nI p) hV a4
  refine ⟨M3, ?_, a3.keepR (fun i hi h93 => (b2' i h93).1)⟩
  unfold fX6_point ptR
  rw [isPoint_c, bs, h1, if_neg (by decide), within_c, bs, h2, if_neg (by decide), a1, bs, b1, bs, b3.2.1]
  generalize ptA V (nI p) = s at hnum b3 ⊢
  by_cases y2 : y = 2
  · rw [if_pos y2, if_pos y2]
  · rw [if_neg y2, if_neg y2]
    by_cases e : s.2.1 = 0
    · rw [if_pos (show nI s.2.1 = 0 by rw [e]; rfl), if_pos e]
    · rw [if_neg (nI_ne0 (by omega) (by omega)), if_neg e]
      have y0 : ¬ y = 0 := by rcases hy with rfl | rfl <;> decide
      obtain ⟨g1, g2⟩ := b3.2.2 (by omega)
      rw [if_neg y0, if_neg y0]
      unfold fX1_spread
      rw [bs, g1, g2]
end QY

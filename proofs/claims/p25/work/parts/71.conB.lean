abbrev rmX3_isGust : Room := { frames := 1, cells := 0, slots := 0, locals := 21 }
theorem fiX3_isGust_3 : ∀ w ∈ u_ws RX3 TX3 12, w ∈ wsX3_isGust := by decide +kernel
theorem mbX3_isGust_21 : Cond.fieldLink RX3 21 "BaroRuns$Survey" "gusts" "[I" ∈ wsX3_isGust := by decide +kernel
theorem mbX3_isGust_s81 : Cond.static yX6_at ∈ wsX3_isGust := by decide +kernel
theorem mbX3_isGust_i81 : Cond.initialized RX6 ∈ wsX3_isGust := by decide +kernel
set_option maxHeartbeats 4000000 in
set_option maxRecDepth 100000 in
theorem kX3_isGust (l : Launch) (G : wG) {i : Nat} (hi : kd i = 3) {x1 : Int32} {M0 : wM} {b : Bool} (hf : fX3_isGust i x1 M0 = some b) : mI l yX3_isGust wsX3_isGust rmX3_isGust G [.ref (ga G (i)), .int (x1)] M0 (b2 b) M0 := by
  refine mI.of (cc := cX3_isGust) (nL := 2) (ret := (some .boolean)) (own := RX3) (lv := [(0, .ref (ga G (i))), (1, .int (x1))]) (plainFor_of_name (by decide +kernel)) rfl rfl (Nat.le_of_ble_eq_true rfl) rfl ?_
  intro p e s m args below meth c hC hr hlk
  unfold fX3_isGust at hf
  refine wa_aload_n hC dX3_isGust_0 rfl 0 rfl ?_
  refine rg3_3 hC fiX3_isGust_3 hi mbX3_isGust_21 dX3_isGust_1 ?_
  refine wa_iload_n hC dX3_isGust_4 rfl 1 rfl ?_
  obtain ⟨v1, h1, hf⟩ := bd hf
  refine wa_calli (rest := []) (wr_SN hC (kX6_at l G (kf3_3 hi) h1) ⟨va_cnB 2 hC.1.2.2.2.2 gX3_isGust_X6_at_n81 rfl rfl rfl (nwm_Survey_81 hC.2.2.2) (hC.1.2.2.2.2 _ mbX3_isGust_i81) (by decide +kernel) ⟨Nat.le_of_ble_eq_true rfl, Nat.le_of_ble_eq_true rfl⟩, hC.1.2.2.2.2 _ mbX3_isGust_s81, trivial⟩ rfl rfl (Nat.le_of_ble_eq_true rfl) dX3_isGust_5) ?_
  refine wa_iconst (v := 1) hC dX3_isGust_8 (by decide) ?_
  refine wa_icmp_ne hC 16 dX3_isGust_9 (by decide) (fun c2 => ?_) (fun c2 => ?_)
  · have hf := ite_f hf c2
    refine wa_iconst (v := 0) hC dX3_isGust_16 (by decide) ?_
    exact wa_zret hC hlk hr (congrArg b2 (so_inj hf)) rfl dX3_isGust_17
  · have hf := ite_t hf c2
    refine wa_iconst (v := 1) hC dX3_isGust_12 (by decide) ?_
    refine wa_goto hC 17 dX3_isGust_13 (by decide) ?_
    exact wa_zret hC hlk hr (congrArg b2 (so_inj hf)) rfl dX3_isGust_17
abbrev rmX3_isGood : Room := { frames := 1, cells := 0, slots := 0, locals := 21 }
theorem fiX3_isGood_3 : ∀ w ∈ u_ws RX3 TX3 12, w ∈ wsX3_isGood := by decide +kernel
theorem mbX3_isGood_18 : Cond.fieldLink RX3 18 "BaroRuns$Survey" "heights" "[I" ∈ wsX3_isGood := by decide +kernel
theorem mbX3_isGood_s81 : Cond.static yX6_at ∈ wsX3_isGood := by decide +kernel
theorem mbX3_isGood_i81 : Cond.initialized RX6 ∈ wsX3_isGood := by decide +kernel
theorem mbX3_isGood_85 : Cond.constant RX3 85 (-2000000004) ∈ wsX3_isGood := by decide +kernel
theorem mbX3_isGood_21 : Cond.fieldLink RX3 21 "BaroRuns$Survey" "gusts" "[I" ∈ wsX3_isGood := by decide +kernel
set_option maxHeartbeats 4000000 in
set_option maxRecDepth 100000 in
theorem kX3_isGood (l : Launch) (G : wG) {i : Nat} (hi : kd i = 3) {x1 : Int32} {M0 : wM} {b : Bool} (hf : fX3_isGood i x1 M0 = some b) : mI l yX3_isGood wsX3_isGood rmX3_isGood G [.ref (ga G (i)), .int (x1)] M0 (b2 b) M0 := by
  refine mI.of (cc := cX3_isGood) (nL := 2) (ret := (some .boolean)) (own := RX3) (lv := [(0, .ref (ga G (i))), (1, .int (x1))]) (plainFor_of_name (by decide +kernel)) rfl rfl (Nat.le_of_ble_eq_true rfl) rfl ?_
  intro p e s m args below meth c hC hr hlk
  unfold fX3_isGood at hf
  refine wa_aload_n hC dX3_isGood_0 rfl 0 rfl ?_
  refine rg3_2 hC fiX3_isGood_3 hi mbX3_isGood_18 dX3_isGood_1 ?_
  refine wa_iload_n hC dX3_isGood_4 rfl 1 rfl ?_
  obtain ⟨v1, h1, hf⟩ := bd hf
  refine wa_calli (rest := []) (wr_SN hC (kX6_at l G (kf3_2 hi) h1) ⟨va_cnB 2 hC.1.2.2.2.2 gX3_isGood_X6_at_n81 rfl rfl rfl (nwm_Survey_81 hC.2.2.2) (hC.1.2.2.2.2 _ mbX3_isGood_i81) (by decide +kernel) ⟨Nat.le_of_ble_eq_true rfl, Nat.le_of_ble_eq_true rfl⟩, hC.1.2.2.2.2 _ mbX3_isGood_s81, trivial⟩ rfl rfl (Nat.le_of_ble_eq_true rfl) dX3_isGood_5) ?_
  refine wa_ldc hC mbX3_isGood_85 dX3_isGood_8 ?_
  refine wa_icmp_eq hC 28 dX3_isGood_10 (by decide) (fun c2 => ?_) (fun c2 => ?_)
  · have hf := ite_t hf c2
    refine wa_iconst (v := 0) hC dX3_isGood_28 (by decide) ?_
    exact wa_zret hC hlk hr (congrArg b2 (so_inj hf)) rfl dX3_isGood_29
  · have hf := ite_f hf c2
    refine wa_aload_n hC dX3_isGood_13 rfl 0 rfl ?_
    refine rg3_3 hC fiX3_isGood_3 hi mbX3_isGood_21 dX3_isGood_14 ?_
    refine wa_iload_n hC dX3_isGood_17 rfl 1 rfl ?_
    obtain ⟨v3, h3, hf⟩ := bd hf
    refine wa_calli (rest := []) (wr_SN hC (kX6_at l G (kf3_3 hi) h3) ⟨va_cnB 2 hC.1.2.2.2.2 gX3_isGood_X6_at_n81 rfl rfl rfl (nwm_Survey_81 hC.2.2.2) (hC.1.2.2.2.2 _ mbX3_isGood_i81) (by decide +kernel) ⟨Nat.le_of_ble_eq_true rfl, Nat.le_of_ble_eq_true rfl⟩, hC.1.2.2.2.2 _ mbX3_isGood_s81, trivial⟩ rfl rfl (Nat.le_of_ble_eq_true rfl) dX3_isGood_18) ?_
    refine wa_if_ne hC 28 dX3_isGood_21 (by decide) (fun c4 => ?_) (fun c4 => ?_)
    · have hf := ite_f hf c4
      refine wa_iconst (v := 0) hC dX3_isGood_28 (by decide) ?_
      exact wa_zret hC hlk hr (congrArg b2 (so_inj hf)) rfl dX3_isGood_29
    · have hf := ite_t hf c4
      refine wa_iconst (v := 1) hC dX3_isGood_24 (by decide) ?_
      refine wa_goto hC 29 dX3_isGood_25 (by decide) ?_
      exact wa_zret hC hlk hr (congrArg b2 (so_inj hf)) rfl dX3_isGood_29
abbrev rmX3_countKinds : Room := { frames := 2, cells := 0, slots := 0, locals := 42 }
theorem fiX3_countKinds_3 : ∀ w ∈ u_ws RX3 TX3 12, w ∈ wsX3_countKinds := by decide +kernel
theorem mbX3_countKinds_117 : Cond.fieldLink RX3 117 "BaroRuns$Survey" "goodCount" "I" ∈ wsX3_countKinds := by decide +kernel
theorem mbX3_countKinds_114 : Cond.fieldLink RX3 114 "BaroRuns$Survey" "gustCount" "I" ∈ wsX3_countKinds := by decide +kernel
theorem mbX3_countKinds_48 : Cond.fieldLink RX3 48 "BaroRuns$Survey" "size" "I" ∈ wsX3_countKinds := by decide +kernel
set_option maxHeartbeats 4000000 in
set_option maxRecDepth 100000 in
theorem kX3_countKinds (l : Launch) (G : wG) {i : Nat} (hi : kd i = 3) {M0 M1 : wM} (hf : fX3_countKinds i M0 = some M1) : mV l yX3_countKinds wsX3_countKinds rmX3_countKinds G [.ref (ga G (i))] M0 M1 := by
  refine mV.of (cc := cX3_countKinds) (nL := 2) (ret := none) (own := RX3) (lv := [(0, .ref (ga G (i)))]) (plainFor_of_name (by decide +kernel)) rfl rfl (Nat.le_of_ble_eq_true rfl) rfl ?_
  intro p e s m args below meth c hC hr hlk
  have hJ60 : ∀ (bk12 : Int32 → wM → Option wM) (hbk12 : (∀ (x1 : Int32) (M0 : wM), bk12 x1 M0 = some M1 → wAt p l e rmX3_countKinds s m args below meth c (qV below args s G M1) 2 G M0 12 [(0, .ref (ga G (i))), (1, .int (x1))] [])) (x1 : Int32) (s1 : Int32) (s2 : Int32) (M0 : wM), fX3_countKinds_J60 i bk12 x1 s1 s2 M0 = some M1 → wAt p l e rmX3_countKinds s m args below meth c (qV below args s G M1) 2 G M0 60 [(0, .ref (ga G (i))), (1, .int (x1))] [.int (s2), .int (s1), .ref (ga G (i))] := by
    intro bk12 hbk12 x1 s1 s2 M0 hf
    unfold fX3_countKinds_J60 at hf
    refine wa_iadd hC dX3_countKinds_60 ?_
    refine rp3_10 hC fiX3_countKinds_3 hi mbX3_countKinds_117 dX3_countKinds_61 ?_
    refine wa_iinc (v := _ + 1) (lv' := [(1, .int _), (0, .ref _)]) hC dX3_countKinds_64 (t := 1) rfl rfl (by decide) rfl ?_
    refine wa_goto hC 12 dX3_countKinds_67 (by decide) ?_
    exact wa_sub [1, 0] rfl (hbk12 _ _ hf)
  have hJ38 : ∀ (bk12 : Int32 → wM → Option wM) (hbk12 : (∀ (x1 : Int32) (M0 : wM), bk12 x1 M0 = some M1 → wAt p l e rmX3_countKinds s m args below meth c (qV below args s G M1) 2 G M0 12 [(0, .ref (ga G (i))), (1, .int (x1))] [])) (x1 : Int32) (s1 : Int32) (s2 : Int32) (M0 : wM), fX3_countKinds_J38 i bk12 x1 s1 s2 M0 = some M1 → wAt p l e rmX3_countKinds s m args below meth c (qV below args s G M1) 2 G M0 38 [(0, .ref (ga G (i))), (1, .int (x1))] [.int (s2), .int (s1), .ref (ga G (i))] := by
    intro bk12 hbk12 x1 s1 s2 M0 hf
    unfold fX3_countKinds_J38 at hf
    refine wa_iadd hC dX3_countKinds_38 ?_
    refine rp3_9 hC fiX3_countKinds_3 hi mbX3_countKinds_114 dX3_countKinds_39 ?_
    refine wa_aload_n hC dX3_countKinds_42 rfl 0 rfl ?_
    refine wa_dup hC dX3_countKinds_43 rfl ?_
    refine rg3_10 hC fiX3_countKinds_3 hi mbX3_countKinds_117 dX3_countKinds_44 ?_
    refine wa_aload_n hC dX3_countKinds_47 rfl 0 rfl ?_
    refine wa_iload_n hC dX3_countKinds_48 rfl 1 rfl ?_
    obtain ⟨v1, h1, hf⟩ := bd hf
    refine wa_calli (rest := [_, _]) (wr_V hC (kX3_isGood l G hi h1) (cwV 1 hC.1.2.2.2.2 gX3_countKinds_X3_isGood rfl rfl rfl (by decide +kernel) ⟨Nat.le_of_ble_eq_true rfl, Nat.le_of_ble_eq_true rfl⟩) hi (by decide) (ce3 hi) rfl rfl rfl rfl (Nat.le_of_ble_eq_true rfl) dX3_countKinds_49) ?_
    refine wa_if_eq hC 59 dX3_countKinds_52 (by decide) (fun c2 => ?_) (fun c2 => ?_)
    · have hf := ite_t hf c2
      refine wa_iconst (v := 0) hC dX3_countKinds_59 (by decide) ?_
      exact wa_sub [0, 1] rfl (hJ60 bk12 hbk12 _ _ _ _ hf)
    · have hf := ite_f hf c2
      refine wa_iconst (v := 1) hC dX3_countKinds_55 (by decide) ?_
      refine wa_goto hC 60 dX3_countKinds_56 (by decide) ?_
      exact wa_sub [0, 1] rfl (hJ60 bk12 hbk12 _ _ _ _ hf)
  have hB12 : ∀ (bk12 : Int32 → wM → Option wM) (hbk12 : (∀ (x1 : Int32) (M0 : wM), bk12 x1 M0 = some M1 → wAt p l e rmX3_countKinds s m args below meth c (qV below args s G M1) 2 G M0 12 [(0, .ref (ga G (i))), (1, .int (x1))] [])) (x1 : Int32) (M0 : wM), fX3_countKinds_B12 i bk12 x1 M0 = some M1 → wAt p l e rmX3_countKinds s m args below meth c (qV below args s G M1) 2 G M0 12 [(0, .ref (ga G (i))), (1, .int (x1))] [] := by
    intro bk12 hbk12 x1 M0 hf
    unfold fX3_countKinds_B12 at hf
    refine wa_iload_n hC dX3_countKinds_12 rfl 1 rfl ?_
    refine wa_aload_n hC dX3_countKinds_13 rfl 0 rfl ?_
    refine rg3_8 hC fiX3_countKinds_3 hi mbX3_countKinds_48 dX3_countKinds_14 ?_
    refine wa_icmp_ge hC 70 dX3_countKinds_17 (by decide) (fun c3 => ?_) (fun c3 => ?_)
    · have hf := ite_t hf c3
      exact wa_vret hC hlk hr (so_inj hf) dX3_countKinds_70
    · have hf := ite_f hf c3
      refine wa_aload_n hC dX3_countKinds_20 rfl 0 rfl ?_
      refine wa_dup hC dX3_countKinds_21 rfl ?_
      refine rg3_9 hC fiX3_countKinds_3 hi mbX3_countKinds_114 dX3_countKinds_22 ?_
      refine wa_aload_n hC dX3_countKinds_25 rfl 0 rfl ?_
      refine wa_iload_n hC dX3_countKinds_26 rfl 1 rfl ?_
      obtain ⟨v4, h4, hf⟩ := bd hf
      refine wa_calli (rest := [_, _]) (wr_V hC (kX3_isGust l G hi h4) (cwV 1 hC.1.2.2.2.2 gX3_countKinds_X3_isGust rfl rfl rfl (by decide +kernel) ⟨Nat.le_of_ble_eq_true rfl, Nat.le_of_ble_eq_true rfl⟩) hi (by decide) (ce3 hi) rfl rfl rfl rfl (Nat.le_of_ble_eq_true rfl) dX3_countKinds_27) ?_
      refine wa_if_eq hC 37 dX3_countKinds_30 (by decide) (fun c5 => ?_) (fun c5 => ?_)
      · have hf := ite_t hf c5
        refine wa_iconst (v := 0) hC dX3_countKinds_37 (by decide) ?_
        exact wa_sub [0, 1] rfl (hJ38 bk12 hbk12 _ _ _ _ hf)
      · have hf := ite_f hf c5
        refine wa_iconst (v := 1) hC dX3_countKinds_33 (by decide) ?_
        refine wa_goto hC 38 dX3_countKinds_34 (by decide) ?_
        exact wa_sub [0, 1] rfl (hJ38 bk12 hbk12 _ _ _ _ hf)
  have hL12 : ∀ (n : Nat) (x1 : Int32) (M0 : wM), fX3_countKinds_L12 i  n x1 M0 = some M1 → wAt p l e rmX3_countKinds s m args below meth c (qV below args s G M1) 2 G M0 12 [(0, .ref (ga G (i))), (1, .int (x1))] [] := by
    intro  n
    induction n with
    | zero =>
      intro x1 M0 hf
      exact absurd hf (by simp [fX3_countKinds_L12])
    | succ n ih =>
      intro x1 M0 hf
      exact hB12  (fX3_countKinds_L12 i  n) ih x1 M0 hf
  unfold fX3_countKinds at hf
  refine wa_aload_n hC dX3_countKinds_0 rfl 0 rfl ?_
  refine wa_iconst (v := 0) hC dX3_countKinds_1 (by decide) ?_
  refine rp3_9 hC fiX3_countKinds_3 hi mbX3_countKinds_114 dX3_countKinds_2 ?_
  refine wa_aload_n hC dX3_countKinds_5 rfl 0 rfl ?_
  refine wa_iconst (v := 0) hC dX3_countKinds_6 (by decide) ?_
  refine rp3_10 hC fiX3_countKinds_3 hi mbX3_countKinds_117 dX3_countKinds_7 ?_
  refine wa_iconst (v := 0) hC dX3_countKinds_10 (by decide) ?_
  refine wa_istore_n (lv' := [(1, .int _), (0, .ref _)]) hC dX3_countKinds_11 rfl (by decide) rfl ?_
  exact wa_sub [1, 0] rfl (hL12 FU _ _ hf)
abbrev rmX3_lastVisit : Room := { frames := 2, cells := 0, slots := 0, locals := 42 }
theorem fiX3_lastVisit_3 : ∀ w ∈ u_ws RX3 TX3 12, w ∈ wsX3_lastVisit := by decide +kernel
theorem mbX3_lastVisit_15 : Cond.fieldLink RX3 15 "BaroRuns$Survey" "points" "[I" ∈ wsX3_lastVisit := by decide +kernel
theorem mbX3_lastVisit_s81 : Cond.static yX6_at ∈ wsX3_lastVisit := by decide +kernel
theorem mbX3_lastVisit_i81 : Cond.initialized RX6 ∈ wsX3_lastVisit := by decide +kernel
set_option maxHeartbeats 4000000 in
set_option maxRecDepth 100000 in
theorem kX3_lastVisit (l : Launch) (G : wG) {i : Nat} (hi : kd i = 3) {x1 : Int32} {M0 : wM} {r : Int32} (hf : fX3_lastVisit i x1 M0 = some r) : mI l yX3_lastVisit wsX3_lastVisit rmX3_lastVisit G [.ref (ga G (i)), .int (x1)] M0 r M0 := by
  refine mI.of (cc := cX3_lastVisit) (nL := 4) (ret := (some .int)) (own := RX3) (lv := [(0, .ref (ga G (i))), (1, .int (x1))]) (plainFor_of_name (by decide +kernel)) rfl rfl (Nat.le_of_ble_eq_true rfl) rfl ?_
  intro p e s m args below meth c hC hr hlk
  have hB13 : ∀ (bk13 : Int32 → Int32 → Option Int32) (hbk13 : (∀ (x2 : Int32) (x3 : Int32), bk13 x2 x3 = some r → wAt p l e rmX3_lastVisit s m args below meth c (qI below args s G r M0) 4 G M0 13 [(0, .ref (ga G (i))), (2, .int (x2)), (3, .int (x3))] [])) (x2 : Int32) (x3 : Int32), fX3_lastVisit_B13 i x1 M0 bk13 x2 x3 = some r → wAt p l e rmX3_lastVisit s m args below meth c (qI below args s G r M0) 4 G M0 13 [(0, .ref (ga G (i))), (2, .int (x2)), (3, .int (x3))] [] := by
    intro bk13 hbk13 x2 x3 hf
    unfold fX3_lastVisit_B13 at hf
    refine wa_iload_n hC dX3_lastVisit_13 rfl 2 rfl ?_
    refine wa_if_lt hC 45 dX3_lastVisit_14 (by decide) (fun c1 => ?_) (fun c1 => ?_)
    · have hf := ite_t hf c1
      refine wa_iconst (v := -1) hC dX3_lastVisit_45 (by decide) ?_
      exact wa_iret hC hlk hr (so_inj hf) rfl dX3_lastVisit_46
    · have hf := ite_f hf c1
      refine wa_aload_n hC dX3_lastVisit_17 rfl 0 rfl ?_
      refine wa_iload_n hC dX3_lastVisit_18 rfl 2 rfl ?_
      obtain ⟨v2, h2, hf⟩ := bd hf
      refine wa_calli (rest := []) (wr_V hC (kX3_isGood l G hi h2) (cwV 1 hC.1.2.2.2.2 gX3_lastVisit_X3_isGood rfl rfl rfl (by decide +kernel) ⟨Nat.le_of_ble_eq_true rfl, Nat.le_of_ble_eq_true rfl⟩) hi (by decide) (ce3 hi) rfl rfl rfl rfl (Nat.le_of_ble_eq_true rfl) dX3_lastVisit_19) ?_
      refine wa_if_eq hC 39 dX3_lastVisit_22 (by decide) (fun c3 => ?_) (fun c3 => ?_)
      · have hf := ite_t hf c3
        refine wa_iinc (v := _ + -1) (lv' := [(3, .int _), (0, .ref _), (2, .int _)]) hC dX3_lastVisit_39 (t := 2) rfl rfl (by decide) rfl ?_
        refine wa_goto hC 13 dX3_lastVisit_42 (by decide) ?_
        exact wa_sub [1, 2, 0] rfl (hbk13 _ _ hf)
      · have hf := ite_f hf c3
        refine wa_aload_n hC dX3_lastVisit_25 rfl 0 rfl ?_
        refine rg3_1 hC fiX3_lastVisit_3 hi mbX3_lastVisit_15 dX3_lastVisit_26 ?_
        refine wa_iload_n hC dX3_lastVisit_29 rfl 2 rfl ?_
        obtain ⟨v4, h4, hf⟩ := bd hf
        refine wa_calli (rest := []) (wr_SN hC (kX6_at l G (kf3_1 hi) h4) ⟨va_cnB 2 hC.1.2.2.2.2 gX3_lastVisit_X6_at_n81 rfl rfl rfl (nwm_Survey_81 hC.2.2.2) (hC.1.2.2.2.2 _ mbX3_lastVisit_i81) (by decide +kernel) ⟨Nat.le_of_ble_eq_true rfl, Nat.le_of_ble_eq_true rfl⟩, hC.1.2.2.2.2 _ mbX3_lastVisit_s81, trivial⟩ rfl rfl (Nat.le_of_ble_eq_true rfl) dX3_lastVisit_30) ?_
        refine wa_iload_n hC dX3_lastVisit_33 rfl 1 rfl ?_
        refine wa_icmp_ne hC 39 dX3_lastVisit_34 (by decide) (fun c5 => ?_) (fun c5 => ?_)
        · have hf := ite_f hf c5
          refine wa_iinc (v := _ + -1) (lv' := [(3, .int _), (0, .ref _), (2, .int _)]) hC dX3_lastVisit_39 (t := 2) rfl rfl (by decide) rfl ?_
          refine wa_goto hC 13 dX3_lastVisit_42 (by decide) ?_
          exact wa_sub [1, 2, 0] rfl (hbk13 _ _ hf)
        · have hf := ite_t hf c5
          refine wa_iload_n hC dX3_lastVisit_37 rfl 2 rfl ?_
          exact wa_iret hC hlk hr (so_inj hf) rfl dX3_lastVisit_38
  have hL13 : ∀ (n : Nat) (x2 : Int32) (x3 : Int32), fX3_lastVisit_L13 i x1 M0  n x2 x3 = some r → wAt p l e rmX3_lastVisit s m args below meth c (qI below args s G r M0) 4 G M0 13 [(0, .ref (ga G (i))), (2, .int (x2)), (3, .int (x3))] [] := by
    intro  n
    induction n with
    | zero =>
      intro x2 x3 hf
      exact absurd hf (by simp [fX3_lastVisit_L13])
    | succ n ih =>
      intro x2 x3 hf
      exact hB13  (fX3_lastVisit_L13 i x1 M0  n) ih x2 x3 hf
  unfold fX3_lastVisit at hf
  refine wa_aload_n hC dX3_lastVisit_0 rfl 0 rfl ?_
  refine rg3_1 hC fiX3_lastVisit_3 hi mbX3_lastVisit_15 dX3_lastVisit_1 ?_
  refine wa_iload_n hC dX3_lastVisit_4 rfl 1 rfl ?_
  obtain ⟨v6, h6, hf⟩ := bd hf
  refine wa_calli (rest := []) (wr_SN hC (kX6_at l G (kf3_1 hi) h6) ⟨va_cnB 2 hC.1.2.2.2.2 gX3_lastVisit_X6_at_n81 rfl rfl rfl (nwm_Survey_81 hC.2.2.2) (hC.1.2.2.2.2 _ mbX3_lastVisit_i81) (by decide +kernel) ⟨Nat.le_of_ble_eq_true rfl, Nat.le_of_ble_eq_true rfl⟩, hC.1.2.2.2.2 _ mbX3_lastVisit_s81, trivial⟩ rfl rfl (Nat.le_of_ble_eq_true rfl) dX3_lastVisit_5) ?_
  refine wa_istore_n (lv' := [(2, .int _), (0, .ref _), (1, .int _)]) hC dX3_lastVisit_8 rfl (by decide) rfl ?_
  refine wa_iload_n hC dX3_lastVisit_9 rfl 2 rfl ?_
  refine wa_iconst (v := 1) hC dX3_lastVisit_10 (by decide) ?_
  refine wa_isub hC dX3_lastVisit_11 ?_
  refine wa_istore_n (lv' := [(3, .int _), (2, .int _), (0, .ref _), (1, .int _)]) hC dX3_lastVisit_12 rfl (by decide) rfl ?_
  exact wa_sub [2, 1, 0] rfl (hL13 FU _ _ hf)
abbrev rmX3_findLoops : Room := { frames := 3, cells := 0, slots := 0, locals := 65 }
theorem fiX3_findLoops_3 : ∀ w ∈ u_ws RX3 TX3 12, w ∈ wsX3_findLoops := by decide +kernel
theorem mbX3_findLoops_30 : Cond.fieldLink RX3 30 "BaroRuns$Survey" "begins" "[I" ∈ wsX3_findLoops := by decide +kernel
theorem mbX3_findLoops_123 : Cond.fieldLink RX3 123 "BaroRuns$Survey" "loopCount" "I" ∈ wsX3_findLoops := by decide +kernel
theorem mbX3_findLoops_s53 : Cond.static yX6_put ∈ wsX3_findLoops := by decide +kernel
theorem mbX3_findLoops_i53 : Cond.initialized RX6 ∈ wsX3_findLoops := by decide +kernel
theorem mbX3_findLoops_33 : Cond.fieldLink RX3 33 "BaroRuns$Survey" "ends" "[I" ∈ wsX3_findLoops := by decide +kernel
theorem mbX3_findLoops_48 : Cond.fieldLink RX3 48 "BaroRuns$Survey" "size" "I" ∈ wsX3_findLoops := by decide +kernel
set_option maxHeartbeats 4000000 in
set_option maxRecDepth 100000 in
theorem kX3_findLoops (l : Launch) (G : wG) {i : Nat} (hi : kd i = 3) {M0 M1 : wM} (hf : fX3_findLoops i M0 = some M1) : mV l yX3_findLoops wsX3_findLoops rmX3_findLoops G [.ref (ga G (i))] M0 M1 := by
  refine mV.of (cc := cX3_findLoops) (nL := 3) (ret := none) (own := RX3) (lv := [(0, .ref (ga G (i)))]) (plainFor_of_name (by decide +kernel)) rfl rfl (Nat.le_of_ble_eq_true rfl) rfl ?_
  intro p e s m args below meth c hC hr hlk
  have hJ32 : ∀ (bk7 : Int32 → wM → Option wM) (hbk7 : (∀ (x1 : Int32) (M0 : wM), bk7 x1 M0 = some M1 → wAt p l e rmX3_findLoops s m args below meth c (qV below args s G M1) 3 G M0 7 [(0, .ref (ga G (i))), (1, .int (x1))] [])) (x1 : Int32) (s0 : Int32) (M0 : wM), fX3_findLoops_J32 i bk7 x1 s0 M0 = some M1 → wAt p l e rmX3_findLoops s m args below meth c (qV below args s G M1) 3 G M0 32 [(0, .ref (ga G (i))), (1, .int (x1))] [.int (s0)] := by
    intro bk7 hbk7 x1 s0 M0 hf
    unfold fX3_findLoops_J32 at hf
    refine wa_istore_n (lv' := [(2, .int _), (0, .ref _), (1, .int _)]) hC dX3_findLoops_32 rfl (by decide) rfl ?_
    refine wa_iload_n hC dX3_findLoops_33 rfl 0 rfl ?_
    refine wa_iconst (v := -1) hC dX3_findLoops_34 (by decide) ?_
    refine wa_icmp_eq hC 72 dX3_findLoops_35 (by decide) (fun c1 => ?_) (fun c1 => ?_)
    · have hf := ite_t hf c1
      refine wa_iinc (v := _ + 1) (lv' := [(1, .int _), (2, .int _), (0, .ref _)]) hC dX3_findLoops_72 (t := 2) rfl rfl (by decide) rfl ?_
      refine wa_goto hC 7 dX3_findLoops_75 (by decide) ?_
      exact wa_sub [2, 0] rfl (hbk7 _ _ hf)
    · have hf := ite_f hf c1
      refine wa_aload_n hC dX3_findLoops_38 rfl 1 rfl ?_
      refine rg3_6 hC fiX3_findLoops_3 hi mbX3_findLoops_30 dX3_findLoops_39 ?_
      refine wa_aload_n hC dX3_findLoops_42 rfl 1 rfl ?_
      refine rg3_11 hC fiX3_findLoops_3 hi mbX3_findLoops_123 dX3_findLoops_43 ?_
      refine wa_iload_n hC dX3_findLoops_46 rfl 0 rfl ?_
      obtain ⟨M2, h2, hf⟩ := bd hf
      refine wa_callv (rest := []) (wr_SN hC (kX6_put l G (kf3_6 hi) h2) ⟨va_cnB 3 hC.1.2.2.2.2 gX3_findLoops_X6_put_n53 rfl rfl rfl (nwm_Survey_53 hC.2.2.2) (hC.1.2.2.2.2 _ mbX3_findLoops_i53) (by decide +kernel) ⟨Nat.le_of_ble_eq_true rfl, Nat.le_of_ble_eq_true rfl⟩, hC.1.2.2.2.2 _ mbX3_findLoops_s53, trivial⟩ rfl rfl (Nat.le_of_ble_eq_true rfl) dX3_findLoops_47) ?_
      refine wa_aload_n hC dX3_findLoops_50 rfl 1 rfl ?_
      refine rg3_7 hC fiX3_findLoops_3 hi mbX3_findLoops_33 dX3_findLoops_51 ?_
      refine wa_aload_n hC dX3_findLoops_54 rfl 1 rfl ?_
      refine rg3_11 hC fiX3_findLoops_3 hi mbX3_findLoops_123 dX3_findLoops_55 ?_
      refine wa_iload_n hC dX3_findLoops_58 rfl 2 rfl ?_
      obtain ⟨M3, h3, hf⟩ := bd hf
      refine wa_callv (rest := []) (wr_SN hC (kX6_put l G (kf3_7 hi) h3) ⟨va_cnB 3 hC.1.2.2.2.2 gX3_findLoops_X6_put_n53 rfl rfl rfl (nwm_Survey_53 hC.2.2.2) (hC.1.2.2.2.2 _ mbX3_findLoops_i53) (by decide +kernel) ⟨Nat.le_of_ble_eq_true rfl, Nat.le_of_ble_eq_true rfl⟩, hC.1.2.2.2.2 _ mbX3_findLoops_s53, trivial⟩ rfl rfl (Nat.le_of_ble_eq_true rfl) dX3_findLoops_59) ?_
      refine wa_aload_n hC dX3_findLoops_62 rfl 1 rfl ?_
      refine wa_dup hC dX3_findLoops_63 rfl ?_
      refine rg3_11 hC fiX3_findLoops_3 hi mbX3_findLoops_123 dX3_findLoops_64 ?_
      refine wa_iconst (v := 1) hC dX3_findLoops_67 (by decide) ?_
      refine wa_iadd hC dX3_findLoops_68 ?_
      refine rp3_11 hC fiX3_findLoops_3 hi mbX3_findLoops_123 dX3_findLoops_69 ?_
      refine wa_iinc (v := _ + 1) (lv' := [(1, .int _), (2, .int _), (0, .ref _)]) hC dX3_findLoops_72 (t := 2) rfl rfl (by decide) rfl ?_
      refine wa_goto hC 7 dX3_findLoops_75 (by decide) ?_
      exact wa_sub [2, 0] rfl (hbk7 _ _ hf)
  have hB7 : ∀ (bk7 : Int32 → wM → Option wM) (hbk7 : (∀ (x1 : Int32) (M0 : wM), bk7 x1 M0 = some M1 → wAt p l e rmX3_findLoops s m args below meth c (qV below args s G M1) 3 G M0 7 [(0, .ref (ga G (i))), (1, .int (x1))] [])) (x1 : Int32) (M0 : wM), fX3_findLoops_B7 i bk7 x1 M0 = some M1 → wAt p l e rmX3_findLoops s m args below meth c (qV below args s G M1) 3 G M0 7 [(0, .ref (ga G (i))), (1, .int (x1))] [] := by
    intro bk7 hbk7 x1 M0 hf
    unfold fX3_findLoops_B7 at hf
    refine wa_iload_n hC dX3_findLoops_7 rfl 1 rfl ?_
    refine wa_aload_n hC dX3_findLoops_8 rfl 0 rfl ?_
    refine rg3_8 hC fiX3_findLoops_3 hi mbX3_findLoops_48 dX3_findLoops_9 ?_
    refine wa_icmp_ge hC 78 dX3_findLoops_12 (by decide) (fun c4 => ?_) (fun c4 => ?_)
    · have hf := ite_t hf c4
      exact wa_vret hC hlk hr (so_inj hf) dX3_findLoops_78
    · have hf := ite_f hf c4
      refine wa_aload_n hC dX3_findLoops_15 rfl 0 rfl ?_
      refine wa_iload_n hC dX3_findLoops_16 rfl 1 rfl ?_
      obtain ⟨v5, h5, hf⟩ := bd hf
      refine wa_calli (rest := []) (wr_V hC (kX3_isGood l G hi h5) (cwV 1 hC.1.2.2.2.2 gX3_findLoops_X3_isGood rfl rfl rfl (by decide +kernel) ⟨Nat.le_of_ble_eq_true rfl, Nat.le_of_ble_eq_true rfl⟩) hi (by decide) (ce3 hi) rfl rfl rfl rfl (Nat.le_of_ble_eq_true rfl) dX3_findLoops_17) ?_
      refine wa_if_eq hC 31 dX3_findLoops_20 (by decide) (fun c6 => ?_) (fun c6 => ?_)
      · have hf := ite_t hf c6
        refine wa_iconst (v := -1) hC dX3_findLoops_31 (by decide) ?_
        exact wa_sub [0, 1] rfl (hJ32 bk7 hbk7 _ _ _ hf)
      · have hf := ite_f hf c6
        refine wa_aload_n hC dX3_findLoops_23 rfl 0 rfl ?_
        refine wa_iload_n hC dX3_findLoops_24 rfl 1 rfl ?_
        obtain ⟨v7, h7, hf⟩ := bd hf
        refine wa_calli (rest := []) (wr_V hC (kX3_lastVisit l G hi h7) (cwV 1 hC.1.2.2.2.2 gX3_findLoops_X3_lastVisit rfl rfl rfl (by decide +kernel) ⟨Nat.le_of_ble_eq_true rfl, Nat.le_of_ble_eq_true rfl⟩) hi (by decide) (ce3 hi) rfl rfl rfl rfl (Nat.le_of_ble_eq_true rfl) dX3_findLoops_25) ?_
        refine wa_goto hC 32 dX3_findLoops_28 (by decide) ?_
        exact wa_sub [0, 1] rfl (hJ32 bk7 hbk7 _ _ _ hf)
  have hL7 : ∀ (n : Nat) (x1 : Int32) (M0 : wM), fX3_findLoops_L7 i  n x1 M0 = some M1 → wAt p l e rmX3_findLoops s m args below meth c (qV below args s G M1) 3 G M0 7 [(0, .ref (ga G (i))), (1, .int (x1))] [] := by
    intro  n
    induction n with
    | zero =>
      intro x1 M0 hf
      exact absurd hf (by simp [fX3_findLoops_L7])
    | succ n ih =>
      intro x1 M0 hf
      exact hB7  (fX3_findLoops_L7 i  n) ih x1 M0 hf
  unfold fX3_findLoops at hf
  refine wa_aload_n hC dX3_findLoops_0 rfl 0 rfl ?_
  refine wa_iconst (v := 0) hC dX3_findLoops_1 (by decide) ?_
  refine rp3_11 hC fiX3_findLoops_3 hi mbX3_findLoops_123 dX3_findLoops_2 ?_
  refine wa_iconst (v := 0) hC dX3_findLoops_5 (by decide) ?_
  refine wa_istore_n (lv' := [(1, .int _), (0, .ref _)]) hC dX3_findLoops_6 rfl (by decide) rfl ?_
  exact wa_sub [1, 0] rfl (hL7 FU _ _ hf)
abbrev rmX3_begin : Room := { frames := 1, cells := 0, slots := 0, locals := 21 }
theorem fiX3_begin_3 : ∀ w ∈ u_ws RX3 TX3 12, w ∈ wsX3_begin := by decide +kernel
theorem mbX3_begin_30 : Cond.fieldLink RX3 30 "BaroRuns$Survey" "begins" "[I" ∈ wsX3_begin := by decide +kernel
theorem mbX3_begin_s81 : Cond.static yX6_at ∈ wsX3_begin := by decide +kernel
theorem mbX3_begin_i81 : Cond.initialized RX6 ∈ wsX3_begin := by decide +kernel
set_option maxHeartbeats 4000000 in
set_option maxRecDepth 100000 in
theorem kX3_begin (l : Launch) (G : wG) {i : Nat} (hi : kd i = 3) {x1 : Int32} {M0 : wM} {r : Int32} (hf : fX3_begin i x1 M0 = some r) : mI l yX3_begin wsX3_begin rmX3_begin G [.ref (ga G (i)), .int (x1)] M0 r M0 := by
  refine mI.of (cc := cX3_begin) (nL := 2) (ret := (some .int)) (own := RX3) (lv := [(0, .ref (ga G (i))), (1, .int (x1))]) (plainFor_of_name (by decide +kernel)) rfl rfl (Nat.le_of_ble_eq_true rfl) rfl ?_
  intro p e s m args below meth c hC hr hlk
  unfold fX3_begin at hf
  refine wa_aload_n hC dX3_begin_0 rfl 0 rfl ?_
  refine rg3_6 hC fiX3_begin_3 hi mbX3_begin_30 dX3_begin_1 ?_
  refine wa_iload_n hC dX3_begin_4 rfl 1 rfl ?_
  obtain ⟨v1, h1, hf⟩ := bd hf
  refine wa_calli (rest := []) (wr_SN hC (kX6_at l G (kf3_6 hi) h1) ⟨va_cnB 2 hC.1.2.2.2.2 gX3_begin_X6_at_n81 rfl rfl rfl (nwm_Survey_81 hC.2.2.2) (hC.1.2.2.2.2 _ mbX3_begin_i81) (by decide +kernel) ⟨Nat.le_of_ble_eq_true rfl, Nat.le_of_ble_eq_true rfl⟩, hC.1.2.2.2.2 _ mbX3_begin_s81, trivial⟩ rfl rfl (Nat.le_of_ble_eq_true rfl) dX3_begin_5) ?_
  exact wa_iret hC hlk hr (so_inj hf) rfl dX3_begin_8
abbrev rmX3_end : Room := { frames := 1, cells := 0, slots := 0, locals := 21 }
theorem fiX3_end_3 : ∀ w ∈ u_ws RX3 TX3 12, w ∈ wsX3_end := by decide +kernel
theorem mbX3_end_33 : Cond.fieldLink RX3 33 "BaroRuns$Survey" "ends" "[I" ∈ wsX3_end := by decide +kernel
theorem mbX3_end_s81 : Cond.static yX6_at ∈ wsX3_end := by decide +kernel
theorem mbX3_end_i81 : Cond.initialized RX6 ∈ wsX3_end := by decide +kernel
set_option maxHeartbeats 4000000 in
set_option maxRecDepth 100000 in
theorem kX3_end (l : Launch) (G : wG) {i : Nat} (hi : kd i = 3) {x1 : Int32} {M0 : wM} {r : Int32} (hf : fX3_end i x1 M0 = some r) : mI l yX3_end wsX3_end rmX3_end G [.ref (ga G (i)), .int (x1)] M0 r M0 := by
  refine mI.of (cc := cX3_end) (nL := 2) (ret := (some .int)) (own := RX3) (lv := [(0, .ref (ga G (i))), (1, .int (x1))]) (plainFor_of_name (by decide +kernel)) rfl rfl (Nat.le_of_ble_eq_true rfl) rfl ?_
  intro p e s m args below meth c hC hr hlk
  unfold fX3_end at hf
  refine wa_aload_n hC dX3_end_0 rfl 0 rfl ?_
  refine rg3_7 hC fiX3_end_3 hi mbX3_end_33 dX3_end_1 ?_
  refine wa_iload_n hC dX3_end_4 rfl 1 rfl ?_
  obtain ⟨v1, h1, hf⟩ := bd hf
  refine wa_calli (rest := []) (wr_SN hC (kX6_at l G (kf3_7 hi) h1) ⟨va_cnB 2 hC.1.2.2.2.2 gX3_end_X6_at_n81 rfl rfl rfl (nwm_Survey_81 hC.2.2.2) (hC.1.2.2.2.2 _ mbX3_end_i81) (by decide +kernel) ⟨Nat.le_of_ble_eq_true rfl, Nat.le_of_ble_eq_true rfl⟩, hC.1.2.2.2.2 _ mbX3_end_s81, trivial⟩ rfl rfl (Nat.le_of_ble_eq_true rfl) dX3_end_5) ?_
  exact wa_iret hC hlk hr (so_inj hf) rfl dX3_end_8
abbrev rmX3_minutes : Room := { frames := 2, cells := 0, slots := 0, locals := 42 }
theorem fiX3_minutes_3 : ∀ w ∈ u_ws RX3 TX3 12, w ∈ wsX3_minutes := by decide +kernel
theorem mbX3_minutes_9 : Cond.fieldLink RX3 9 "BaroRuns$Survey" "times" "[I" ∈ wsX3_minutes := by decide +kernel
theorem mbX3_minutes_s81 : Cond.static yX6_at ∈ wsX3_minutes := by decide +kernel
theorem mbX3_minutes_i81 : Cond.initialized RX6 ∈ wsX3_minutes := by decide +kernel
set_option maxHeartbeats 4000000 in
set_option maxRecDepth 100000 in
theorem kX3_minutes (l : Launch) (G : wG) {i : Nat} (hi : kd i = 3) {x1 : Int32} {M0 : wM} {r : Int32} (hf : fX3_minutes i x1 M0 = some r) : mI l yX3_minutes wsX3_minutes rmX3_minutes G [.ref (ga G (i)), .int (x1)] M0 r M0 := by
  refine mI.of (cc := cX3_minutes) (nL := 2) (ret := (some .int)) (own := RX3) (lv := [(0, .ref (ga G (i))), (1, .int (x1))]) (plainFor_of_name (by decide +kernel)) rfl rfl (Nat.le_of_ble_eq_true rfl) rfl ?_
  intro p e s m args below meth c hC hr hlk
  unfold fX3_minutes at hf
  refine wa_aload_n hC dX3_minutes_0 rfl 0 rfl ?_
  refine rg3_0 hC fiX3_minutes_3 hi mbX3_minutes_9 dX3_minutes_1 ?_
  refine wa_aload_n hC dX3_minutes_4 rfl 0 rfl ?_
  refine wa_iload_n hC dX3_minutes_5 rfl 1 rfl ?_
  obtain ⟨v1, h1, hf⟩ := bd hf
  refine wa_calli (rest := [_]) (wr_V hC (kX3_end l G hi h1) (cwV 1 hC.1.2.2.2.2 gX3_minutes_X3_end rfl rfl rfl (by decide +kernel) ⟨Nat.le_of_ble_eq_true rfl, Nat.le_of_ble_eq_true rfl⟩) hi (by decide) (ce3 hi) rfl rfl rfl rfl (Nat.le_of_ble_eq_true rfl) dX3_minutes_6) ?_
  obtain ⟨v2, h2, hf⟩ := bd hf
  refine wa_calli (rest := []) (wr_SN hC (kX6_at l G (kf3_0 hi) h2) ⟨va_cnB 2 hC.1.2.2.2.2 gX3_minutes_X6_at_n81 rfl rfl rfl (nwm_Survey_81 hC.2.2.2) (hC.1.2.2.2.2 _ mbX3_minutes_i81) (by decide +kernel) ⟨Nat.le_of_ble_eq_true rfl, Nat.le_of_ble_eq_true rfl⟩, hC.1.2.2.2.2 _ mbX3_minutes_s81, trivial⟩ rfl rfl (Nat.le_of_ble_eq_true rfl) dX3_minutes_9) ?_
  refine wa_aload_n hC dX3_minutes_12 rfl 0 rfl ?_
  refine rg3_0 hC fiX3_minutes_3 hi mbX3_minutes_9 dX3_minutes_13 ?_
  refine wa_aload_n hC dX3_minutes_16 rfl 0 rfl ?_
  refine wa_iload_n hC dX3_minutes_17 rfl 1 rfl ?_
  obtain ⟨v3, h3, hf⟩ := bd hf
  refine wa_calli (rest := [_, _]) (wr_V hC (kX3_begin l G hi h3) (cwV 1 hC.1.2.2.2.2 gX3_minutes_X3_begin rfl rfl rfl (by decide +kernel) ⟨Nat.le_of_ble_eq_true rfl, Nat.le_of_ble_eq_true rfl⟩) hi (by decide) (ce3 hi) rfl rfl rfl rfl (Nat.le_of_ble_eq_true rfl) dX3_minutes_18) ?_
  obtain ⟨v4, h4, hf⟩ := bd hf
  refine wa_calli (rest := [_]) (wr_SN hC (kX6_at l G (kf3_0 hi) h4) ⟨va_cnB 2 hC.1.2.2.2.2 gX3_minutes_X6_at_n81 rfl rfl rfl (nwm_Survey_81 hC.2.2.2) (hC.1.2.2.2.2 _ mbX3_minutes_i81) (by decide +kernel) ⟨Nat.le_of_ble_eq_true rfl, Nat.le_of_ble_eq_true rfl⟩, hC.1.2.2.2.2 _ mbX3_minutes_s81, trivial⟩ rfl rfl (Nat.le_of_ble_eq_true rfl) dX3_minutes_21) ?_
  refine wa_isub hC dX3_minutes_24 ?_
  exact wa_iret hC hlk hr (so_inj hf) rfl dX3_minutes_25
abbrev rmX3_shortestLoop : Room := { frames := 3, cells := 0, slots := 0, locals := 63 }
theorem fiX3_shortestLoop_3 : ∀ w ∈ u_ws RX3 TX3 12, w ∈ wsX3_shortestLoop := by decide +kernel
theorem mbX3_shortestLoop_123 : Cond.fieldLink RX3 123 "BaroRuns$Survey" "loopCount" "I" ∈ wsX3_shortestLoop := by decide +kernel
set_option maxHeartbeats 4000000 in
set_option maxRecDepth 100000 in
theorem kX3_shortestLoop (l : Launch) (G : wG) {i : Nat} (hi : kd i = 3) {x1 : Int32} {M0 : wM} {r : Int32} (hf : fX3_shortestLoop i x1 M0 = some r) : mI l yX3_shortestLoop wsX3_shortestLoop rmX3_shortestLoop G [.ref (ga G (i)), .int (x1)] M0 r M0 := by
  refine mI.of (cc := cX3_shortestLoop) (nL := 5) (ret := (some .int)) (own := RX3) (lv := [(0, .ref (ga G (i))), (1, .int (x1))]) (plainFor_of_name (by decide +kernel)) rfl rfl (Nat.le_of_ble_eq_true rfl) rfl ?_
  intro p e s m args below meth c hC hr hlk
  have hJ45 : ∀ (bk14 : Int32 → Int32 → Option Int32) (hbk14 : (∀ (x2 : Int32) (x3 : Int32), bk14 x2 x3 = some r → wAt p l e rmX3_shortestLoop s m args below meth c (qI below args s G r M0) 5 G M0 14 [(0, .ref (ga G (i))), (1, .int (x1)), (2, .int (x2)), (3, .int (x3))] [])) (x2 : Int32) (x3 : Int32) (s0 : Int32), fX3_shortestLoop_J45 i x1 M0 bk14 x2 x3 s0 = some r → wAt p l e rmX3_shortestLoop s m args below meth c (qI below args s G r M0) 5 G M0 45 [(0, .ref (ga G (i))), (1, .int (x1)), (2, .int (x2)), (3, .int (x3))] [.int (s0)] := by
    intro bk14 hbk14 x2 x3 s0 hf
    unfold fX3_shortestLoop_J45 at hf
    refine wa_istore (lv' := [(4, .int _), (0, .ref _), (1, .int _), (2, .int _), (3, .int _)]) hC dX3_shortestLoop_45 (by decide) rfl ?_
    refine wa_iload hC dX3_shortestLoop_47 0 rfl ?_
    refine wa_if_eq hC 72 dX3_shortestLoop_49 (by decide) (fun c1 => ?_) (fun c1 => ?_)
    · have hf := ite_t hf c1
      refine wa_iinc (v := _ + 1) (lv' := [(3, .int _), (4, .int _), (0, .ref _), (1, .int _), (2, .int _)]) hC dX3_shortestLoop_72 (t := 4) rfl rfl (by decide) rfl ?_
      refine wa_goto hC 14 dX3_shortestLoop_75 (by decide) ?_
      exact wa_sub [2, 3, 4, 0] rfl (hbk14 _ _ hf)
    · have hf := ite_f hf c1
      refine wa_iload_n hC dX3_shortestLoop_52 rfl 3 rfl ?_
      refine wa_iconst (v := -1) hC dX3_shortestLoop_53 (by decide) ?_
      refine wa_icmp_eq hC 70 dX3_shortestLoop_54 (by decide) (fun c2 => ?_) (fun c2 => ?_)
      · have hf := ite_t hf c2
        refine wa_iload_n hC dX3_shortestLoop_70 rfl 4 rfl ?_
        refine wa_istore_n (lv' := [(2, .int _), (4, .int _), (0, .ref _), (1, .int _), (3, .int _)]) hC dX3_shortestLoop_71 rfl (by decide) rfl ?_
        refine wa_iinc (v := _ + 1) (lv' := [(3, .int _), (2, .int _), (4, .int _), (0, .ref _), (1, .int _)]) hC dX3_shortestLoop_72 (t := 4) rfl rfl (by decide) rfl ?_
        refine wa_goto hC 14 dX3_shortestLoop_75 (by decide) ?_
        exact wa_sub [3, 4, 1, 0] rfl (hbk14 _ _ hf)
      · have hf := ite_f hf c2
        refine wa_aload_n hC dX3_shortestLoop_57 rfl 1 rfl ?_
        refine wa_iload_n hC dX3_shortestLoop_58 rfl 4 rfl ?_
        obtain ⟨v3, h3, hf⟩ := bd hf
        refine wa_calli (rest := []) (wr_V hC (kX3_minutes l G hi h3) (cwV 1 hC.1.2.2.2.2 gX3_shortestLoop_X3_minutes rfl rfl rfl (by decide +kernel) ⟨Nat.le_of_ble_eq_true rfl, Nat.le_of_ble_eq_true rfl⟩) hi (by decide) (ce3 hi) rfl rfl rfl rfl (Nat.le_of_ble_eq_true rfl) dX3_shortestLoop_59) ?_
        refine wa_aload_n hC dX3_shortestLoop_62 rfl 1 rfl ?_
        refine wa_iload_n hC dX3_shortestLoop_63 rfl 3 rfl ?_
        obtain ⟨v4, h4, hf⟩ := bd hf
        refine wa_calli (rest := [_]) (wr_V hC (kX3_minutes l G hi h4) (cwV 1 hC.1.2.2.2.2 gX3_shortestLoop_X3_minutes rfl rfl rfl (by decide +kernel) ⟨Nat.le_of_ble_eq_true rfl, Nat.le_of_ble_eq_true rfl⟩) hi (by decide) (ce3 hi) rfl rfl rfl rfl (Nat.le_of_ble_eq_true rfl) dX3_shortestLoop_64) ?_
        refine wa_icmp_ge hC 72 dX3_shortestLoop_67 (by decide) (fun c5 => ?_) (fun c5 => ?_)
        · have hf := ite_t hf c5
          refine wa_iinc (v := _ + 1) (lv' := [(3, .int _), (4, .int _), (0, .ref _), (1, .int _), (2, .int _)]) hC dX3_shortestLoop_72 (t := 4) rfl rfl (by decide) rfl ?_
          refine wa_goto hC 14 dX3_shortestLoop_75 (by decide) ?_
          exact wa_sub [2, 3, 4, 0] rfl (hbk14 _ _ hf)
        · have hf := ite_f hf c5
          refine wa_iload_n hC dX3_shortestLoop_70 rfl 4 rfl ?_
          refine wa_istore_n (lv' := [(2, .int _), (4, .int _), (0, .ref _), (1, .int _), (3, .int _)]) hC dX3_shortestLoop_71 rfl (by decide) rfl ?_
          refine wa_iinc (v := _ + 1) (lv' := [(3, .int _), (2, .int _), (4, .int _), (0, .ref _), (1, .int _)]) hC dX3_shortestLoop_72 (t := 4) rfl rfl (by decide) rfl ?_
          refine wa_goto hC 14 dX3_shortestLoop_75 (by decide) ?_
          exact wa_sub [3, 4, 1, 0] rfl (hbk14 _ _ hf)
  have hB14 : ∀ (bk14 : Int32 → Int32 → Option Int32) (hbk14 : (∀ (x2 : Int32) (x3 : Int32), bk14 x2 x3 = some r → wAt p l e rmX3_shortestLoop s m args below meth c (qI below args s G r M0) 5 G M0 14 [(0, .ref (ga G (i))), (1, .int (x1)), (2, .int (x2)), (3, .int (x3))] [])) (x2 : Int32) (x3 : Int32), fX3_shortestLoop_B14 i x1 M0 bk14 x2 x3 = some r → wAt p l e rmX3_shortestLoop s m args below meth c (qI below args s G r M0) 5 G M0 14 [(0, .ref (ga G (i))), (1, .int (x1)), (2, .int (x2)), (3, .int (x3))] [] := by
    intro bk14 hbk14 x2 x3 hf
    unfold fX3_shortestLoop_B14 at hf
    refine wa_iload_n hC dX3_shortestLoop_14 rfl 3 rfl ?_
    refine wa_aload_n hC dX3_shortestLoop_15 rfl 0 rfl ?_
    refine rg3_11 hC fiX3_shortestLoop_3 hi mbX3_shortestLoop_123 dX3_shortestLoop_16 ?_
    refine wa_icmp_ge hC 78 dX3_shortestLoop_19 (by decide) (fun c6 => ?_) (fun c6 => ?_)
    · have hf := ite_t hf c6
      refine wa_iload_n hC dX3_shortestLoop_78 rfl 2 rfl ?_
      exact wa_iret hC hlk hr (so_inj hf) rfl dX3_shortestLoop_79
    · have hf := ite_f hf c6
      refine wa_aload_n hC dX3_shortestLoop_22 rfl 0 rfl ?_
      refine wa_iload_n hC dX3_shortestLoop_23 rfl 3 rfl ?_
      obtain ⟨v7, h7, hf⟩ := bd hf
      refine wa_calli (rest := []) (wr_V hC (kX3_begin l G hi h7) (cwV 1 hC.1.2.2.2.2 gX3_shortestLoop_X3_begin rfl rfl rfl (by decide +kernel) ⟨Nat.le_of_ble_eq_true rfl, Nat.le_of_ble_eq_true rfl⟩) hi (by decide) (ce3 hi) rfl rfl rfl rfl (Nat.le_of_ble_eq_true rfl) dX3_shortestLoop_24) ?_
      refine wa_iload_n hC dX3_shortestLoop_27 rfl 1 rfl ?_
      refine wa_icmp_gt hC 44 dX3_shortestLoop_28 (by decide) (fun c8 => ?_) (fun c8 => ?_)
      · have hf := ite_t hf c8
        refine wa_iconst (v := 0) hC dX3_shortestLoop_44 (by decide) ?_
        exact wa_sub [0, 1, 2, 3] rfl (hJ45 bk14 hbk14 _ _ _ hf)
      · have hf := ite_f hf c8
        refine wa_iload_n hC dX3_shortestLoop_31 rfl 1 rfl ?_
        refine wa_aload_n hC dX3_shortestLoop_32 rfl 0 rfl ?_
        refine wa_iload_n hC dX3_shortestLoop_33 rfl 3 rfl ?_
        obtain ⟨v9, h9, hf⟩ := bd hf
        refine wa_calli (rest := [_]) (wr_V hC (kX3_end l G hi h9) (cwV 1 hC.1.2.2.2.2 gX3_shortestLoop_X3_end rfl rfl rfl (by decide +kernel) ⟨Nat.le_of_ble_eq_true rfl, Nat.le_of_ble_eq_true rfl⟩) hi (by decide) (ce3 hi) rfl rfl rfl rfl (Nat.le_of_ble_eq_true rfl) dX3_shortestLoop_34) ?_
        refine wa_icmp_gt hC 44 dX3_shortestLoop_37 (by decide) (fun c10 => ?_) (fun c10 => ?_)
        · have hf := ite_t hf c10
          refine wa_iconst (v := 0) hC dX3_shortestLoop_44 (by decide) ?_
          exact wa_sub [0, 1, 2, 3] rfl (hJ45 bk14 hbk14 _ _ _ hf)
        · have hf := ite_f hf c10
          refine wa_iconst (v := 1) hC dX3_shortestLoop_40 (by decide) ?_
          refine wa_goto hC 45 dX3_shortestLoop_41 (by decide) ?_
          exact wa_sub [0, 1, 2, 3] rfl (hJ45 bk14 hbk14 _ _ _ hf)
  have hL14 : ∀ (n : Nat) (x2 : Int32) (x3 : Int32), fX3_shortestLoop_L14 i x1 M0  n x2 x3 = some r → wAt p l e rmX3_shortestLoop s m args below meth c (qI below args s G r M0) 5 G M0 14 [(0, .ref (ga G (i))), (1, .int (x1)), (2, .int (x2)), (3, .int (x3))] [] := by
    intro  n
    induction n with
    | zero =>
      intro x2 x3 hf
      exact absurd hf (by simp [fX3_shortestLoop_L14])
    | succ n ih =>
      intro x2 x3 hf
      exact hB14  (fX3_shortestLoop_L14 i x1 M0  n) ih x2 x3 hf
  unfold fX3_shortestLoop at hf
  refine wa_iconst (v := -1) hC dX3_shortestLoop_0 (by decide) ?_
  refine wa_istore_n (lv' := [(2, .int _), (0, .ref _), (1, .int _)]) hC dX3_shortestLoop_1 rfl (by decide) rfl ?_
  refine wa_aload_n hC dX3_shortestLoop_2 rfl 1 rfl ?_
  refine wa_iload_n hC dX3_shortestLoop_3 rfl 2 rfl ?_
  obtain ⟨v11, h11, hf⟩ := bd hf
  refine wa_calli (rest := []) (wr_V hC (kX3_isGood l G hi h11) (cwV 1 hC.1.2.2.2.2 gX3_shortestLoop_X3_isGood rfl rfl rfl (by decide +kernel) ⟨Nat.le_of_ble_eq_true rfl, Nat.le_of_ble_eq_true rfl⟩) hi (by decide) (ce3 hi) rfl rfl rfl rfl (Nat.le_of_ble_eq_true rfl) dX3_shortestLoop_4) ?_
  refine wa_if_ne hC 12 dX3_shortestLoop_7 (by decide) (fun c12 => ?_) (fun c12 => ?_)
  · have hf := ite_f hf c12
    refine wa_iconst (v := 0) hC dX3_shortestLoop_12 (by decide) ?_
    refine wa_istore_n (lv' := [(3, .int _), (2, .int _), (0, .ref _), (1, .int _)]) hC dX3_shortestLoop_13 rfl (by decide) rfl ?_
    exact wa_sub [2, 3, 1, 0] rfl (hL14 FU _ _ hf)
  · have hf := ite_t hf c12
    refine wa_iconst (v := -1) hC dX3_shortestLoop_10 (by decide) ?_
    exact wa_iret hC hlk hr (so_inj hf) rfl dX3_shortestLoop_11
abbrev rmX3_openLoopOf : Room := { frames := 1, cells := 0, slots := 0, locals := 21 }
theorem fiX3_openLoopOf_3 : ∀ w ∈ u_ws RX3 TX3 12, w ∈ wsX3_openLoopOf := by decide +kernel
theorem mbX3_openLoopOf_24 : Cond.fieldLink RX3 24 "BaroRuns$Survey" "openLoops" "[I" ∈ wsX3_openLoopOf := by decide +kernel
theorem mbX3_openLoopOf_s81 : Cond.static yX6_at ∈ wsX3_openLoopOf := by decide +kernel
theorem mbX3_openLoopOf_i81 : Cond.initialized RX6 ∈ wsX3_openLoopOf := by decide +kernel
set_option maxHeartbeats 4000000 in
set_option maxRecDepth 100000 in
theorem kX3_openLoopOf (l : Launch) (G : wG) {i : Nat} (hi : kd i = 3) {x1 : Int32} {M0 : wM} {r : Int32} (hf : fX3_openLoopOf i x1 M0 = some r) : mI l yX3_openLoopOf wsX3_openLoopOf rmX3_openLoopOf G [.ref (ga G (i)), .int (x1)] M0 r M0 := by
  refine mI.of (cc := cX3_openLoopOf) (nL := 2) (ret := (some .int)) (own := RX3) (lv := [(0, .ref (ga G (i))), (1, .int (x1))]) (plainFor_of_name (by decide +kernel)) rfl rfl (Nat.le_of_ble_eq_true rfl) rfl ?_
  intro p e s m args below meth c hC hr hlk
  unfold fX3_openLoopOf at hf
  refine wa_aload_n hC dX3_openLoopOf_0 rfl 0 rfl ?_
  refine rg3_4 hC fiX3_openLoopOf_3 hi mbX3_openLoopOf_24 dX3_openLoopOf_1 ?_
  refine wa_iload_n hC dX3_openLoopOf_4 rfl 1 rfl ?_
  obtain ⟨v1, h1, hf⟩ := bd hf
  refine wa_calli (rest := []) (wr_SN hC (kX6_at l G (kf3_4 hi) h1) ⟨va_cnB 2 hC.1.2.2.2.2 gX3_openLoopOf_X6_at_n81 rfl rfl rfl (nwm_Survey_81 hC.2.2.2) (hC.1.2.2.2.2 _ mbX3_openLoopOf_i81) (by decide +kernel) ⟨Nat.le_of_ble_eq_true rfl, Nat.le_of_ble_eq_true rfl⟩, hC.1.2.2.2.2 _ mbX3_openLoopOf_s81, trivial⟩ rfl rfl (Nat.le_of_ble_eq_true rfl) dX3_openLoopOf_5) ?_
  exact wa_iret hC hlk hr (so_inj hf) rfl dX3_openLoopOf_8
abbrev rmX3_rawHeight : Room := { frames := 1, cells := 0, slots := 0, locals := 21 }
theorem fiX3_rawHeight_3 : ∀ w ∈ u_ws RX3 TX3 12, w ∈ wsX3_rawHeight := by decide +kernel
theorem mbX3_rawHeight_18 : Cond.fieldLink RX3 18 "BaroRuns$Survey" "heights" "[I" ∈ wsX3_rawHeight := by decide +kernel
theorem mbX3_rawHeight_s81 : Cond.static yX6_at ∈ wsX3_rawHeight := by decide +kernel
theorem mbX3_rawHeight_i81 : Cond.initialized RX6 ∈ wsX3_rawHeight := by decide +kernel
set_option maxHeartbeats 4000000 in
set_option maxRecDepth 100000 in
theorem kX3_rawHeight (l : Launch) (G : wG) {i : Nat} (hi : kd i = 3) {x1 : Int32} {M0 : wM} {r : Int32} (hf : fX3_rawHeight i x1 M0 = some r) : mI l yX3_rawHeight wsX3_rawHeight rmX3_rawHeight G [.ref (ga G (i)), .int (x1)] M0 r M0 := by
  refine mI.of (cc := cX3_rawHeight) (nL := 2) (ret := (some .int)) (own := RX3) (lv := [(0, .ref (ga G (i))), (1, .int (x1))]) (plainFor_of_name (by decide +kernel)) rfl rfl (Nat.le_of_ble_eq_true rfl) rfl ?_
  intro p e s m args below meth c hC hr hlk
  unfold fX3_rawHeight at hf
  refine wa_aload_n hC dX3_rawHeight_0 rfl 0 rfl ?_
  refine rg3_2 hC fiX3_rawHeight_3 hi mbX3_rawHeight_18 dX3_rawHeight_1 ?_
  refine wa_iload_n hC dX3_rawHeight_4 rfl 1 rfl ?_
  obtain ⟨v1, h1, hf⟩ := bd hf
  refine wa_calli (rest := []) (wr_SN hC (kX6_at l G (kf3_2 hi) h1) ⟨va_cnB 2 hC.1.2.2.2.2 gX3_rawHeight_X6_at_n81 rfl rfl rfl (nwm_Survey_81 hC.2.2.2) (hC.1.2.2.2.2 _ mbX3_rawHeight_i81) (by decide +kernel) ⟨Nat.le_of_ble_eq_true rfl, Nat.le_of_ble_eq_true rfl⟩, hC.1.2.2.2.2 _ mbX3_rawHeight_s81, trivial⟩ rfl rfl (Nat.le_of_ble_eq_true rfl) dX3_rawHeight_5) ?_
  exact wa_iret hC hlk hr (so_inj hf) rfl dX3_rawHeight_8
abbrev rmX3_misclosure : Room := { frames := 2, cells := 0, slots := 0, locals := 42 }
set_option maxHeartbeats 4000000 in
set_option maxRecDepth 100000 in
theorem kX3_misclosure (l : Launch) (G : wG) {i : Nat} (hi : kd i = 3) {x1 : Int32} {M0 : wM} {r : Int32} (hf : fX3_misclosure i x1 M0 = some r) : mI l yX3_misclosure wsX3_misclosure rmX3_misclosure G [.ref (ga G (i)), .int (x1)] M0 r M0 := by
  refine mI.of (cc := cX3_misclosure) (nL := 2) (ret := (some .int)) (own := RX3) (lv := [(0, .ref (ga G (i))), (1, .int (x1))]) (plainFor_of_name (by decide +kernel)) rfl rfl (Nat.le_of_ble_eq_true rfl) rfl ?_
  intro p e s m args below meth c hC hr hlk
  unfold fX3_misclosure at hf
  refine wa_aload_n hC dX3_misclosure_0 rfl 0 rfl ?_
  refine wa_aload_n hC dX3_misclosure_1 rfl 0 rfl ?_
  refine wa_iload_n hC dX3_misclosure_2 rfl 1 rfl ?_
  obtain ⟨v1, h1, hf⟩ := bd hf
  refine wa_calli (rest := [_]) (wr_V hC (kX3_end l G hi h1) (cwV 1 hC.1.2.2.2.2 gX3_misclosure_X3_end rfl rfl rfl (by decide +kernel) ⟨Nat.le_of_ble_eq_true rfl, Nat.le_of_ble_eq_true rfl⟩) hi (by decide) (ce3 hi) rfl rfl rfl rfl (Nat.le_of_ble_eq_true rfl) dX3_misclosure_3) ?_
  obtain ⟨v2, h2, hf⟩ := bd hf
  refine wa_calli (rest := []) (wr_V hC (kX3_rawHeight l G hi h2) (cwV 1 hC.1.2.2.2.2 gX3_misclosure_X3_rawHeight rfl rfl rfl (by decide +kernel) ⟨Nat.le_of_ble_eq_true rfl, Nat.le_of_ble_eq_true rfl⟩) hi (by decide) (ce3 hi) rfl rfl rfl rfl (Nat.le_of_ble_eq_true rfl) dX3_misclosure_6) ?_
  refine wa_aload_n hC dX3_misclosure_9 rfl 0 rfl ?_
  refine wa_aload_n hC dX3_misclosure_10 rfl 0 rfl ?_
  refine wa_iload_n hC dX3_misclosure_11 rfl 1 rfl ?_
  obtain ⟨v3, h3, hf⟩ := bd hf
  refine wa_calli (rest := [_, _]) (wr_V hC (kX3_begin l G hi h3) (cwV 1 hC.1.2.2.2.2 gX3_misclosure_X3_begin rfl rfl rfl (by decide +kernel) ⟨Nat.le_of_ble_eq_true rfl, Nat.le_of_ble_eq_true rfl⟩) hi (by decide) (ce3 hi) rfl rfl rfl rfl (Nat.le_of_ble_eq_true rfl) dX3_misclosure_12) ?_
  obtain ⟨v4, h4, hf⟩ := bd hf
  refine wa_calli (rest := [_]) (wr_V hC (kX3_rawHeight l G hi h4) (cwV 1 hC.1.2.2.2.2 gX3_misclosure_X3_rawHeight rfl rfl rfl (by decide +kernel) ⟨Nat.le_of_ble_eq_true rfl, Nat.le_of_ble_eq_true rfl⟩) hi (by decide) (ce3 hi) rfl rfl rfl rfl (Nat.le_of_ble_eq_true rfl) dX3_misclosure_15) ?_
  refine wa_isub hC dX3_misclosure_18 ?_
  exact wa_iret hC hlk hr (so_inj hf) rfl dX3_misclosure_19
abbrev rmX3_withoutDrift : Room := { frames := 3, cells := 0, slots := 0, locals := 63 }
theorem fiX3_withoutDrift_3 : ∀ w ∈ u_ws RX3 TX3 12, w ∈ wsX3_withoutDrift := by decide +kernel
theorem mbX3_withoutDrift_9 : Cond.fieldLink RX3 9 "BaroRuns$Survey" "times" "[I" ∈ wsX3_withoutDrift := by decide +kernel
theorem mbX3_withoutDrift_s81 : Cond.static yX6_at ∈ wsX3_withoutDrift := by decide +kernel
theorem mbX3_withoutDrift_i81 : Cond.initialized RX6 ∈ wsX3_withoutDrift := by decide +kernel
theorem mbX3_withoutDrift_s135 : Cond.static yX6_divideDown ∈ wsX3_withoutDrift := by decide +kernel
theorem mbX3_withoutDrift_i135 : Cond.initialized RX6 ∈ wsX3_withoutDrift := by decide +kernel
theorem mbX3_withoutDrift_85 : Cond.constant RX3 85 (-2000000004) ∈ wsX3_withoutDrift := by decide +kernel
set_option maxHeartbeats 4000000 in
set_option maxRecDepth 100000 in
theorem kX3_withoutDrift (l : Launch) (G : wG) {i : Nat} (hi : kd i = 3) {x1 : Int32} {M0 : wM} {r : Int32} (hf : fX3_withoutDrift i x1 M0 = some r) : mI l yX3_withoutDrift wsX3_withoutDrift rmX3_withoutDrift G [.ref (ga G (i)), .int (x1)] M0 r M0 := by
  refine mI.of (cc := cX3_withoutDrift) (nL := 5) (ret := (some .int)) (own := RX3) (lv := [(0, .ref (ga G (i))), (1, .int (x1))]) (plainFor_of_name (by decide +kernel)) rfl rfl (Nat.le_of_ble_eq_true rfl) rfl ?_
  intro p e s m args below meth c hC hr hlk
  unfold fX3_withoutDrift at hf
  refine wa_aload_n hC dX3_withoutDrift_0 rfl 0 rfl ?_
  refine wa_iload_n hC dX3_withoutDrift_1 rfl 1 rfl ?_
  obtain ⟨v1, h1, hf⟩ := bd hf
  refine wa_calli (rest := []) (wr_V hC (kX3_isGood l G hi h1) (cwV 1 hC.1.2.2.2.2 gX3_withoutDrift_X3_isGood rfl rfl rfl (by decide +kernel) ⟨Nat.le_of_ble_eq_true rfl, Nat.le_of_ble_eq_true rfl⟩) hi (by decide) (ce3 hi) rfl rfl rfl rfl (Nat.le_of_ble_eq_true rfl) dX3_withoutDrift_2) ?_
  refine wa_if_ne hC 11 dX3_withoutDrift_5 (by decide) (fun c2 => ?_) (fun c2 => ?_)
  · have hf := ite_f hf c2
    refine wa_aload_n hC dX3_withoutDrift_11 rfl 0 rfl ?_
    refine wa_iload_n hC dX3_withoutDrift_12 rfl 1 rfl ?_
    obtain ⟨v3, h3, hf⟩ := bd hf
    refine wa_calli (rest := []) (wr_V hC (kX3_openLoopOf l G hi h3) (cwV 1 hC.1.2.2.2.2 gX3_withoutDrift_X3_openLoopOf rfl rfl rfl (by decide +kernel) ⟨Nat.le_of_ble_eq_true rfl, Nat.le_of_ble_eq_true rfl⟩) hi (by decide) (ce3 hi) rfl rfl rfl rfl (Nat.le_of_ble_eq_true rfl) dX3_withoutDrift_13) ?_
    refine wa_istore_n (lv' := [(2, .int _), (0, .ref _), (1, .int _)]) hC dX3_withoutDrift_16 rfl (by decide) rfl ?_
    refine wa_iload_n hC dX3_withoutDrift_17 rfl 0 rfl ?_
    refine wa_iconst (v := -1) hC dX3_withoutDrift_18 (by decide) ?_
    refine wa_icmp_ne hC 28 dX3_withoutDrift_19 (by decide) (fun c4 => ?_) (fun c4 => ?_)
    · have hf := ite_f hf c4
      refine wa_aload_n hC dX3_withoutDrift_28 rfl 1 rfl ?_
      refine rg3_0 hC fiX3_withoutDrift_3 hi mbX3_withoutDrift_9 dX3_withoutDrift_29 ?_
      refine wa_iload_n hC dX3_withoutDrift_32 rfl 2 rfl ?_
      obtain ⟨v5, h5, hf⟩ := bd hf
      refine wa_calli (rest := []) (wr_SN hC (kX6_at l G (kf3_0 hi) h5) ⟨va_cnB 2 hC.1.2.2.2.2 gX3_withoutDrift_X6_at_n81 rfl rfl rfl (nwm_Survey_81 hC.2.2.2) (hC.1.2.2.2.2 _ mbX3_withoutDrift_i81) (by decide +kernel) ⟨Nat.le_of_ble_eq_true rfl, Nat.le_of_ble_eq_true rfl⟩, hC.1.2.2.2.2 _ mbX3_withoutDrift_s81, trivial⟩ rfl rfl (Nat.le_of_ble_eq_true rfl) dX3_withoutDrift_33) ?_
      refine wa_aload_n hC dX3_withoutDrift_36 rfl 1 rfl ?_
      refine rg3_0 hC fiX3_withoutDrift_3 hi mbX3_withoutDrift_9 dX3_withoutDrift_37 ?_
      refine wa_aload_n hC dX3_withoutDrift_40 rfl 1 rfl ?_
      refine wa_iload_n hC dX3_withoutDrift_41 rfl 0 rfl ?_
      obtain ⟨v6, h6, hf⟩ := bd hf
      refine wa_calli (rest := [_, _]) (wr_V hC (kX3_begin l G hi h6) (cwV 1 hC.1.2.2.2.2 gX3_withoutDrift_X3_begin rfl rfl rfl (by decide +kernel) ⟨Nat.le_of_ble_eq_true rfl, Nat.le_of_ble_eq_true rfl⟩) hi (by decide) (ce3 hi) rfl rfl rfl rfl (Nat.le_of_ble_eq_true rfl) dX3_withoutDrift_42) ?_
      obtain ⟨v7, h7, hf⟩ := bd hf
      refine wa_calli (rest := [_]) (wr_SN hC (kX6_at l G (kf3_0 hi) h7) ⟨va_cnB 2 hC.1.2.2.2.2 gX3_withoutDrift_X6_at_n81 rfl rfl rfl (nwm_Survey_81 hC.2.2.2) (hC.1.2.2.2.2 _ mbX3_withoutDrift_i81) (by decide +kernel) ⟨Nat.le_of_ble_eq_true rfl, Nat.le_of_ble_eq_true rfl⟩, hC.1.2.2.2.2 _ mbX3_withoutDrift_s81, trivial⟩ rfl rfl (Nat.le_of_ble_eq_true rfl) dX3_withoutDrift_45) ?_
      refine wa_isub hC dX3_withoutDrift_48 ?_
      refine wa_i2l hC dX3_withoutDrift_49 rfl ?_
      refine wa_lstore_n (lv' := [(3, .long _), (2, .int _), (0, .ref _), (1, .int _)]) hC dX3_withoutDrift_50 rfl (by decide) rfl ?_
      refine wa_aload_n hC dX3_withoutDrift_51 rfl 2 rfl ?_
      refine wa_iload_n hC dX3_withoutDrift_52 rfl 3 rfl ?_
      obtain ⟨v8, h8, hf⟩ := bd hf
      refine wa_calli (rest := []) (wr_V hC (kX3_rawHeight l G hi h8) (cwV 1 hC.1.2.2.2.2 gX3_withoutDrift_X3_rawHeight rfl rfl rfl (by decide +kernel) ⟨Nat.le_of_ble_eq_true rfl, Nat.le_of_ble_eq_true rfl⟩) hi (by decide) (ce3 hi) rfl rfl rfl rfl (Nat.le_of_ble_eq_true rfl) dX3_withoutDrift_53) ?_
      refine wa_i2l hC dX3_withoutDrift_56 rfl ?_
      refine wa_aload_n hC dX3_withoutDrift_57 rfl 2 rfl ?_
      refine wa_iload_n hC dX3_withoutDrift_58 rfl 1 rfl ?_
      obtain ⟨v9, h9, hf⟩ := bd hf
      refine wa_calli (rest := [_]) (wr_V hC (kX3_misclosure l G hi h9) (cwV 1 hC.1.2.2.2.2 gX3_withoutDrift_X3_misclosure rfl rfl rfl (by decide +kernel) ⟨Nat.le_of_ble_eq_true rfl, Nat.le_of_ble_eq_true rfl⟩) hi (by decide) (ce3 hi) rfl rfl rfl rfl (Nat.le_of_ble_eq_true rfl) dX3_withoutDrift_59) ?_
      refine wa_i2l hC dX3_withoutDrift_62 rfl ?_
      refine wa_lload_n hC dX3_withoutDrift_63 rfl 0 rfl ?_
      refine wa_lmul hC dX3_withoutDrift_64 ?_
      refine wa_aload_n hC dX3_withoutDrift_65 rfl 2 rfl ?_
      refine wa_iload_n hC dX3_withoutDrift_66 rfl 1 rfl ?_
      obtain ⟨v10, h10, hf⟩ := bd hf
      refine wa_calli (rest := [_, _]) (wr_V hC (kX3_minutes l G hi h10) (cwV 1 hC.1.2.2.2.2 gX3_withoutDrift_X3_minutes rfl rfl rfl (by decide +kernel) ⟨Nat.le_of_ble_eq_true rfl, Nat.le_of_ble_eq_true rfl⟩) hi (by decide) (ce3 hi) rfl rfl rfl rfl (Nat.le_of_ble_eq_true rfl) dX3_withoutDrift_67) ?_
      refine wa_i2l hC dX3_withoutDrift_70 rfl ?_
      obtain ⟨v11, h11, hf⟩ := bd hf
      refine wa_calll (rest := [_]) (wr_SN hC (kX6_divideDown l G h11) ⟨va_cnB 2 hC.1.2.2.2.2 gX3_withoutDrift_X6_divideDown_n135 rfl rfl rfl (nwm_Survey_135 hC.2.2.2) (hC.1.2.2.2.2 _ mbX3_withoutDrift_i135) (by decide +kernel) ⟨Nat.le_of_ble_eq_true rfl, Nat.le_of_ble_eq_true rfl⟩, hC.1.2.2.2.2 _ mbX3_withoutDrift_s135, trivial⟩ rfl rfl (Nat.le_of_ble_eq_true rfl) dX3_withoutDrift_71) ?_
      refine wa_lsub hC dX3_withoutDrift_74 ?_
      refine wa_l2i hC dX3_withoutDrift_75 rfl ?_
      exact wa_iret hC hlk hr (so_inj hf) rfl dX3_withoutDrift_76
    · have hf := ite_t hf c4
      refine wa_aload_n hC dX3_withoutDrift_22 rfl 1 rfl ?_
      refine wa_iload_n hC dX3_withoutDrift_23 rfl 2 rfl ?_
      obtain ⟨v12, h12, hf⟩ := bd hf
      refine wa_calli (rest := []) (wr_V hC (kX3_rawHeight l G hi h12) (cwV 1 hC.1.2.2.2.2 gX3_withoutDrift_X3_rawHeight rfl rfl rfl (by decide +kernel) ⟨Nat.le_of_ble_eq_true rfl, Nat.le_of_ble_eq_true rfl⟩) hi (by decide) (ce3 hi) rfl rfl rfl rfl (Nat.le_of_ble_eq_true rfl) dX3_withoutDrift_24) ?_
      exact wa_iret hC hlk hr (so_inj hf) rfl dX3_withoutDrift_27
  · have hf := ite_t hf c2
    refine wa_ldc hC mbX3_withoutDrift_85 dX3_withoutDrift_8 ?_
    exact wa_iret hC hlk hr (so_inj hf) rfl dX3_withoutDrift_10
abbrev rmX3_workOut : Room := { frames := 4, cells := 0, slots := 0, locals := 108 }
theorem fiX3_workOut_2 : ∀ w ∈ u_ws RX2 TX2 7, w ∈ wsX3_workOut := by decide +kernel
theorem fiX3_workOut_3 : ∀ w ∈ u_ws RX3 TX3 12, w ∈ wsX3_workOut := by decide +kernel
theorem fiX3_workOut_5 : ∀ w ∈ u_ws RX5 TX5 3, w ∈ wsX3_workOut := by decide +kernel
theorem mbX3_workOut_48 : Cond.fieldLink RX3 48 "BaroRuns$Survey" "size" "I" ∈ wsX3_workOut := by decide +kernel
theorem mbX3_workOut_24 : Cond.fieldLink RX3 24 "BaroRuns$Survey" "openLoops" "[I" ∈ wsX3_workOut := by decide +kernel
theorem mbX3_workOut_s53 : Cond.static yX6_put ∈ wsX3_workOut := by decide +kernel
theorem mbX3_workOut_i53 : Cond.initialized RX6 ∈ wsX3_workOut := by decide +kernel
theorem mbX3_workOut_27 : Cond.fieldLink RX3 27 "BaroRuns$Survey" "correctedHeights" "[I" ∈ wsX3_workOut := by decide +kernel
theorem mbX3_workOut_9 : Cond.fieldLink RX3 9 "BaroRuns$Survey" "times" "[I" ∈ wsX3_workOut := by decide +kernel
theorem mbX3_workOut_15 : Cond.fieldLink RX3 15 "BaroRuns$Survey" "points" "[I" ∈ wsX3_workOut := by decide +kernel
theorem mbX3_workOut_18 : Cond.fieldLink RX3 18 "BaroRuns$Survey" "heights" "[I" ∈ wsX3_workOut := by decide +kernel
theorem mbX3_workOut_21 : Cond.fieldLink RX3 21 "BaroRuns$Survey" "gusts" "[I" ∈ wsX3_workOut := by decide +kernel
set_option maxHeartbeats 4000000 in
set_option maxRecDepth 100000 in
theorem kX3_workOut (l : Launch) (G : wG) {i : Nat} (hi : kd i = 3) {j1 : Nat} (hj1 : kd j1 = 2) {x2 : Int32} {M0 M1 : wM} (hf : fX3_workOut i j1 x2 M0 = some M1) : mV l yX3_workOut wsX3_workOut rmX3_workOut G [.ref (ga G (i)), .ref (ga G (j1)), .int (x2)] M0 M1 := by
  refine mV.of (cc := cX3_workOut) (nL := 8) (ret := none) (own := RX3) (lv := [(0, .ref (ga G (i))), (1, .ref (ga G (j1))), (2, .int (x2))]) (plainFor_of_name (by decide +kernel)) rfl rfl (Nat.le_of_ble_eq_true rfl) rfl ?_
  intro p e s m args below meth c hC hr hlk
  have hB143 : ∀ (bk143 : Int32 → wM → Option wM) (hbk143 : (∀ (x4 : Int32) (M0 : wM), bk143 x4 M0 = some M1 → wAt p l e rmX3_workOut s m args below meth c (qV below args s G M1) 8 G M0 143 [(0, .ref (ga G (i))), (4, .int (x4))] [])) (x4 : Int32) (M0 : wM), fX3_workOut_B143 i j1 x2 bk143 x4 M0 = some M1 → wAt p l e rmX3_workOut s m args below meth c (qV below args s G M1) 8 G M0 143 [(0, .ref (ga G (i))), (4, .int (x4))] [] := by
    intro bk143 hbk143 x4 M0 hf
    unfold fX3_workOut_B143 at hf
    refine wa_iload hC dX3_workOut_143 1 rfl ?_
    refine wa_aload_n hC dX3_workOut_145 rfl 0 rfl ?_
    refine rg3_8 hC fiX3_workOut_3 hi mbX3_workOut_48 dX3_workOut_146 ?_
    refine wa_icmp_ge hC 188 dX3_workOut_149 (by decide) (fun c1 => ?_) (fun c1 => ?_)
    · have hf := ite_t hf c1
      exact wa_vret hC hlk hr (so_inj hf) dX3_workOut_188
    · have hf := ite_f hf c1
      refine wa_aload_n hC dX3_workOut_152 rfl 0 rfl ?_
      refine rg3_4 hC fiX3_workOut_3 hi mbX3_workOut_24 dX3_workOut_153 ?_
      refine wa_iload hC dX3_workOut_156 1 rfl ?_
      refine wa_aload_n hC dX3_workOut_158 rfl 0 rfl ?_
      refine wa_iload hC dX3_workOut_159 1 rfl ?_
      obtain ⟨v2, h2, hf⟩ := bd hf
      refine wa_calli (rest := [_, _]) (wr_V hC (kX3_shortestLoop l G hi h2) (cwV 1 hC.1.2.2.2.2 gX3_workOut_X3_shortestLoop rfl rfl rfl (by decide +kernel) ⟨Nat.le_of_ble_eq_true rfl, Nat.le_of_ble_eq_true rfl⟩) hi (by decide) (ce3 hi) rfl rfl rfl rfl (Nat.le_of_ble_eq_true rfl) dX3_workOut_161) ?_
      obtain ⟨M3, h3, hf⟩ := bd hf
      refine wa_callv (rest := []) (wr_SN hC (kX6_put l G (kf3_4 hi) h3) ⟨va_cnB 3 hC.1.2.2.2.2 gX3_workOut_X6_put_n53 rfl rfl rfl (nwm_Survey_53 hC.2.2.2) (hC.1.2.2.2.2 _ mbX3_workOut_i53) (by decide +kernel) ⟨Nat.le_of_ble_eq_true rfl, Nat.le_of_ble_eq_true rfl⟩, hC.1.2.2.2.2 _ mbX3_workOut_s53, trivial⟩ rfl rfl (Nat.le_of_ble_eq_true rfl) dX3_workOut_164) ?_
      refine wa_aload_n hC dX3_workOut_167 rfl 0 rfl ?_
      refine rg3_5 hC fiX3_workOut_3 hi mbX3_workOut_27 dX3_workOut_168 ?_
      refine wa_iload hC dX3_workOut_171 1 rfl ?_
      refine wa_aload_n hC dX3_workOut_173 rfl 0 rfl ?_
      refine wa_iload hC dX3_workOut_174 1 rfl ?_
      obtain ⟨v4, h4, hf⟩ := bd hf
      refine wa_calli (rest := [_, _]) (wr_V hC (kX3_withoutDrift l G hi h4) (cwV 1 hC.1.2.2.2.2 gX3_workOut_X3_withoutDrift rfl rfl rfl (by decide +kernel) ⟨Nat.le_of_ble_eq_true rfl, Nat.le_of_ble_eq_true rfl⟩) hi (by decide) (ce3 hi) rfl rfl rfl rfl (Nat.le_of_ble_eq_true rfl) dX3_workOut_176) ?_
      obtain ⟨M5, h5, hf⟩ := bd hf
      refine wa_callv (rest := []) (wr_SN hC (kX6_put l G (kf3_5 hi) h5) ⟨va_cnB 3 hC.1.2.2.2.2 gX3_workOut_X6_put_n53 rfl rfl rfl (nwm_Survey_53 hC.2.2.2) (hC.1.2.2.2.2 _ mbX3_workOut_i53) (by decide +kernel) ⟨Nat.le_of_ble_eq_true rfl, Nat.le_of_ble_eq_true rfl⟩, hC.1.2.2.2.2 _ mbX3_workOut_s53, trivial⟩ rfl rfl (Nat.le_of_ble_eq_true rfl) dX3_workOut_179) ?_
      refine wa_iinc (v := _ + 1) (lv' := [(4, .int _), (0, .ref _)]) hC dX3_workOut_182 (t := 1) rfl rfl (by decide) rfl ?_
      refine wa_goto hC 143 dX3_workOut_185 (by decide) ?_
      exact wa_sub [1, 0] rfl (hbk143 _ _ hf)
  have hL143 : ∀ (n : Nat) (x4 : Int32) (M0 : wM), fX3_workOut_L143 i j1 x2  n x4 M0 = some M1 → wAt p l e rmX3_workOut s m args below meth c (qV below args s G M1) 8 G M0 143 [(0, .ref (ga G (i))), (4, .int (x4))] [] := by
    intro  n
    induction n with
    | zero =>
      intro x4 M0 hf
      exact absurd hf (by simp [fX3_workOut_L143])
    | succ n ih =>
      intro x4 M0 hf
      exact hB143  (fX3_workOut_L143 i j1 x2  n) ih x4 M0 hf
  have hJ123 : ∀ (bk17 : Nat → Int32 → wM → Option wM) (hbk17 : (∀ (j3 : Nat) (hj3 : kd j3 = 5) (x4 : Int32) (M0 : wM), bk17 j3 x4 M0 = some M1 → wAt p l e rmX3_workOut s m args below meth c (qV below args s G M1) 8 G M0 17 [(0, .ref (ga G (i))), (1, .ref (ga G (j1))), (3, .ref (ga G (j3))), (4, .int (x4))] [])) (j3 : Nat) (hj3 : kd j3 = 5) (x4 : Int32) (q0 : Nat) (hq0 : kd q0 = 20) (s1 : Int32) (s2 : Int32) (M0 : wM), fX3_workOut_J123 i j1 x2 bk17 j3 x4 q0 s1 s2 M0 = some M1 → wAt p l e rmX3_workOut s m args below meth c (qV below args s G M1) 8 G M0 123 [(0, .ref (ga G (i))), (1, .ref (ga G (j1))), (3, .ref (ga G (j3))), (4, .int (x4))] [.int (s2), .int (s1), .ref (ga G (q0))] := by
    intro bk17 hbk17 j3 hj3 x4 q0 hq0 s1 s2 M0 hf
    unfold fX3_workOut_J123 at hf
    obtain ⟨M6, h6, hf⟩ := bd hf
    refine wa_callv (rest := []) (wr_SN hC (kX6_put l G hq0 h6) ⟨va_cnB 3 hC.1.2.2.2.2 gX3_workOut_X6_put_n53 rfl rfl rfl (nwm_Survey_53 hC.2.2.2) (hC.1.2.2.2.2 _ mbX3_workOut_i53) (by decide +kernel) ⟨Nat.le_of_ble_eq_true rfl, Nat.le_of_ble_eq_true rfl⟩, hC.1.2.2.2.2 _ mbX3_workOut_s53, trivial⟩ rfl rfl (Nat.le_of_ble_eq_true rfl) dX3_workOut_123) ?_
    refine wa_iinc (v := _ + 1) (lv' := [(4, .int _), (0, .ref _), (1, .ref _), (3, .ref _)]) hC dX3_workOut_126 (t := 3) rfl rfl (by decide) rfl ?_
    refine wa_goto hC 17 dX3_workOut_129 (by decide) ?_
    exact wa_sub [1, 2, 3, 0] rfl (hbk17 _ hj3 _ _ hf)
  have hB17 : ∀ (bk17 : Nat → Int32 → wM → Option wM) (hbk17 : (∀ (j3 : Nat) (hj3 : kd j3 = 5) (x4 : Int32) (M0 : wM), bk17 j3 x4 M0 = some M1 → wAt p l e rmX3_workOut s m args below meth c (qV below args s G M1) 8 G M0 17 [(0, .ref (ga G (i))), (1, .ref (ga G (j1))), (3, .ref (ga G (j3))), (4, .int (x4))] [])) (j3 : Nat) (hj3 : kd j3 = 5) (x4 : Int32) (M0 : wM), fX3_workOut_B17 i j1 x2 bk17 j3 x4 M0 = some M1 → wAt p l e rmX3_workOut s m args below meth c (qV below args s G M1) 8 G M0 17 [(0, .ref (ga G (i))), (1, .ref (ga G (j1))), (3, .ref (ga G (j3))), (4, .int (x4))] [] := by
    intro bk17 hbk17 j3 hj3 x4 M0 hf
    unfold fX3_workOut_B17 at hf
    refine wa_iload hC dX3_workOut_17 3 rfl ?_
    refine wa_aload_n hC dX3_workOut_19 rfl 0 rfl ?_
    refine rg3_8 hC fiX3_workOut_3 hi mbX3_workOut_48 dX3_workOut_20 ?_
    refine wa_icmp_ge hC 132 dX3_workOut_23 (by decide) (fun c7 => ?_) (fun c7 => ?_)
    · have hf := ite_t hf c7
      refine wa_aload_n hC dX3_workOut_132 rfl 0 rfl ?_
      obtain ⟨M8, h8, hf⟩ := bd hf
      refine wa_callv (rest := []) (wr_V hC (kX3_countKinds l G hi h8) (cwV 0 hC.1.2.2.2.2 gX3_workOut_X3_countKinds rfl rfl rfl (by decide +kernel) ⟨Nat.le_of_ble_eq_true rfl, Nat.le_of_ble_eq_true rfl⟩) hi (by decide) (ce3 hi) rfl rfl rfl rfl (Nat.le_of_ble_eq_true rfl) dX3_workOut_133) ?_
      refine wa_aload_n hC dX3_workOut_136 rfl 0 rfl ?_
      obtain ⟨M9, h9, hf⟩ := bd hf
      refine wa_callv (rest := []) (wr_V hC (kX3_findLoops l G hi h9) (cwV 0 hC.1.2.2.2.2 gX3_workOut_X3_findLoops rfl rfl rfl (by decide +kernel) ⟨Nat.le_of_ble_eq_true rfl, Nat.le_of_ble_eq_true rfl⟩) hi (by decide) (ce3 hi) rfl rfl rfl rfl (Nat.le_of_ble_eq_true rfl) dX3_workOut_137) ?_
      refine wa_iconst (v := 0) hC dX3_workOut_140 (by decide) ?_
      refine wa_istore (lv' := [(4, .int _), (0, .ref _), (1, .ref _), (3, .ref _)]) hC dX3_workOut_141 (by decide) rfl ?_
      exact wa_sub [1, 0] rfl (hL143 FU _ _ hf)
    · have hf := ite_f hf c7
      refine wa_aload_n hC dX3_workOut_26 rfl 2 rfl ?_
      refine wa_iload hC dX3_workOut_27 3 rfl ?_
      refine wa_iconst (v := 0) hC dX3_workOut_29 (by decide) ?_
      obtain ⟨v10, h10, hf⟩ := bd hf
      refine wa_calli (rest := []) (wr_V hC (kX5_value l G hj3 h10) (cwV 2 hC.1.2.2.2.2 gX3_workOut_X5_value rfl rfl rfl (by decide +kernel) ⟨Nat.le_of_ble_eq_true rfl, Nat.le_of_ble_eq_true rfl⟩) hj3 (by decide) (ce5 hj3) rfl rfl rfl rfl (Nat.le_of_ble_eq_true rfl) dX3_workOut_30) ?_
      refine wa_istore (lv' := [(5, .int _), (0, .ref _), (1, .ref _), (3, .ref _), (4, .int _)]) hC dX3_workOut_33 (by decide) rfl ?_
      refine wa_aload_n hC dX3_workOut_35 rfl 3 rfl ?_
      refine wa_iload hC dX3_workOut_36 4 rfl ?_
      refine wa_iconst (v := 1) hC dX3_workOut_38 (by decide) ?_
      obtain ⟨v11, h11, hf⟩ := bd hf
      refine wa_calli (rest := []) (wr_V hC (kX5_value l G hj3 h11) (cwV 2 hC.1.2.2.2.2 gX3_workOut_X5_value rfl rfl rfl (by decide +kernel) ⟨Nat.le_of_ble_eq_true rfl, Nat.le_of_ble_eq_true rfl⟩) hj3 (by decide) (ce5 hj3) rfl rfl rfl rfl (Nat.le_of_ble_eq_true rfl) dX3_workOut_39) ?_
      refine wa_istore (lv' := [(6, .int _), (5, .int _), (0, .ref _), (1, .ref _), (3, .ref _), (4, .int _)]) hC dX3_workOut_42 (by decide) rfl ?_
      refine wa_aload_n hC dX3_workOut_44 rfl 4 rfl ?_
      refine wa_iload hC dX3_workOut_45 5 rfl ?_
      refine wa_iconst (v := 2) hC dX3_workOut_47 (by decide) ?_
      obtain ⟨v12, h12, hf⟩ := bd hf
      refine wa_calli (rest := []) (wr_V hC (kX5_value l G hj3 h12) (cwV 2 hC.1.2.2.2.2 gX3_workOut_X5_value rfl rfl rfl (by decide +kernel) ⟨Nat.le_of_ble_eq_true rfl, Nat.le_of_ble_eq_true rfl⟩) hj3 (by decide) (ce5 hj3) rfl rfl rfl rfl (Nat.le_of_ble_eq_true rfl) dX3_workOut_48) ?_
      refine wa_istore (lv' := [(7, .int _), (6, .int _), (5, .int _), (0, .ref _), (1, .ref _), (3, .ref _), (4, .int _)]) hC dX3_workOut_51 (by decide) rfl ?_
      refine wa_aload_n hC dX3_workOut_53 rfl 3 rfl ?_
      refine rg3_0 hC fiX3_workOut_3 hi mbX3_workOut_9 dX3_workOut_54 ?_
      refine wa_iload hC dX3_workOut_57 6 rfl ?_
      refine wa_iload hC dX3_workOut_59 2 rfl ?_
      obtain ⟨M13, h13, hf⟩ := bd hf
      refine wa_callv (rest := []) (wr_SN hC (kX6_put l G (kf3_0 hi) h13) ⟨va_cnB 3 hC.1.2.2.2.2 gX3_workOut_X6_put_n53 rfl rfl rfl (nwm_Survey_53 hC.2.2.2) (hC.1.2.2.2.2 _ mbX3_workOut_i53) (by decide +kernel) ⟨Nat.le_of_ble_eq_true rfl, Nat.le_of_ble_eq_true rfl⟩, hC.1.2.2.2.2 _ mbX3_workOut_s53, trivial⟩ rfl rfl (Nat.le_of_ble_eq_true rfl) dX3_workOut_61) ?_
      refine wa_aload_n hC dX3_workOut_64 rfl 3 rfl ?_
      refine rg3_1 hC fiX3_workOut_3 hi mbX3_workOut_15 dX3_workOut_65 ?_
      refine wa_iload hC dX3_workOut_68 6 rfl ?_
      refine wa_aload_n hC dX3_workOut_70 rfl 5 rfl ?_
      refine wa_iload hC dX3_workOut_71 6 rfl ?_
      refine wa_iconst (v := 3) hC dX3_workOut_73 (by decide) ?_
      obtain ⟨v14, h14, hf⟩ := bd hf
      refine wa_calli (rest := [_, _]) (wr_V hC (kX5_value l G hj3 h14) (cwV 2 hC.1.2.2.2.2 gX3_workOut_X5_value rfl rfl rfl (by decide +kernel) ⟨Nat.le_of_ble_eq_true rfl, Nat.le_of_ble_eq_true rfl⟩) hj3 (by decide) (ce5 hj3) rfl rfl rfl rfl (Nat.le_of_ble_eq_true rfl) dX3_workOut_74) ?_
      obtain ⟨M15, h15, hf⟩ := bd hf
      refine wa_callv (rest := []) (wr_SN hC (kX6_put l G (kf3_1 hi) h15) ⟨va_cnB 3 hC.1.2.2.2.2 gX3_workOut_X6_put_n53 rfl rfl rfl (nwm_Survey_53 hC.2.2.2) (hC.1.2.2.2.2 _ mbX3_workOut_i53) (by decide +kernel) ⟨Nat.le_of_ble_eq_true rfl, Nat.le_of_ble_eq_true rfl⟩, hC.1.2.2.2.2 _ mbX3_workOut_s53, trivial⟩ rfl rfl (Nat.le_of_ble_eq_true rfl) dX3_workOut_77) ?_
      refine wa_aload_n hC dX3_workOut_80 rfl 3 rfl ?_
      refine rg3_2 hC fiX3_workOut_3 hi mbX3_workOut_18 dX3_workOut_81 ?_
      refine wa_iload hC dX3_workOut_84 6 rfl ?_
      refine wa_aload_n hC dX3_workOut_86 rfl 4 rfl ?_
      refine wa_iload hC dX3_workOut_87 2 rfl ?_
      refine wa_iload hC dX3_workOut_89 1 rfl ?_
      refine wa_iload hC dX3_workOut_91 0 rfl ?_
      obtain ⟨v16, h16, hf⟩ := bd hf
      refine wa_calli (rest := [_, _]) (wr_V hC (kX2_heightAt l G hj1 h16) (cwV 3 hC.1.2.2.2.2 gX3_workOut_X2_heightAt rfl rfl rfl (by decide +kernel) ⟨Nat.le_of_ble_eq_true rfl, Nat.le_of_ble_eq_true rfl⟩) hj1 (by decide) (ce2 hj1) rfl rfl rfl rfl (Nat.le_of_ble_eq_true rfl) dX3_workOut_93) ?_
      obtain ⟨M17, h17, hf⟩ := bd hf
      refine wa_callv (rest := []) (wr_SN hC (kX6_put l G (kf3_2 hi) h17) ⟨va_cnB 3 hC.1.2.2.2.2 gX3_workOut_X6_put_n53 rfl rfl rfl (nwm_Survey_53 hC.2.2.2) (hC.1.2.2.2.2 _ mbX3_workOut_i53) (by decide +kernel) ⟨Nat.le_of_ble_eq_true rfl, Nat.le_of_ble_eq_true rfl⟩, hC.1.2.2.2.2 _ mbX3_workOut_s53, trivial⟩ rfl rfl (Nat.le_of_ble_eq_true rfl) dX3_workOut_96) ?_
      refine wa_aload_n hC dX3_workOut_99 rfl 3 rfl ?_
      refine rg3_3 hC fiX3_workOut_3 hi mbX3_workOut_21 dX3_workOut_100 ?_
      refine wa_iload hC dX3_workOut_103 6 rfl ?_
      refine wa_aload_n hC dX3_workOut_105 rfl 5 rfl ?_
      refine wa_iload hC dX3_workOut_106 6 rfl ?_
      refine wa_aload_n hC dX3_workOut_108 rfl 4 rfl ?_
      refine rgn2_5 hC fiX3_workOut_2 hj1 (nwf_Survey_61 hC.2.2.2) dX3_workOut_109 ?_
      obtain ⟨v18, h18, hf⟩ := bd hf
      refine wa_calli (rest := [_, _]) (wr_V hC (kX5_standsOut l G hj3 h18) (cwV 2 hC.1.2.2.2.2 gX3_workOut_X5_standsOut rfl rfl rfl (by decide +kernel) ⟨Nat.le_of_ble_eq_true rfl, Nat.le_of_ble_eq_true rfl⟩) hj3 (by decide) (ce5 hj3) rfl rfl rfl rfl (Nat.le_of_ble_eq_true rfl) dX3_workOut_112) ?_
      refine wa_if_eq hC 122 dX3_workOut_115 (by decide) (fun c19 => ?_) (fun c19 => ?_)
      · have hf := ite_t hf c19
        refine wa_iconst (v := 0) hC dX3_workOut_122 (by decide) ?_
        exact wa_sub [3, 4, 5, 6] rfl (hJ123 bk17 hbk17 _ hj3 _ _ (kf3_3 hi) _ _ _ hf)
      · have hf := ite_f hf c19
        refine wa_iconst (v := 1) hC dX3_workOut_118 (by decide) ?_
        refine wa_goto hC 123 dX3_workOut_119 (by decide) ?_
        exact wa_sub [3, 4, 5, 6] rfl (hJ123 bk17 hbk17 _ hj3 _ _ (kf3_3 hi) _ _ _ hf)
  have hL17 : ∀ (n : Nat) (j3 : Nat) (hj3 : kd j3 = 5) (x4 : Int32) (M0 : wM), fX3_workOut_L17 i j1 x2  n j3 x4 M0 = some M1 → wAt p l e rmX3_workOut s m args below meth c (qV below args s G M1) 8 G M0 17 [(0, .ref (ga G (i))), (1, .ref (ga G (j1))), (3, .ref (ga G (j3))), (4, .int (x4))] [] := by
    intro  n
    induction n with
    | zero =>
      intro j3 hj3 x4 M0 hf
      exact absurd hf (by simp [fX3_workOut_L17])
    | succ n ih =>
      intro j3 hj3 x4 M0 hf
      exact hB17  (fX3_workOut_L17 i j1 x2  n) ih j3 hj3 x4 M0 hf
  unfold fX3_workOut at hf
  refine wa_aload_n hC dX3_workOut_0 rfl 1 rfl ?_
  refine wa_iload_n hC dX3_workOut_1 rfl 2 rfl ?_
  obtain ⟨v20, h20, hf⟩ := bd hf
  refine wa_callr (rest := []) (wr_V hC (kX2_track l G hj1 h20) (cwV 1 hC.1.2.2.2.2 gX3_workOut_X2_track rfl rfl rfl (by decide +kernel) ⟨Nat.le_of_ble_eq_true rfl, Nat.le_of_ble_eq_true rfl⟩) hj1 (by decide) (ce2 hj1) rfl rfl rfl rfl (Nat.le_of_ble_eq_true rfl) dX3_workOut_2) ?_
  obtain ⟨_, g21, hf⟩ := bd hf
  have g21 := gk_some g21
  refine wa_astore_n (lv' := [(3, .ref _), (0, .ref _), (1, .ref _), (2, .int _)]) hC dX3_workOut_5 rfl (by decide) rfl ?_
  refine wa_aload_n hC dX3_workOut_6 rfl 1 rfl ?_
  refine wa_aload_n hC dX3_workOut_7 rfl 0 rfl ?_
  refine rgn5_2 hC fiX3_workOut_5 g21 (nwf_Survey_42 hC.2.2.2) dX3_workOut_8 ?_
  refine rp3_8 hC fiX3_workOut_3 hi mbX3_workOut_48 dX3_workOut_11 ?_
  refine wa_iconst (v := 0) hC dX3_workOut_14 (by decide) ?_
  refine wa_istore (lv' := [(4, .int _), (3, .ref _), (0, .ref _), (1, .ref _), (2, .int _)]) hC dX3_workOut_15 (by decide) rfl ?_
  exact wa_sub [2, 3, 1, 0] rfl (hL17 FU _ g21 _ _ hf)
abbrev rmX3_correctedHeight : Room := { frames := 1, cells := 0, slots := 0, locals := 21 }
theorem fiX3_correctedHeight_3 : ∀ w ∈ u_ws RX3 TX3 12, w ∈ wsX3_correctedHeight := by decide +kernel
theorem mbX3_correctedHeight_27 : Cond.fieldLink RX3 27 "BaroRuns$Survey" "correctedHeights" "[I" ∈ wsX3_correctedHeight := by decide +kernel
theorem mbX3_correctedHeight_s81 : Cond.static yX6_at ∈ wsX3_correctedHeight := by decide +kernel
theorem mbX3_correctedHeight_i81 : Cond.initialized RX6 ∈ wsX3_correctedHeight := by decide +kernel
set_option maxHeartbeats 4000000 in
set_option maxRecDepth 100000 in
theorem kX3_correctedHeight (l : Launch) (G : wG) {i : Nat} (hi : kd i = 3) {x1 : Int32} {M0 : wM} {r : Int32} (hf : fX3_correctedHeight i x1 M0 = some r) : mI l yX3_correctedHeight wsX3_correctedHeight rmX3_correctedHeight G [.ref (ga G (i)), .int (x1)] M0 r M0 := by
  refine mI.of (cc := cX3_correctedHeight) (nL := 2) (ret := (some .int)) (own := RX3) (lv := [(0, .ref (ga G (i))), (1, .int (x1))]) (plainFor_of_name (by decide +kernel)) rfl rfl (Nat.le_of_ble_eq_true rfl) rfl ?_
  intro p e s m args below meth c hC hr hlk
  unfold fX3_correctedHeight at hf
  refine wa_aload_n hC dX3_correctedHeight_0 rfl 0 rfl ?_
  refine rg3_5 hC fiX3_correctedHeight_3 hi mbX3_correctedHeight_27 dX3_correctedHeight_1 ?_
  refine wa_iload_n hC dX3_correctedHeight_4 rfl 1 rfl ?_
  obtain ⟨v1, h1, hf⟩ := bd hf
  refine wa_calli (rest := []) (wr_SN hC (kX6_at l G (kf3_5 hi) h1) ⟨va_cnB 2 hC.1.2.2.2.2 gX3_correctedHeight_X6_at_n81 rfl rfl rfl (nwm_Survey_81 hC.2.2.2) (hC.1.2.2.2.2 _ mbX3_correctedHeight_i81) (by decide +kernel) ⟨Nat.le_of_ble_eq_true rfl, Nat.le_of_ble_eq_true rfl⟩, hC.1.2.2.2.2 _ mbX3_correctedHeight_s81, trivial⟩ rfl rfl (Nat.le_of_ble_eq_true rfl) dX3_correctedHeight_5) ?_
  exact wa_iret hC hlk hr (so_inj hf) rfl dX3_correctedHeight_8
abbrev rmX3_misclosureBySteps : Room := { frames := 2, cells := 0, slots := 0, locals := 42 }
theorem fiX3_misclosureBySteps_3 : ∀ w ∈ u_ws RX3 TX3 12, w ∈ wsX3_misclosureBySteps := by decide +kernel
theorem mbX3_misclosureBySteps_48 : Cond.fieldLink RX3 48 "BaroRuns$Survey" "size" "I" ∈ wsX3_misclosureBySteps := by decide +kernel
set_option maxHeartbeats 4000000 in
set_option maxRecDepth 100000 in
theorem kX3_misclosureBySteps (l : Launch) (G : wG) {i : Nat} (hi : kd i = 3) {x1 : Int32} {M0 : wM} {r : Int32} (hf : fX3_misclosureBySteps i x1 M0 = some r) : mI l yX3_misclosureBySteps wsX3_misclosureBySteps rmX3_misclosureBySteps G [.ref (ga G (i)), .int (x1)] M0 r M0 := by
  refine mI.of (cc := cX3_misclosureBySteps) (nL := 5) (ret := (some .int)) (own := RX3) (lv := [(0, .ref (ga G (i))), (1, .int (x1))]) (plainFor_of_name (by decide +kernel)) rfl rfl (Nat.le_of_ble_eq_true rfl) rfl ?_
  intro p e s m args below meth c hC hr hlk
  have hB21 : ∀ (bk21 : Int32 → Int32 → Int32 → Option Int32) (hbk21 : (∀ (x2 : Int32) (x3 : Int32) (x4 : Int32), bk21 x2 x3 x4 = some r → wAt p l e rmX3_misclosureBySteps s m args below meth c (qI below args s G r M0) 5 G M0 21 [(0, .ref (ga G (i))), (1, .int (x1)), (2, .int (x2)), (3, .int (x3)), (4, .int (x4))] [])) (x2 : Int32) (x3 : Int32) (x4 : Int32), fX3_misclosureBySteps_B21 i x1 M0 bk21 x2 x3 x4 = some r → wAt p l e rmX3_misclosureBySteps s m args below meth c (qI below args s G r M0) 5 G M0 21 [(0, .ref (ga G (i))), (1, .int (x1)), (2, .int (x2)), (3, .int (x3)), (4, .int (x4))] [] := by
    intro bk21 hbk21 x2 x3 x4 hf
    unfold fX3_misclosureBySteps_B21 at hf
    refine wa_iload hC dX3_misclosureBySteps_21 4 rfl ?_
    refine wa_aload_n hC dX3_misclosureBySteps_23 rfl 0 rfl ?_
    refine wa_iload_n hC dX3_misclosureBySteps_24 rfl 1 rfl ?_
    obtain ⟨v1, h1, hf⟩ := bd hf
    refine wa_calli (rest := [_]) (wr_V hC (kX3_end l G hi h1) (cwV 1 hC.1.2.2.2.2 gX3_misclosureBySteps_X3_end rfl rfl rfl (by decide +kernel) ⟨Nat.le_of_ble_eq_true rfl, Nat.le_of_ble_eq_true rfl⟩) hi (by decide) (ce3 hi) rfl rfl rfl rfl (Nat.le_of_ble_eq_true rfl) dX3_misclosureBySteps_25) ?_
    refine wa_icmp_gt hC 73 dX3_misclosureBySteps_28 (by decide) (fun c2 => ?_) (fun c2 => ?_)
    · have hf := ite_t hf c2
      refine wa_iload_n hC dX3_misclosureBySteps_73 rfl 2 rfl ?_
      exact wa_iret hC hlk hr (so_inj hf) rfl dX3_misclosureBySteps_74
    · have hf := ite_f hf c2
      refine wa_iload hC dX3_misclosureBySteps_31 4 rfl ?_
      refine wa_aload_n hC dX3_misclosureBySteps_33 rfl 0 rfl ?_
      refine rg3_8 hC fiX3_misclosureBySteps_3 hi mbX3_misclosureBySteps_48 dX3_misclosureBySteps_34 ?_
      refine wa_icmp_ge hC 73 dX3_misclosureBySteps_37 (by decide) (fun c3 => ?_) (fun c3 => ?_)
      · have hf := ite_t hf c3
        refine wa_iload_n hC dX3_misclosureBySteps_73 rfl 2 rfl ?_
        exact wa_iret hC hlk hr (so_inj hf) rfl dX3_misclosureBySteps_74
      · have hf := ite_f hf c3
        refine wa_aload_n hC dX3_misclosureBySteps_40 rfl 0 rfl ?_
        refine wa_iload hC dX3_misclosureBySteps_41 4 rfl ?_
        obtain ⟨v4, h4, hf⟩ := bd hf
        refine wa_calli (rest := []) (wr_V hC (kX3_isGood l G hi h4) (cwV 1 hC.1.2.2.2.2 gX3_misclosureBySteps_X3_isGood rfl rfl rfl (by decide +kernel) ⟨Nat.le_of_ble_eq_true rfl, Nat.le_of_ble_eq_true rfl⟩) hi (by decide) (ce3 hi) rfl rfl rfl rfl (Nat.le_of_ble_eq_true rfl) dX3_misclosureBySteps_43) ?_
        refine wa_if_eq hC 67 dX3_misclosureBySteps_46 (by decide) (fun c5 => ?_) (fun c5 => ?_)
        · have hf := ite_t hf c5
          refine wa_iinc (v := _ + 1) (lv' := [(4, .int _), (0, .ref _), (1, .int _), (2, .int _), (3, .int _)]) hC dX3_misclosureBySteps_67 (t := 4) rfl rfl (by decide) rfl ?_
          refine wa_goto hC 21 dX3_misclosureBySteps_70 (by decide) ?_
          exact wa_sub [1, 2, 3, 4, 0] rfl (hbk21 _ _ _ hf)
        · have hf := ite_f hf c5
          refine wa_iload_n hC dX3_misclosureBySteps_49 rfl 2 rfl ?_
          refine wa_aload_n hC dX3_misclosureBySteps_50 rfl 0 rfl ?_
          refine wa_iload hC dX3_misclosureBySteps_51 4 rfl ?_
          obtain ⟨v6, h6, hf⟩ := bd hf
          refine wa_calli (rest := [_]) (wr_V hC (kX3_rawHeight l G hi h6) (cwV 1 hC.1.2.2.2.2 gX3_misclosureBySteps_X3_rawHeight rfl rfl rfl (by decide +kernel) ⟨Nat.le_of_ble_eq_true rfl, Nat.le_of_ble_eq_true rfl⟩) hi (by decide) (ce3 hi) rfl rfl rfl rfl (Nat.le_of_ble_eq_true rfl) dX3_misclosureBySteps_53) ?_
          refine wa_iload_n hC dX3_misclosureBySteps_56 rfl 3 rfl ?_
          refine wa_isub hC dX3_misclosureBySteps_57 ?_
          refine wa_iadd hC dX3_misclosureBySteps_58 ?_
          refine wa_istore_n (lv' := [(2, .int _), (0, .ref _), (1, .int _), (3, .int _), (4, .int _)]) hC dX3_misclosureBySteps_59 rfl (by decide) rfl ?_
          refine wa_aload_n hC dX3_misclosureBySteps_60 rfl 1 rfl ?_
          refine wa_iload hC dX3_misclosureBySteps_61 4 rfl ?_
          obtain ⟨v7, h7, hf⟩ := bd hf
          refine wa_calli (rest := []) (wr_V hC (kX3_rawHeight l G hi h7) (cwV 1 hC.1.2.2.2.2 gX3_misclosureBySteps_X3_rawHeight rfl rfl rfl (by decide +kernel) ⟨Nat.le_of_ble_eq_true rfl, Nat.le_of_ble_eq_true rfl⟩) hi (by decide) (ce3 hi) rfl rfl rfl rfl (Nat.le_of_ble_eq_true rfl) dX3_misclosureBySteps_63) ?_
          refine wa_istore_n (lv' := [(3, .int _), (2, .int _), (0, .ref _), (1, .int _), (4, .int _)]) hC dX3_misclosureBySteps_66 rfl (by decide) rfl ?_
          refine wa_iinc (v := _ + 1) (lv' := [(4, .int _), (3, .int _), (2, .int _), (0, .ref _), (1, .int _)]) hC dX3_misclosureBySteps_67 (t := 4) rfl rfl (by decide) rfl ?_
          refine wa_goto hC 21 dX3_misclosureBySteps_70 (by decide) ?_
          exact wa_sub [3, 4, 2, 1, 0] rfl (hbk21 _ _ _ hf)
  have hL21 : ∀ (n : Nat) (x2 : Int32) (x3 : Int32) (x4 : Int32), fX3_misclosureBySteps_L21 i x1 M0  n x2 x3 x4 = some r → wAt p l e rmX3_misclosureBySteps s m args below meth c (qI below args s G r M0) 5 G M0 21 [(0, .ref (ga G (i))), (1, .int (x1)), (2, .int (x2)), (3, .int (x3)), (4, .int (x4))] [] := by
    intro  n
    induction n with
    | zero =>
      intro x2 x3 x4 hf
      exact absurd hf (by simp [fX3_misclosureBySteps_L21])
    | succ n ih =>
      intro x2 x3 x4 hf
      exact hB21  (fX3_misclosureBySteps_L21 i x1 M0  n) ih x2 x3 x4 hf
  unfold fX3_misclosureBySteps at hf
  refine wa_iconst (v := 0) hC dX3_misclosureBySteps_0 (by decide) ?_
  refine wa_istore_n (lv' := [(2, .int _), (0, .ref _), (1, .int _)]) hC dX3_misclosureBySteps_1 rfl (by decide) rfl ?_
  refine wa_aload_n hC dX3_misclosureBySteps_2 rfl 1 rfl ?_
  refine wa_aload_n hC dX3_misclosureBySteps_3 rfl 1 rfl ?_
  refine wa_iload_n hC dX3_misclosureBySteps_4 rfl 2 rfl ?_
  obtain ⟨v8, h8, hf⟩ := bd hf
  refine wa_calli (rest := [_]) (wr_V hC (kX3_begin l G hi h8) (cwV 1 hC.1.2.2.2.2 gX3_misclosureBySteps_X3_begin rfl rfl rfl (by decide +kernel) ⟨Nat.le_of_ble_eq_true rfl, Nat.le_of_ble_eq_true rfl⟩) hi (by decide) (ce3 hi) rfl rfl rfl rfl (Nat.le_of_ble_eq_true rfl) dX3_misclosureBySteps_5) ?_
  obtain ⟨v9, h9, hf⟩ := bd hf
  refine wa_calli (rest := []) (wr_V hC (kX3_rawHeight l G hi h9) (cwV 1 hC.1.2.2.2.2 gX3_misclosureBySteps_X3_rawHeight rfl rfl rfl (by decide +kernel) ⟨Nat.le_of_ble_eq_true rfl, Nat.le_of_ble_eq_true rfl⟩) hi (by decide) (ce3 hi) rfl rfl rfl rfl (Nat.le_of_ble_eq_true rfl) dX3_misclosureBySteps_8) ?_
  refine wa_istore_n (lv' := [(3, .int _), (2, .int _), (0, .ref _), (1, .int _)]) hC dX3_misclosureBySteps_11 rfl (by decide) rfl ?_
  refine wa_aload_n hC dX3_misclosureBySteps_12 rfl 2 rfl ?_
  refine wa_iload_n hC dX3_misclosureBySteps_13 rfl 3 rfl ?_
  obtain ⟨v10, h10, hf⟩ := bd hf
  refine wa_calli (rest := []) (wr_V hC (kX3_begin l G hi h10) (cwV 1 hC.1.2.2.2.2 gX3_misclosureBySteps_X3_begin rfl rfl rfl (by decide +kernel) ⟨Nat.le_of_ble_eq_true rfl, Nat.le_of_ble_eq_true rfl⟩) hi (by decide) (ce3 hi) rfl rfl rfl rfl (Nat.le_of_ble_eq_true rfl) dX3_misclosureBySteps_14) ?_
  refine wa_iconst (v := 1) hC dX3_misclosureBySteps_17 (by decide) ?_
  refine wa_iadd hC dX3_misclosureBySteps_18 ?_
  refine wa_istore (lv' := [(4, .int _), (3, .int _), (2, .int _), (0, .ref _), (1, .int _)]) hC dX3_misclosureBySteps_19 (by decide) rfl ?_
  exact wa_sub [3, 4, 2, 1, 0] rfl (hL21 FU _ _ _ hf)
abbrev rmX3_endsOpenLoop : Room := { frames := 2, cells := 0, slots := 0, locals := 42 }
set_option maxHeartbeats 4000000 in
set_option maxRecDepth 100000 in
theorem kX3_endsOpenLoop (l : Launch) (G : wG) {i : Nat} (hi : kd i = 3) {x1 : Int32} {M0 : wM} {b : Bool} (hf : fX3_endsOpenLoop i x1 M0 = some b) : mI l yX3_endsOpenLoop wsX3_endsOpenLoop rmX3_endsOpenLoop G [.ref (ga G (i)), .int (x1)] M0 (b2 b) M0 := by
  refine mI.of (cc := cX3_endsOpenLoop) (nL := 3) (ret := (some .boolean)) (own := RX3) (lv := [(0, .ref (ga G (i))), (1, .int (x1))]) (plainFor_of_name (by decide +kernel)) rfl rfl (Nat.le_of_ble_eq_true rfl) rfl ?_
  intro p e s m args below meth c hC hr hlk
  unfold fX3_endsOpenLoop at hf
  refine wa_aload_n hC dX3_endsOpenLoop_0 rfl 0 rfl ?_
  refine wa_iload_n hC dX3_endsOpenLoop_1 rfl 1 rfl ?_
  obtain ⟨v1, h1, hf⟩ := bd hf
  refine wa_calli (rest := []) (wr_V hC (kX3_openLoopOf l G hi h1) (cwV 1 hC.1.2.2.2.2 gX3_endsOpenLoop_X3_openLoopOf rfl rfl rfl (by decide +kernel) ⟨Nat.le_of_ble_eq_true rfl, Nat.le_of_ble_eq_true rfl⟩) hi (by decide) (ce3 hi) rfl rfl rfl rfl (Nat.le_of_ble_eq_true rfl) dX3_endsOpenLoop_2) ?_
  refine wa_istore_n (lv' := [(2, .int _), (0, .ref _), (1, .int _)]) hC dX3_endsOpenLoop_5 rfl (by decide) rfl ?_
  refine wa_iload_n hC dX3_endsOpenLoop_6 rfl 0 rfl ?_
  refine wa_iconst (v := -1) hC dX3_endsOpenLoop_7 (by decide) ?_
  refine wa_icmp_eq hC 24 dX3_endsOpenLoop_8 (by decide) (fun c2 => ?_) (fun c2 => ?_)
  · have hf := ite_t hf c2
    refine wa_iconst (v := 0) hC dX3_endsOpenLoop_24 (by decide) ?_
    exact wa_zret hC hlk hr (congrArg b2 (so_inj hf)) rfl dX3_endsOpenLoop_25
  · have hf := ite_f hf c2
    refine wa_aload_n hC dX3_endsOpenLoop_11 rfl 1 rfl ?_
    refine wa_iload_n hC dX3_endsOpenLoop_12 rfl 0 rfl ?_
    obtain ⟨v3, h3, hf⟩ := bd hf
    refine wa_calli (rest := []) (wr_V hC (kX3_end l G hi h3) (cwV 1 hC.1.2.2.2.2 gX3_endsOpenLoop_X3_end rfl rfl rfl (by decide +kernel) ⟨Nat.le_of_ble_eq_true rfl, Nat.le_of_ble_eq_true rfl⟩) hi (by decide) (ce3 hi) rfl rfl rfl rfl (Nat.le_of_ble_eq_true rfl) dX3_endsOpenLoop_13) ?_
    refine wa_iload_n hC dX3_endsOpenLoop_16 rfl 2 rfl ?_
    refine wa_icmp_ne hC 24 dX3_endsOpenLoop_17 (by decide) (fun c4 => ?_) (fun c4 => ?_)
    · have hf := ite_f hf c4
      refine wa_iconst (v := 0) hC dX3_endsOpenLoop_24 (by decide) ?_
      exact wa_zret hC hlk hr (congrArg b2 (so_inj hf)) rfl dX3_endsOpenLoop_25
    · have hf := ite_t hf c4
      refine wa_iconst (v := 1) hC dX3_endsOpenLoop_20 (by decide) ?_
      refine wa_goto hC 25 dX3_endsOpenLoop_21 (by decide) ?_
      exact wa_zret hC hlk hr (congrArg b2 (so_inj hf)) rfl dX3_endsOpenLoop_25
abbrev rmX3_addTo : Room := { frames := 3, cells := 0, slots := 0, locals := 64 }
theorem fiX3_addTo_3 : ∀ w ∈ u_ws RX3 TX3 12, w ∈ wsX3_addTo := by decide +kernel
theorem mbX3_addTo_48 : Cond.fieldLink RX3 48 "BaroRuns$Survey" "size" "I" ∈ wsX3_addTo := by decide +kernel
theorem mbX3_addTo_15 : Cond.fieldLink RX3 15 "BaroRuns$Survey" "points" "[I" ∈ wsX3_addTo := by decide +kernel
theorem mbX3_addTo_s81 : Cond.static yX6_at ∈ wsX3_addTo := by decide +kernel
theorem mbX3_addTo_i81 : Cond.initialized RX6 ∈ wsX3_addTo := by decide +kernel
set_option maxHeartbeats 4000000 in
set_option maxRecDepth 100000 in
theorem kX3_addTo (l : Launch) (G : wG) {i : Nat} (hi : kd i = 3) {j1 : Nat} (hj1 : kd j1 = 1) {x2 : Int32} {M0 M1 : wM} (hf : fX3_addTo i j1 x2 M0 = some M1) : mV l yX3_addTo wsX3_addTo rmX3_addTo G [.ref (ga G (i)), .ref (ga G (j1)), .int (x2)] M0 M1 := by
  refine mV.of (cc := cX3_addTo) (nL := 4) (ret := none) (own := RX3) (lv := [(0, .ref (ga G (i))), (1, .ref (ga G (j1))), (2, .int (x2))]) (plainFor_of_name (by decide +kernel)) rfl rfl (Nat.le_of_ble_eq_true rfl) rfl ?_
  intro p e s m args below meth c hC hr hlk
  have hB2 : ∀ (bk2 : Int32 → wM → Option wM) (hbk2 : (∀ (x3 : Int32) (M0 : wM), bk2 x3 M0 = some M1 → wAt p l e rmX3_addTo s m args below meth c (qV below args s G M1) 4 G M0 2 [(0, .ref (ga G (i))), (1, .ref (ga G (j1))), (2, .int (x2)), (3, .int (x3))] [])) (x3 : Int32) (M0 : wM), fX3_addTo_B2 i j1 x2 bk2 x3 M0 = some M1 → wAt p l e rmX3_addTo s m args below meth c (qV below args s G M1) 4 G M0 2 [(0, .ref (ga G (i))), (1, .ref (ga G (j1))), (2, .int (x2)), (3, .int (x3))] [] := by
    intro bk2 hbk2 x3 M0 hf
    unfold fX3_addTo_B2 at hf
    refine wa_iload_n hC dX3_addTo_2 rfl 3 rfl ?_
    refine wa_aload_n hC dX3_addTo_3 rfl 0 rfl ?_
    refine rg3_8 hC fiX3_addTo_3 hi mbX3_addTo_48 dX3_addTo_4 ?_
    refine wa_icmp_ge hC 53 dX3_addTo_7 (by decide) (fun c1 => ?_) (fun c1 => ?_)
    · have hf := ite_t hf c1
      exact wa_vret hC hlk hr (so_inj hf) dX3_addTo_53
    · have hf := ite_f hf c1
      refine wa_aload_n hC dX3_addTo_10 rfl 0 rfl ?_
      refine wa_iload_n hC dX3_addTo_11 rfl 3 rfl ?_
      obtain ⟨v2, h2, hf⟩ := bd hf
      refine wa_calli (rest := []) (wr_V hC (kX3_isGood l G hi h2) (cwV 1 hC.1.2.2.2.2 gX3_addTo_X3_isGood rfl rfl rfl (by decide +kernel) ⟨Nat.le_of_ble_eq_true rfl, Nat.le_of_ble_eq_true rfl⟩) hi (by decide) (ce3 hi) rfl rfl rfl rfl (Nat.le_of_ble_eq_true rfl) dX3_addTo_12) ?_
      refine wa_if_eq hC 47 dX3_addTo_15 (by decide) (fun c3 => ?_) (fun c3 => ?_)
      · have hf := ite_t hf c3
        refine wa_iinc (v := _ + 1) (lv' := [(3, .int _), (0, .ref _), (1, .ref _), (2, .int _)]) hC dX3_addTo_47 (t := 3) rfl rfl (by decide) rfl ?_
        refine wa_goto hC 2 dX3_addTo_50 (by decide) ?_
        exact wa_sub [1, 2, 3, 0] rfl (hbk2 _ _ hf)
      · have hf := ite_f hf c3
        refine wa_aload_n hC dX3_addTo_18 rfl 0 rfl ?_
        refine rg3_1 hC fiX3_addTo_3 hi mbX3_addTo_15 dX3_addTo_19 ?_
        refine wa_iload_n hC dX3_addTo_22 rfl 3 rfl ?_
        obtain ⟨v4, h4, hf⟩ := bd hf
        refine wa_calli (rest := []) (wr_SN hC (kX6_at l G (kf3_1 hi) h4) ⟨va_cnB 2 hC.1.2.2.2.2 gX3_addTo_X6_at_n81 rfl rfl rfl (nwm_Survey_81 hC.2.2.2) (hC.1.2.2.2.2 _ mbX3_addTo_i81) (by decide +kernel) ⟨Nat.le_of_ble_eq_true rfl, Nat.le_of_ble_eq_true rfl⟩, hC.1.2.2.2.2 _ mbX3_addTo_s81, trivial⟩ rfl rfl (Nat.le_of_ble_eq_true rfl) dX3_addTo_23) ?_
        refine wa_iload_n hC dX3_addTo_26 rfl 2 rfl ?_
        refine wa_icmp_ne hC 47 dX3_addTo_27 (by decide) (fun c5 => ?_) (fun c5 => ?_)
        · have hf := ite_f hf c5
          refine wa_iinc (v := _ + 1) (lv' := [(3, .int _), (0, .ref _), (1, .ref _), (2, .int _)]) hC dX3_addTo_47 (t := 3) rfl rfl (by decide) rfl ?_
          refine wa_goto hC 2 dX3_addTo_50 (by decide) ?_
          exact wa_sub [1, 2, 3, 0] rfl (hbk2 _ _ hf)
        · have hf := ite_t hf c5
          refine wa_aload_n hC dX3_addTo_30 rfl 0 rfl ?_
          refine wa_iload_n hC dX3_addTo_31 rfl 3 rfl ?_
          obtain ⟨v6, h6, hf⟩ := bd hf
          refine wa_calli (rest := []) (wr_V hC (kX3_endsOpenLoop l G hi h6) (cwV 1 hC.1.2.2.2.2 gX3_addTo_X3_endsOpenLoop rfl rfl rfl (by decide +kernel) ⟨Nat.le_of_ble_eq_true rfl, Nat.le_of_ble_eq_true rfl⟩) hi (by decide) (ce3 hi) rfl rfl rfl rfl (Nat.le_of_ble_eq_true rfl) dX3_addTo_32) ?_
          refine wa_if_ne hC 47 dX3_addTo_35 (by decide) (fun c7 => ?_) (fun c7 => ?_)
          · have hf := ite_f hf c7
            refine wa_iinc (v := _ + 1) (lv' := [(3, .int _), (0, .ref _), (1, .ref _), (2, .int _)]) hC dX3_addTo_47 (t := 3) rfl rfl (by decide) rfl ?_
            refine wa_goto hC 2 dX3_addTo_50 (by decide) ?_
            exact wa_sub [1, 2, 3, 0] rfl (hbk2 _ _ hf)
          · have hf := ite_t hf c7
            refine wa_aload_n hC dX3_addTo_38 rfl 1 rfl ?_
            refine wa_aload_n hC dX3_addTo_39 rfl 0 rfl ?_
            refine wa_iload_n hC dX3_addTo_40 rfl 3 rfl ?_
            obtain ⟨v8, h8, hf⟩ := bd hf
            refine wa_calli (rest := [_]) (wr_V hC (kX3_correctedHeight l G hi h8) (cwV 1 hC.1.2.2.2.2 gX3_addTo_X3_correctedHeight rfl rfl rfl (by decide +kernel) ⟨Nat.le_of_ble_eq_true rfl, Nat.le_of_ble_eq_true rfl⟩) hi (by decide) (ce3 hi) rfl rfl rfl rfl (Nat.le_of_ble_eq_true rfl) dX3_addTo_41) ?_
            obtain ⟨M9, h9, hf⟩ := bd hf
            refine wa_callv (rest := []) (wr_V hC (kX1_add l G hj1 h9) (cwV 1 hC.1.2.2.2.2 gX3_addTo_X1_add rfl rfl rfl (by decide +kernel) ⟨Nat.le_of_ble_eq_true rfl, Nat.le_of_ble_eq_true rfl⟩) hj1 (by decide) (ce1 hj1) rfl rfl rfl rfl (Nat.le_of_ble_eq_true rfl) dX3_addTo_44) ?_
            refine wa_iinc (v := _ + 1) (lv' := [(3, .int _), (0, .ref _), (1, .ref _), (2, .int _)]) hC dX3_addTo_47 (t := 3) rfl rfl (by decide) rfl ?_
            refine wa_goto hC 2 dX3_addTo_50 (by decide) ?_
            exact wa_sub [1, 2, 3, 0] rfl (hbk2 _ _ hf)
  have hL2 : ∀ (n : Nat) (x3 : Int32) (M0 : wM), fX3_addTo_L2 i j1 x2  n x3 M0 = some M1 → wAt p l e rmX3_addTo s m args below meth c (qV below args s G M1) 4 G M0 2 [(0, .ref (ga G (i))), (1, .ref (ga G (j1))), (2, .int (x2)), (3, .int (x3))] [] := by
    intro  n
    induction n with
    | zero =>
      intro x3 M0 hf
      exact absurd hf (by simp [fX3_addTo_L2])
    | succ n ih =>
      intro x3 M0 hf
      exact hB2  (fX3_addTo_L2 i j1 x2  n) ih x3 M0 hf
  unfold fX3_addTo at hf
  refine wa_iconst (v := 0) hC dX3_addTo_0 (by decide) ?_
  refine wa_istore_n (lv' := [(3, .int _), (0, .ref _), (1, .ref _), (2, .int _)]) hC dX3_addTo_1 rfl (by decide) rfl ?_
  exact wa_sub [1, 2, 3, 0] rfl (hL2 FU _ _ hf)

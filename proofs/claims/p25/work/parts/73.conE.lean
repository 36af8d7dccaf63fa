abbrev rmX6_refresh : Room := { frames := 5, cells := 0, slots := 0, locals := 135 }
theorem fiX6_refresh_6 : ∀ w ∈ u_ws RX6 TX6 9, w ∈ wsX6_refresh := by decide +kernel
theorem mbX6_refresh_53 : Cond.fieldLink RX6 53 "BaroRuns" "stale" "Z" ∈ wsX6_refresh := by decide +kernel
theorem mbX6_refresh_29 : Cond.fieldLink RX6 29 "BaroRuns" "firstSurvey" "LBaroRuns$Survey;" ∈ wsX6_refresh := by decide +kernel
theorem mbX6_refresh_10 : Cond.fieldLink RX6 10 "BaroRuns" "now" "LBaroRuns$State;" ∈ wsX6_refresh := by decide +kernel
theorem mbX6_refresh_33 : Cond.fieldLink RX6 33 "BaroRuns" "secondSurvey" "LBaroRuns$Survey;" ∈ wsX6_refresh := by decide +kernel
theorem mbX6_refresh_36 : Cond.fieldLink RX6 36 "BaroRuns" "thirdSurvey" "LBaroRuns$Survey;" ∈ wsX6_refresh := by decide +kernel
set_option maxHeartbeats 4000000 in
set_option maxRecDepth 100000 in
theorem kX6_refresh (l : Launch) (G : wG)  {M0 M1 : wM} (hf : fX6_refresh  M0 = some M1) : mV l yX6_refresh wsX6_refresh rmX6_refresh G [.ref (ga G (0))] M0 M1 := by
  refine mV.of (cc := cX6_refresh) (nL := 1) (ret := none) (own := RX6) (lv := [(0, .ref (ga G (0)))]) (plainFor_of_name (by decide +kernel)) rfl rfl (Nat.le_of_ble_eq_true rfl) rfl ?_
  intro p e s m args below meth c hC hr hlk
  unfold fX6_refresh at hf
  refine wa_aload_n hC dX6_refresh_0 rfl 0 rfl ?_
  refine rg6_8 hC fiX6_refresh_6 mbX6_refresh_53 dX6_refresh_1 ?_
  refine wa_if_eq hC 48 dX6_refresh_4 (by decide) (fun c1 => ?_) (fun c1 => ?_)
  · have hf := ite_t hf c1
    exact wa_vret hC hlk hr (so_inj hf) dX6_refresh_48
  · have hf := ite_f hf c1
    refine wa_aload_n hC dX6_refresh_7 rfl 0 rfl ?_
    refine rg6_3 hC fiX6_refresh_6 mbX6_refresh_29 dX6_refresh_8 ?_
    refine wa_aload_n hC dX6_refresh_11 rfl 0 rfl ?_
    refine rg6_0 hC fiX6_refresh_6 mbX6_refresh_10 dX6_refresh_12 ?_
    refine wa_iconst (v := 0) hC dX6_refresh_15 (by decide) ?_
    obtain ⟨M2, h2, hf⟩ := bd hf
    refine wa_callv (rest := []) (wr_V hC (kX3_workOut l G (show kd 66 = 3 from rfl) (show kd 1 = 2 from rfl) h2) (cwV 2 hC.1.2.2.2.2 gX6_refresh_X3_workOut rfl rfl rfl (by decide +kernel) ⟨Nat.le_of_ble_eq_true rfl, Nat.le_of_ble_eq_true rfl⟩) (show kd 66 = 3 from rfl) (by decide) (ce3 (show kd 66 = 3 from rfl)) rfl rfl rfl rfl (Nat.le_of_ble_eq_true rfl) dX6_refresh_16) ?_
    refine wa_aload_n hC dX6_refresh_19 rfl 0 rfl ?_
    refine rg6_4 hC fiX6_refresh_6 mbX6_refresh_33 dX6_refresh_20 ?_
    refine wa_aload_n hC dX6_refresh_23 rfl 0 rfl ?_
    refine rg6_0 hC fiX6_refresh_6 mbX6_refresh_10 dX6_refresh_24 ?_
    refine wa_iconst (v := 1) hC dX6_refresh_27 (by decide) ?_
    obtain ⟨M3, h3, hf⟩ := bd hf
    refine wa_callv (rest := []) (wr_V hC (kX3_workOut l G (show kd 75 = 3 from rfl) (show kd 1 = 2 from rfl) h3) (cwV 2 hC.1.2.2.2.2 gX6_refresh_X3_workOut rfl rfl rfl (by decide +kernel) ⟨Nat.le_of_ble_eq_true rfl, Nat.le_of_ble_eq_true rfl⟩) (show kd 75 = 3 from rfl) (by decide) (ce3 (show kd 75 = 3 from rfl)) rfl rfl rfl rfl (Nat.le_of_ble_eq_true rfl) dX6_refresh_28) ?_
    refine wa_aload_n hC dX6_refresh_31 rfl 0 rfl ?_
    refine rg6_5 hC fiX6_refresh_6 mbX6_refresh_36 dX6_refresh_32 ?_
    refine wa_aload_n hC dX6_refresh_35 rfl 0 rfl ?_
    refine rg6_0 hC fiX6_refresh_6 mbX6_refresh_10 dX6_refresh_36 ?_
    refine wa_iconst (v := 2) hC dX6_refresh_39 (by decide) ?_
    obtain ⟨M4, h4, hf⟩ := bd hf
    refine wa_callv (rest := []) (wr_V hC (kX3_workOut l G (show kd 84 = 3 from rfl) (show kd 1 = 2 from rfl) h4) (cwV 2 hC.1.2.2.2.2 gX6_refresh_X3_workOut rfl rfl rfl (by decide +kernel) ⟨Nat.le_of_ble_eq_true rfl, Nat.le_of_ble_eq_true rfl⟩) (show kd 84 = 3 from rfl) (by decide) (ce3 (show kd 84 = 3 from rfl)) rfl rfl rfl rfl (Nat.le_of_ble_eq_true rfl) dX6_refresh_40) ?_
    refine wa_aload_n hC dX6_refresh_43 rfl 0 rfl ?_
    refine wa_iconst (v := 0) hC dX6_refresh_44 (by decide) ?_
    refine rp6_8 hC fiX6_refresh_6 mbX6_refresh_53 rfl rfl dX6_refresh_45 ?_
    exact wa_vret hC hlk hr (so_inj hf) dX6_refresh_48
abbrev rmX6_surveyOf : Room := { frames := 0, cells := 0, slots := 0, locals := 0 }
theorem fiX6_surveyOf_6 : ∀ w ∈ u_ws RX6 TX6 9, w ∈ wsX6_surveyOf := by decide +kernel
theorem mbX6_surveyOf_29 : Cond.fieldLink RX6 29 "BaroRuns" "firstSurvey" "LBaroRuns$Survey;" ∈ wsX6_surveyOf := by decide +kernel
theorem mbX6_surveyOf_33 : Cond.fieldLink RX6 33 "BaroRuns" "secondSurvey" "LBaroRuns$Survey;" ∈ wsX6_surveyOf := by decide +kernel
theorem mbX6_surveyOf_36 : Cond.fieldLink RX6 36 "BaroRuns" "thirdSurvey" "LBaroRuns$Survey;" ∈ wsX6_surveyOf := by decide +kernel
set_option maxHeartbeats 4000000 in
set_option maxRecDepth 100000 in
theorem kX6_surveyOf (l : Launch) (G : wG) {x1 : Int32} {M0 : wM} {r : Nat} (hf : fX6_surveyOf x1 M0 = some r) : mR l yX6_surveyOf wsX6_surveyOf rmX6_surveyOf G [.ref (ga G (0)), .int (x1)] M0 r M0 := by
  refine mR.of (cc := cX6_surveyOf) (nL := 2) (ret := (some (.object "BaroRuns$Survey"))) (own := RX6) (lv := [(0, .ref (ga G (0))), (1, .int (x1))]) (plainFor_of_name (by decide +kernel)) rfl rfl (Nat.le_of_ble_eq_true rfl) rfl ?_
  intro p e s m args below meth c hC hr hlk
  unfold fX6_surveyOf at hf
  refine wa_iload_n hC dX6_surveyOf_0 rfl 1 rfl ?_
  refine ite_e hf (fun c1 hf => ?_) (fun c1 hf => ?_)
  · skip
    refine wa_lookup (off := 27) hC 28 dX6_surveyOf_1 (by decide) (by rw [c1] <;> decide) (by decide) ?_
    refine wa_aload_n hC dX6_surveyOf_28 rfl 0 rfl ?_
    refine rg6_3 hC fiX6_surveyOf_6 mbX6_surveyOf_29 dX6_surveyOf_29 ?_
    exact wa_aret hC hlk hr (so_inj hf) rfl dX6_surveyOf_32
  · skip
    refine ite_e hf (fun c2 hf => ?_) (fun c2 hf => ?_)
    · skip
      refine wa_lookup (off := 32) hC 33 dX6_surveyOf_1 (by decide) (by rw [c2] <;> decide) (by decide) ?_
      refine wa_aload_n hC dX6_surveyOf_33 rfl 0 rfl ?_
      refine rg6_4 hC fiX6_surveyOf_6 mbX6_surveyOf_33 dX6_surveyOf_34 ?_
      exact wa_aret hC hlk hr (so_inj hf) rfl dX6_surveyOf_37
    · skip
      refine wa_lookup (off := 37) hC 38 dX6_surveyOf_1 (by decide) ((lv_osw c1 (by decide)).trans ((lv_osw c2 (by decide)).trans (rfl))) (by decide) ?_
      refine wa_aload_n hC dX6_surveyOf_38 rfl 0 rfl ?_
      refine rg6_5 hC fiX6_surveyOf_6 mbX6_surveyOf_36 dX6_surveyOf_39 ?_
      exact wa_aret hC hlk hr (so_inj hf) rfl dX6_surveyOf_42
abbrev rmX6_reading : Room := { frames := 6, cells := 0, slots := 0, locals := 155 }
theorem fiX6_reading_6 : ∀ w ∈ u_ws RX6 TX6 9, w ∈ wsX6_reading := by decide +kernel
theorem mbX6_reading_10 : Cond.fieldLink RX6 10 "BaroRuns" "now" "LBaroRuns$State;" ∈ wsX6_reading := by decide +kernel
theorem mbX6_reading_61 : Cond.constant RX6 61 (-2000000001) ∈ wsX6_reading := by decide +kernel
theorem mbX6_reading_108 : Cond.constant RX6 108 (-2000000004) ∈ wsX6_reading := by decide +kernel
set_option maxHeartbeats 4000000 in
set_option maxRecDepth 100000 in
theorem kX6_reading (l : Launch) (G : wG) {x1 : Int32} {x2 : Int32} {x3 : Int32} {M0 M1 : wM} {r : Int32} (hf : fX6_reading x1 x2 x3 M0 = some (r, M1)) : mI l yX6_reading wsX6_reading rmX6_reading G [.ref (ga G (0)), .int (x1), .int (x2), .int (x3)] M0 r M1 := by
  refine mI.of (cc := cX6_reading) (nL := 4) (ret := (some .int)) (own := RX6) (lv := [(0, .ref (ga G (0))), (1, .int (x1)), (2, .int (x2)), (3, .int (x3))]) (plainFor_of_name (by decide +kernel)) rfl rfl (Nat.le_of_ble_eq_true rfl) rfl ?_
  intro p e s m args below meth c hC hr hlk
  have hJ34 : ∀ (M0 : wM), fX6_reading_J34 x1 x2 x3   M0 = some (r, M1) → wAt p l e rmX6_reading s m args below meth c (qI below args s G r M1) 4 G M0 34 [(0, .ref (ga G (0))), (1, .int (x1)), (2, .int (x2)), (3, .int (x3))] [] := by
    intro   M0 hf
    unfold fX6_reading_J34 at hf
    refine wa_aload_n hC dX6_reading_34 rfl 0 rfl ?_
    obtain ⟨M1, h1, hf⟩ := bd hf
    refine wa_callv (rest := []) (wr_V hC (kX6_refresh l G h1) (cwV 0 hC.1.2.2.2.2 gX6_reading_X6_refresh rfl rfl rfl (by decide +kernel) ⟨Nat.le_of_ble_eq_true rfl, Nat.le_of_ble_eq_true rfl⟩) (show kd 0 = 6 from rfl) (by decide) (ce6 (show kd 0 = 6 from rfl)) rfl rfl rfl rfl (Nat.le_of_ble_eq_true rfl) dX6_reading_35) ?_
    refine wa_iload_n hC dX6_reading_38 rfl 3 rfl ?_
    refine ite_e hf (fun c2 hf => ?_) (fun c2 hf => ?_)
    · skip
      refine wa_lookup (off := 25) hC 64 dX6_reading_39 (by decide) (by rw [c2] <;> decide) (by decide) ?_
      refine wa_aload_n hC dX6_reading_64 rfl 0 rfl ?_
      refine wa_iload_n hC dX6_reading_65 rfl 1 rfl ?_
      obtain ⟨v3, h3, hf⟩ := bd hf
      refine wa_callr (rest := []) (wr_V hC (kX6_surveyOf l G h3) (cwV 1 hC.1.2.2.2.2 gX6_reading_X6_surveyOf rfl rfl rfl (by decide +kernel) ⟨Nat.le_of_ble_eq_true rfl, Nat.le_of_ble_eq_true rfl⟩) (show kd 0 = 6 from rfl) (by decide) (ce6 (show kd 0 = 6 from rfl)) rfl rfl rfl rfl (Nat.le_of_ble_eq_true rfl) dX6_reading_66) ?_
      obtain ⟨_, g4, hf⟩ := bd hf
      have g4 := gk_some g4
      refine wa_iload_n hC dX6_reading_69 rfl 2 rfl ?_
      obtain ⟨v5, h5, hf⟩ := bd hf
      refine wa_calli (rest := []) (wr_V hC (kX3_isGust l G g4 h5) (cwV 1 hC.1.2.2.2.2 gX6_reading_X3_isGust rfl rfl rfl (by decide +kernel) ⟨Nat.le_of_ble_eq_true rfl, Nat.le_of_ble_eq_true rfl⟩) g4 (by decide) (ce3 g4) rfl rfl rfl rfl (Nat.le_of_ble_eq_true rfl) dX6_reading_70) ?_
      refine wa_if_eq hC 80 dX6_reading_73 (by decide) (fun c6 => ?_) (fun c6 => ?_)
      · have hf := ite_t hf c6
        refine wa_iconst (v := 0) hC dX6_reading_80 (by decide) ?_
        exact wa_iret hC hlk hr (congrArg Prod.fst (so_inj hf)) (congrArg Prod.snd (so_inj hf)) dX6_reading_81
      · have hf := ite_f hf c6
        refine wa_iconst (v := 1) hC dX6_reading_76 (by decide) ?_
        refine wa_goto hC 81 dX6_reading_77 (by decide) ?_
        exact wa_iret hC hlk hr (congrArg Prod.fst (so_inj hf)) (congrArg Prod.snd (so_inj hf)) dX6_reading_81
    · skip
      refine ite_e hf (fun c7 hf => ?_) (fun c7 hf => ?_)
      · skip
        refine wa_lookup (off := 43) hC 82 dX6_reading_39 (by decide) (by rw [c7] <;> decide) (by decide) ?_
        refine wa_aload_n hC dX6_reading_82 rfl 0 rfl ?_
        refine wa_iload_n hC dX6_reading_83 rfl 1 rfl ?_
        obtain ⟨v8, h8, hf⟩ := bd hf
        refine wa_callr (rest := []) (wr_V hC (kX6_surveyOf l G h8) (cwV 1 hC.1.2.2.2.2 gX6_reading_X6_surveyOf rfl rfl rfl (by decide +kernel) ⟨Nat.le_of_ble_eq_true rfl, Nat.le_of_ble_eq_true rfl⟩) (show kd 0 = 6 from rfl) (by decide) (ce6 (show kd 0 = 6 from rfl)) rfl rfl rfl rfl (Nat.le_of_ble_eq_true rfl) dX6_reading_84) ?_
        obtain ⟨_, g9, hf⟩ := bd hf
        have g9 := gk_some g9
        refine wa_iload_n hC dX6_reading_87 rfl 2 rfl ?_
        obtain ⟨v10, h10, hf⟩ := bd hf
        refine wa_calli (rest := []) (wr_V hC (kX3_isGood l G g9 h10) (cwV 1 hC.1.2.2.2.2 gX6_reading_X3_isGood rfl rfl rfl (by decide +kernel) ⟨Nat.le_of_ble_eq_true rfl, Nat.le_of_ble_eq_true rfl⟩) g9 (by decide) (ce3 g9) rfl rfl rfl rfl (Nat.le_of_ble_eq_true rfl) dX6_reading_88) ?_
        refine wa_if_eq hC 98 dX6_reading_91 (by decide) (fun c11 => ?_) (fun c11 => ?_)
        · have hf := ite_t hf c11
          refine wa_iconst (v := 0) hC dX6_reading_98 (by decide) ?_
          exact wa_iret hC hlk hr (congrArg Prod.fst (so_inj hf)) (congrArg Prod.snd (so_inj hf)) dX6_reading_99
        · have hf := ite_f hf c11
          refine wa_iconst (v := 1) hC dX6_reading_94 (by decide) ?_
          refine wa_goto hC 99 dX6_reading_95 (by decide) ?_
          exact wa_iret hC hlk hr (congrArg Prod.fst (so_inj hf)) (congrArg Prod.snd (so_inj hf)) dX6_reading_99
      · skip
        refine wa_lookup (off := 61) hC 100 dX6_reading_39 (by decide) ((lv_osw c2 (by decide)).trans ((lv_osw c7 (by decide)).trans (rfl))) (by decide) ?_
        refine wa_aload_n hC dX6_reading_100 rfl 0 rfl ?_
        refine rg6_0 hC fiX6_reading_6 mbX6_reading_10 dX6_reading_101 ?_
        refine wa_iload_n hC dX6_reading_104 rfl 1 rfl ?_
        obtain ⟨v12, h12, hf⟩ := bd hf
        refine wa_callr (rest := []) (wr_V hC (kX2_track l G (show kd 1 = 2 from rfl) h12) (cwV 1 hC.1.2.2.2.2 gX6_reading_X2_track rfl rfl rfl (by decide +kernel) ⟨Nat.le_of_ble_eq_true rfl, Nat.le_of_ble_eq_true rfl⟩) (show kd 1 = 2 from rfl) (by decide) (ce2 (show kd 1 = 2 from rfl)) rfl rfl rfl rfl (Nat.le_of_ble_eq_true rfl) dX6_reading_105) ?_
        obtain ⟨_, g13, hf⟩ := bd hf
        have g13 := gk_some g13
        refine wa_iload_n hC dX6_reading_108 rfl 2 rfl ?_
        refine wa_iload_n hC dX6_reading_109 rfl 3 rfl ?_
        obtain ⟨v14, h14, hf⟩ := bd hf
        refine wa_calli (rest := []) (wr_V hC (kX5_value l G g13 h14) (cwV 2 hC.1.2.2.2.2 gX6_reading_X5_value rfl rfl rfl (by decide +kernel) ⟨Nat.le_of_ble_eq_true rfl, Nat.le_of_ble_eq_true rfl⟩) g13 (by decide) (ce5 g13) rfl rfl rfl rfl (Nat.le_of_ble_eq_true rfl) dX6_reading_110) ?_
        exact wa_iret hC hlk hr (congrArg Prod.fst (so_inj hf)) (congrArg Prod.snd (so_inj hf)) dX6_reading_113
  unfold fX6_reading at hf
  refine wa_aload_n hC dX6_reading_0 rfl 0 rfl ?_
  refine wa_iload_n hC dX6_reading_1 rfl 1 rfl ?_
  refine wa_iload_n hC dX6_reading_2 rfl 2 rfl ?_
  obtain ⟨v15, h15, hf⟩ := bd hf
  refine wa_calli (rest := []) (wr_V hC (kX6_isReadingOf l G h15) (cwV 2 hC.1.2.2.2.2 gX6_reading_X6_isReadingOf rfl rfl rfl (by decide +kernel) ⟨Nat.le_of_ble_eq_true rfl, Nat.le_of_ble_eq_true rfl⟩) (show kd 0 = 6 from rfl) (by decide) (ce6 (show kd 0 = 6 from rfl)) rfl rfl rfl rfl (Nat.le_of_ble_eq_true rfl) dX6_reading_3) ?_
  refine wa_if_eq hC 18 dX6_reading_6 (by decide) (fun c16 => ?_) (fun c16 => ?_)
  · have hf := ite_t hf c16
    refine wa_ldc hC mbX6_reading_61 dX6_reading_18 ?_
    exact wa_iret hC hlk hr (congrArg Prod.fst (so_inj hf)) (congrArg Prod.snd (so_inj hf)) dX6_reading_20
  · have hf := ite_f hf c16
    refine wa_iload_n hC dX6_reading_9 rfl 3 rfl ?_
    refine wa_iconst (v := 0) hC dX6_reading_10 (by decide) ?_
    refine wa_iconst (v := 5) hC dX6_reading_11 (by decide) ?_
    obtain ⟨v17, h17, hf⟩ := bd hf
    refine wa_calli (rest := []) (wr_S hC (kX6_within l G h17) (va_cwS 3 hC.1.2.2.2.2 gX6_reading_X6_within rfl rfl rfl (by decide +kernel) ⟨Nat.le_of_ble_eq_true rfl, Nat.le_of_ble_eq_true rfl⟩) rfl rfl (Nat.le_of_ble_eq_true rfl) dX6_reading_12) ?_
    refine wa_if_ne hC 21 dX6_reading_15 (by decide) (fun c18 => ?_) (fun c18 => ?_)
    · have hf := ite_f hf c18
      refine wa_iload_n hC dX6_reading_21 rfl 1 rfl ?_
      refine wa_iconst (v := -1) hC dX6_reading_22 (by decide) ?_
      refine wa_icmp_ne hC 34 dX6_reading_23 (by decide) (fun c19 => ?_) (fun c19 => ?_)
      · have hf := ite_f hf c19
        exact wa_sub [0, 1, 2, 3] rfl (hJ34   _ hf)
      · have hf := ite_t hf c19
        refine wa_iload_n hC dX6_reading_26 rfl 3 rfl ?_
        refine wa_iconst (v := 3) hC dX6_reading_27 (by decide) ?_
        refine wa_icmp_lt hC 34 dX6_reading_28 (by decide) (fun c20 => ?_) (fun c20 => ?_)
        · have hf := ite_t hf c20
          exact wa_sub [0, 1, 2, 3] rfl (hJ34   _ hf)
        · have hf := ite_f hf c20
          refine wa_ldc hC mbX6_reading_108 dX6_reading_31 ?_
          exact wa_iret hC hlk hr (congrArg Prod.fst (so_inj hf)) (congrArg Prod.snd (so_inj hf)) dX6_reading_33
    · have hf := ite_t hf c18
      refine wa_ldc hC mbX6_reading_61 dX6_reading_18 ?_
      exact wa_iret hC hlk hr (congrArg Prod.fst (so_inj hf)) (congrArg Prod.snd (so_inj hf)) dX6_reading_20
abbrev rmX6_gather : Room := { frames := 4, cells := 0, slots := 0, locals := 87 }
theorem fiX6_gather_6 : ∀ w ∈ u_ws RX6 TX6 9, w ∈ wsX6_gather := by decide +kernel
theorem mbX6_gather_42 : Cond.fieldLink RX6 42 "BaroRuns" "pointSum" "LBaroRuns$PointSum;" ∈ wsX6_gather := by decide +kernel
set_option maxHeartbeats 4000000 in
set_option maxRecDepth 100000 in
theorem kX6_gather (l : Launch) (G : wG) {x1 : Int32} {M0 M1 : wM} (hf : fX6_gather x1 M0 = some M1) : mV l yX6_gather wsX6_gather rmX6_gather G [.ref (ga G (0)), .int (x1)] M0 M1 := by
  refine mV.of (cc := cX6_gather) (nL := 3) (ret := none) (own := RX6) (lv := [(0, .ref (ga G (0))), (1, .int (x1))]) (plainFor_of_name (by decide +kernel)) rfl rfl (Nat.le_of_ble_eq_true rfl) rfl ?_
  intro p e s m args below meth c hC hr hlk
  have hB9 : ∀ (bk9 : Int32 → wM → Option wM) (hbk9 : (∀ (x2 : Int32) (M0 : wM), bk9 x2 M0 = some M1 → wAt p l e rmX6_gather s m args below meth c (qV below args s G M1) 3 G M0 9 [(0, .ref (ga G (0))), (1, .int (x1)), (2, .int (x2))] [])) (x2 : Int32) (M0 : wM), fX6_gather_B9 x1 bk9 x2 M0 = some M1 → wAt p l e rmX6_gather s m args below meth c (qV below args s G M1) 3 G M0 9 [(0, .ref (ga G (0))), (1, .int (x1)), (2, .int (x2))] [] := by
    intro bk9 hbk9 x2 M0 hf
    unfold fX6_gather_B9 at hf
    refine wa_iload_n hC dX6_gather_9 rfl 2 rfl ?_
    refine wa_iconst (v := 3) hC dX6_gather_10 (by decide) ?_
    refine wa_icmp_ge hC 33 dX6_gather_11 (by decide) (fun c1 => ?_) (fun c1 => ?_)
    · have hf := ite_t hf c1
      exact wa_vret hC hlk hr (so_inj hf) dX6_gather_33
    · have hf := ite_f hf c1
      refine wa_aload_n hC dX6_gather_14 rfl 0 rfl ?_
      refine wa_iload_n hC dX6_gather_15 rfl 2 rfl ?_
      obtain ⟨v2, h2, hf⟩ := bd hf
      refine wa_callr (rest := []) (wr_V hC (kX6_surveyOf l G h2) (cwV 1 hC.1.2.2.2.2 gX6_gather_X6_surveyOf rfl rfl rfl (by decide +kernel) ⟨Nat.le_of_ble_eq_true rfl, Nat.le_of_ble_eq_true rfl⟩) (show kd 0 = 6 from rfl) (by decide) (ce6 (show kd 0 = 6 from rfl)) rfl rfl rfl rfl (Nat.le_of_ble_eq_true rfl) dX6_gather_16) ?_
      obtain ⟨_, g3, hf⟩ := bd hf
      have g3 := gk_some g3
      refine wa_aload_n hC dX6_gather_19 rfl 0 rfl ?_
      refine rg6_6 hC fiX6_gather_6 mbX6_gather_42 dX6_gather_20 ?_
      refine wa_iload_n hC dX6_gather_23 rfl 1 rfl ?_
      obtain ⟨M4, h4, hf⟩ := bd hf
      refine wa_callv (rest := []) (wr_V hC (kX3_addTo l G g3 (show kd 93 = 1 from rfl) h4) (cwV 2 hC.1.2.2.2.2 gX6_gather_X3_addTo rfl rfl rfl (by decide +kernel) ⟨Nat.le_of_ble_eq_true rfl, Nat.le_of_ble_eq_true rfl⟩) g3 (by decide) (ce3 g3) rfl rfl rfl rfl (Nat.le_of_ble_eq_true rfl) dX6_gather_24) ?_
      refine wa_iinc (v := _ + 1) (lv' := [(2, .int _), (0, .ref _), (1, .int _)]) hC dX6_gather_27 (t := 2) rfl rfl (by decide) rfl ?_
      refine wa_goto hC 9 dX6_gather_30 (by decide) ?_
      exact wa_sub [1, 2, 0] rfl (hbk9 _ _ hf)
  have hL9 : ∀ (n : Nat) (x2 : Int32) (M0 : wM), fX6_gather_L9 x1  n x2 M0 = some M1 → wAt p l e rmX6_gather s m args below meth c (qV below args s G M1) 3 G M0 9 [(0, .ref (ga G (0))), (1, .int (x1)), (2, .int (x2))] [] := by
    intro  n
    induction n with
    | zero =>
      intro x2 M0 hf
      exact absurd hf (by simp [fX6_gather_L9])
    | succ n ih =>
      intro x2 M0 hf
      exact hB9  (fX6_gather_L9 x1  n) ih x2 M0 hf
  unfold fX6_gather at hf
  refine wa_aload_n hC dX6_gather_0 rfl 0 rfl ?_
  refine rg6_6 hC fiX6_gather_6 mbX6_gather_42 dX6_gather_1 ?_
  obtain ⟨M5, h5, hf⟩ := bd hf
  refine wa_callv (rest := []) (wr_V hC (kX1_clear l G (show kd 93 = 1 from rfl) h5) (cwV 0 hC.1.2.2.2.2 gX6_gather_X1_clear rfl rfl rfl (by decide +kernel) ⟨Nat.le_of_ble_eq_true rfl, Nat.le_of_ble_eq_true rfl⟩) (show kd 93 = 1 from rfl) (by decide) (ce1 (show kd 93 = 1 from rfl)) rfl rfl rfl rfl (Nat.le_of_ble_eq_true rfl) dX6_gather_4) ?_
  refine wa_iconst (v := 0) hC dX6_gather_7 (by decide) ?_
  refine wa_istore_n (lv' := [(2, .int _), (0, .ref _), (1, .int _)]) hC dX6_gather_8 rfl (by decide) rfl ?_
  exact wa_sub [1, 2, 0] rfl (hL9 FU _ _ hf)
abbrev rmX6_pointsWithHeight : Room := { frames := 5, cells := 0, slots := 0, locals := 109 }
theorem fiX6_pointsWithHeight_1 : ∀ w ∈ u_ws RX1 TX1 4, w ∈ wsX6_pointsWithHeight := by decide +kernel
theorem fiX6_pointsWithHeight_6 : ∀ w ∈ u_ws RX6 TX6 9, w ∈ wsX6_pointsWithHeight := by decide +kernel
theorem mbX6_pointsWithHeight_42 : Cond.fieldLink RX6 42 "BaroRuns" "pointSum" "LBaroRuns$PointSum;" ∈ wsX6_pointsWithHeight := by decide +kernel
set_option maxHeartbeats 4000000 in
set_option maxRecDepth 100000 in
theorem kX6_pointsWithHeight (l : Launch) (G : wG)  {M0 M1 : wM} {r : Int32} (hf : fX6_pointsWithHeight  M0 = some (r, M1)) : mI l yX6_pointsWithHeight wsX6_pointsWithHeight rmX6_pointsWithHeight G [.ref (ga G (0))] M0 r M1 := by
  refine mI.of (cc := cX6_pointsWithHeight) (nL := 3) (ret := (some .int)) (own := RX6) (lv := [(0, .ref (ga G (0)))]) (plainFor_of_name (by decide +kernel)) rfl rfl (Nat.le_of_ble_eq_true rfl) rfl ?_
  intro p e s m args below meth c hC hr hlk
  have hB4 : ∀ (bk4 : Int32 → Int32 → wM → Option (Int32 × wM)) (hbk4 : (∀ (x1 : Int32) (x2 : Int32) (M0 : wM), bk4 x1 x2 M0 = some (r, M1) → wAt p l e rmX6_pointsWithHeight s m args below meth c (qI below args s G r M1) 3 G M0 4 [(0, .ref (ga G (0))), (1, .int (x1)), (2, .int (x2))] [])) (x1 : Int32) (x2 : Int32) (M0 : wM), fX6_pointsWithHeight_B4  bk4 x1 x2 M0 = some (r, M1) → wAt p l e rmX6_pointsWithHeight s m args below meth c (qI below args s G r M1) 3 G M0 4 [(0, .ref (ga G (0))), (1, .int (x1)), (2, .int (x2))] [] := by
    intro bk4 hbk4 x1 x2 M0 hf
    unfold fX6_pointsWithHeight_B4 at hf
    refine wa_iload_n hC dX6_pointsWithHeight_4 rfl 2 rfl ?_
    refine wa_bipush (v := 10) hC dX6_pointsWithHeight_5 (by decide) ?_
    refine wa_icmp_ge hC 39 dX6_pointsWithHeight_7 (by decide) (fun c1 => ?_) (fun c1 => ?_)
    · have hf := ite_t hf c1
      refine wa_iload_n hC dX6_pointsWithHeight_39 rfl 1 rfl ?_
      exact wa_iret hC hlk hr (congrArg Prod.fst (so_inj hf)) (congrArg Prod.snd (so_inj hf)) dX6_pointsWithHeight_40
    · have hf := ite_f hf c1
      refine wa_aload_n hC dX6_pointsWithHeight_10 rfl 0 rfl ?_
      refine wa_iload_n hC dX6_pointsWithHeight_11 rfl 2 rfl ?_
      obtain ⟨M2, h2, hf⟩ := bd hf
      refine wa_callv (rest := []) (wr_V hC (kX6_gather l G h2) (cwV 1 hC.1.2.2.2.2 gX6_pointsWithHeight_X6_gather rfl rfl rfl (by decide +kernel) ⟨Nat.le_of_ble_eq_true rfl, Nat.le_of_ble_eq_true rfl⟩) (show kd 0 = 6 from rfl) (by decide) (ce6 (show kd 0 = 6 from rfl)) rfl rfl rfl rfl (Nat.le_of_ble_eq_true rfl) dX6_pointsWithHeight_12) ?_
      refine wa_iload_n hC dX6_pointsWithHeight_15 rfl 1 rfl ?_
      refine wa_aload_n hC dX6_pointsWithHeight_16 rfl 0 rfl ?_
      refine rg6_6 hC fiX6_pointsWithHeight_6 mbX6_pointsWithHeight_42 dX6_pointsWithHeight_17 ?_
      refine rgn1_1 hC fiX6_pointsWithHeight_1 (show kd 93 = 1 from rfl) (nwf_BaroRuns_200 hC.2.2.2) dX6_pointsWithHeight_20 ?_
      refine wa_if_le hC 30 dX6_pointsWithHeight_23 (by decide) (fun c3 => ?_) (fun c3 => ?_)
      · have hf := ite_t hf c3
        refine wa_iconst (v := 0) hC dX6_pointsWithHeight_30 (by decide) ?_
        refine wa_iadd hC dX6_pointsWithHeight_31 ?_
        refine wa_istore_n (lv' := [(1, .int _), (0, .ref _), (2, .int _)]) hC dX6_pointsWithHeight_32 rfl (by decide) rfl ?_
        refine wa_iinc (v := _ + 1) (lv' := [(2, .int _), (1, .int _), (0, .ref _)]) hC dX6_pointsWithHeight_33 (t := 2) rfl rfl (by decide) rfl ?_
        refine wa_goto hC 4 dX6_pointsWithHeight_36 (by decide) ?_
        exact wa_sub [2, 1, 0] rfl (hbk4 _ _ _ hf)
      · have hf := ite_f hf c3
        refine wa_iconst (v := 1) hC dX6_pointsWithHeight_26 (by decide) ?_
        refine wa_goto hC 31 dX6_pointsWithHeight_27 (by decide) ?_
        refine wa_iadd hC dX6_pointsWithHeight_31 ?_
        refine wa_istore_n (lv' := [(1, .int _), (0, .ref _), (2, .int _)]) hC dX6_pointsWithHeight_32 rfl (by decide) rfl ?_
        refine wa_iinc (v := _ + 1) (lv' := [(2, .int _), (1, .int _), (0, .ref _)]) hC dX6_pointsWithHeight_33 (t := 2) rfl rfl (by decide) rfl ?_
        refine wa_goto hC 4 dX6_pointsWithHeight_36 (by decide) ?_
        exact wa_sub [2, 1, 0] rfl (hbk4 _ _ _ hf)
  have hL4 : ∀ (n : Nat) (x1 : Int32) (x2 : Int32) (M0 : wM), fX6_pointsWithHeight_L4   n x1 x2 M0 = some (r, M1) → wAt p l e rmX6_pointsWithHeight s m args below meth c (qI below args s G r M1) 3 G M0 4 [(0, .ref (ga G (0))), (1, .int (x1)), (2, .int (x2))] [] := by
    intro  n
    induction n with
    | zero =>
      intro x1 x2 M0 hf
      exact absurd hf (by simp [fX6_pointsWithHeight_L4])
    | succ n ih =>
      intro x1 x2 M0 hf
      exact hB4  (fX6_pointsWithHeight_L4   n) ih x1 x2 M0 hf
  unfold fX6_pointsWithHeight at hf
  refine wa_iconst (v := 0) hC dX6_pointsWithHeight_0 (by decide) ?_
  refine wa_istore_n (lv' := [(1, .int _), (0, .ref _)]) hC dX6_pointsWithHeight_1 rfl (by decide) rfl ?_
  refine wa_iconst (v := 0) hC dX6_pointsWithHeight_2 (by decide) ?_
  refine wa_istore_n (lv' := [(2, .int _), (1, .int _), (0, .ref _)]) hC dX6_pointsWithHeight_3 rfl (by decide) rfl ?_
  exact wa_sub [2, 1, 0] rfl (hL4 FU _ _ _ hf)
abbrev rmX6_count : Room := { frames := 6, cells := 0, slots := 0, locals := 155 }
theorem fiX6_count_0 : ∀ w ∈ u_ws RX0 TX0 3, w ∈ wsX6_count := by decide +kernel
theorem fiX6_count_3 : ∀ w ∈ u_ws RX3 TX3 12, w ∈ wsX6_count := by decide +kernel
theorem fiX6_count_4 : ∀ w ∈ u_ws RX4 TX4 11, w ∈ wsX6_count := by decide +kernel
theorem fiX6_count_5 : ∀ w ∈ u_ws RX5 TX5 3, w ∈ wsX6_count := by decide +kernel
theorem fiX6_count_6 : ∀ w ∈ u_ws RX6 TX6 9, w ∈ wsX6_count := by decide +kernel
theorem mbX6_count_10 : Cond.fieldLink RX6 10 "BaroRuns" "now" "LBaroRuns$State;" ∈ wsX6_count := by decide +kernel
theorem mbX6_count_29 : Cond.fieldLink RX6 29 "BaroRuns" "firstSurvey" "LBaroRuns$Survey;" ∈ wsX6_count := by decide +kernel
theorem mbX6_count_33 : Cond.fieldLink RX6 33 "BaroRuns" "secondSurvey" "LBaroRuns$Survey;" ∈ wsX6_count := by decide +kernel
theorem mbX6_count_36 : Cond.fieldLink RX6 36 "BaroRuns" "thirdSurvey" "LBaroRuns$Survey;" ∈ wsX6_count := by decide +kernel
theorem mbX6_count_22 : Cond.fieldLink RX6 22 "BaroRuns" "history" "LBaroRuns$History;" ∈ wsX6_count := by decide +kernel
theorem mbX6_count_49 : Cond.fieldLink RX6 49 "BaroRuns" "text" "LBaroRuns$Text;" ∈ wsX6_count := by decide +kernel
theorem mbX6_count_61 : Cond.constant RX6 61 (-2000000001) ∈ wsX6_count := by decide +kernel
set_option maxHeartbeats 4000000 in
set_option maxRecDepth 100000 in
theorem kX6_count (l : Launch) (G : wG) {x1 : Int32} {M0 M1 : wM} {r : Int32} (hf : fX6_count x1 M0 = some (r, M1)) : mI l yX6_count wsX6_count rmX6_count G [.ref (ga G (0)), .int (x1)] M0 r M1 := by
  refine mI.of (cc := cX6_count) (nL := 2) (ret := (some .int)) (own := RX6) (lv := [(0, .ref (ga G (0))), (1, .int (x1))]) (plainFor_of_name (by decide +kernel)) rfl rfl (Nat.le_of_ble_eq_true rfl) rfl ?_
  intro p e s m args below meth c hC hr hlk
  have hJ167 : ∀ (M0 : wM), fX6_count_J167 x1   M0 = some (r, M1) → wAt p l e rmX6_count s m args below meth c (qI below args s G r M1) 2 G M0 167 [(0, .ref (ga G (0))), (1, .int (x1))] [] := by
    intro   M0 hf
    unfold fX6_count_J167 at hf
    refine wa_aload_n hC dX6_count_167 rfl 0 rfl ?_
    refine rg6_0 hC fiX6_count_6 mbX6_count_10 dX6_count_168 ?_
    refine wa_iload_n hC dX6_count_171 rfl 1 rfl ?_
    refine wa_bipush (v := 10) hC dX6_count_172 (by decide) ?_
    refine wa_isub hC dX6_count_174 ?_
    obtain ⟨v1, h1, hf⟩ := bd hf
    refine wa_calli (rest := []) (wr_V hC (kX2_setting l G (show kd 1 = 2 from rfl) h1) (cwV 1 hC.1.2.2.2.2 gX6_count_X2_setting rfl rfl rfl (by decide +kernel) ⟨Nat.le_of_ble_eq_true rfl, Nat.le_of_ble_eq_true rfl⟩) (show kd 1 = 2 from rfl) (by decide) (ce2 (show kd 1 = 2 from rfl)) rfl rfl rfl rfl (Nat.le_of_ble_eq_true rfl) dX6_count_175) ?_
    exact wa_iret hC hlk hr (congrArg Prod.fst (so_inj hf)) (congrArg Prod.snd (so_inj hf)) dX6_count_178
  have hJ76 : ∀ (M0 : wM), fX6_count_J76 x1   M0 = some (r, M1) → wAt p l e rmX6_count s m args below meth c (qI below args s G r M1) 2 G M0 76 [(0, .ref (ga G (0))), (1, .int (x1))] [] := by
    intro   M0 hf
    unfold fX6_count_J76 at hf
    refine wa_aload_n hC dX6_count_76 rfl 0 rfl ?_
    refine rg6_0 hC fiX6_count_6 mbX6_count_10 dX6_count_77 ?_
    refine wa_iload_n hC dX6_count_80 rfl 1 rfl ?_
    refine wa_iconst (v := 1) hC dX6_count_81 (by decide) ?_
    refine wa_isub hC dX6_count_82 ?_
    obtain ⟨v2, h2, hf⟩ := bd hf
    refine wa_callr (rest := []) (wr_V hC (kX2_track l G (show kd 1 = 2 from rfl) h2) (cwV 1 hC.1.2.2.2.2 gX6_count_X2_track rfl rfl rfl (by decide +kernel) ⟨Nat.le_of_ble_eq_true rfl, Nat.le_of_ble_eq_true rfl⟩) (show kd 1 = 2 from rfl) (by decide) (ce2 (show kd 1 = 2 from rfl)) rfl rfl rfl rfl (Nat.le_of_ble_eq_true rfl) dX6_count_83) ?_
    obtain ⟨_, g3, hf⟩ := bd hf
    have g3 := gk_some g3
    refine rgn5_2 hC fiX6_count_5 g3 (nwf_BaroRuns_101 hC.2.2.2) dX6_count_86 ?_
    exact wa_iret hC hlk hr (congrArg Prod.fst (so_inj hf)) (congrArg Prod.snd (so_inj hf)) dX6_count_89
  unfold fX6_count at hf
  refine wa_aload_n hC dX6_count_0 rfl 0 rfl ?_
  obtain ⟨M4, h4, hf⟩ := bd hf
  refine wa_callv (rest := []) (wr_V hC (kX6_refresh l G h4) (cwV 0 hC.1.2.2.2.2 gX6_count_X6_refresh rfl rfl rfl (by decide +kernel) ⟨Nat.le_of_ble_eq_true rfl, Nat.le_of_ble_eq_true rfl⟩) (show kd 0 = 6 from rfl) (by decide) (ce6 (show kd 0 = 6 from rfl)) rfl rfl rfl rfl (Nat.le_of_ble_eq_true rfl) dX6_count_1) ?_
  refine wa_iload_n hC dX6_count_4 rfl 1 rfl ?_
  refine ite_e hf (fun c5 hf => ?_) (fun c5 hf => ?_)
  · skip
    refine wa_tableIn (off := 71) hC 76 dX6_count_5 (by rw [c5]; decide) (by rw [c5]; decide) (by rw [c5] <;> decide) (by decide) ?_
    exact wa_sub [0, 1] rfl (hJ76   _ hf)
  · skip
    refine ite_e hf (fun c6 hf => ?_) (fun c6 hf => ?_)
    · skip
      refine wa_tableIn (off := 71) hC 76 dX6_count_5 (by rw [c6]; decide) (by rw [c6]; decide) (by rw [c6] <;> decide) (by decide) ?_
      exact wa_sub [0, 1] rfl (hJ76   _ hf)
    · skip
      refine ite_e hf (fun c7 hf => ?_) (fun c7 hf => ?_)
      · skip
        refine wa_tableIn (off := 71) hC 76 dX6_count_5 (by rw [c7]; decide) (by rw [c7]; decide) (by rw [c7] <;> decide) (by decide) ?_
        exact wa_sub [0, 1] rfl (hJ76   _ hf)
      · skip
        refine ite_e hf (fun c8 hf => ?_) (fun c8 hf => ?_)
        · skip
          refine wa_tableIn (off := 71) hC 76 dX6_count_5 (by rw [c8]; decide) (by rw [c8]; decide) (by rw [c8] <;> decide) (by decide) ?_
          exact wa_sub [0, 1] rfl (hJ76   _ hf)
        · skip
          refine ite_e hf (fun c9 hf => ?_) (fun c9 hf => ?_)
          · skip
            refine wa_tableIn (off := 85) hC 90 dX6_count_5 (by rw [c9]; decide) (by rw [c9]; decide) (by rw [c9] <;> decide) (by decide) ?_
            refine wa_aload_n hC dX6_count_90 rfl 0 rfl ?_
            refine rg6_3 hC fiX6_count_6 mbX6_count_29 dX6_count_91 ?_
            refine rgn3_9 hC fiX6_count_3 (show kd 66 = 3 from rfl) (nwf_BaroRuns_126 hC.2.2.2) dX6_count_94 ?_
            refine wa_aload_n hC dX6_count_97 rfl 0 rfl ?_
            refine rg6_4 hC fiX6_count_6 mbX6_count_33 dX6_count_98 ?_
            refine rgn3_9 hC fiX6_count_3 (show kd 75 = 3 from rfl) (nwf_BaroRuns_126 hC.2.2.2) dX6_count_101 ?_
            refine wa_iadd hC dX6_count_104 ?_
            refine wa_aload_n hC dX6_count_105 rfl 0 rfl ?_
            refine rg6_5 hC fiX6_count_6 mbX6_count_36 dX6_count_106 ?_
            refine rgn3_9 hC fiX6_count_3 (show kd 84 = 3 from rfl) (nwf_BaroRuns_126 hC.2.2.2) dX6_count_109 ?_
            refine wa_iadd hC dX6_count_112 ?_
            exact wa_iret hC hlk hr (congrArg Prod.fst (so_inj hf)) (congrArg Prod.snd (so_inj hf)) dX6_count_113
          · skip
            refine ite_e hf (fun c10 hf => ?_) (fun c10 hf => ?_)
            · skip
              refine wa_tableIn (off := 109) hC 114 dX6_count_5 (by rw [c10]; decide) (by rw [c10]; decide) (by rw [c10] <;> decide) (by decide) ?_
              refine wa_aload_n hC dX6_count_114 rfl 0 rfl ?_
              refine rg6_3 hC fiX6_count_6 mbX6_count_29 dX6_count_115 ?_
              refine rgn3_11 hC fiX6_count_3 (show kd 66 = 3 from rfl) (nwf_BaroRuns_129 hC.2.2.2) dX6_count_118 ?_
              refine wa_aload_n hC dX6_count_121 rfl 0 rfl ?_
              refine rg6_4 hC fiX6_count_6 mbX6_count_33 dX6_count_122 ?_
              refine rgn3_11 hC fiX6_count_3 (show kd 75 = 3 from rfl) (nwf_BaroRuns_129 hC.2.2.2) dX6_count_125 ?_
              refine wa_iadd hC dX6_count_128 ?_
              refine wa_aload_n hC dX6_count_129 rfl 0 rfl ?_
              refine rg6_5 hC fiX6_count_6 mbX6_count_36 dX6_count_130 ?_
              refine rgn3_11 hC fiX6_count_3 (show kd 84 = 3 from rfl) (nwf_BaroRuns_129 hC.2.2.2) dX6_count_133 ?_
              refine wa_iadd hC dX6_count_136 ?_
              exact wa_iret hC hlk hr (congrArg Prod.fst (so_inj hf)) (congrArg Prod.snd (so_inj hf)) dX6_count_137
            · skip
              refine ite_e hf (fun c11 hf => ?_) (fun c11 hf => ?_)
              · skip
                refine wa_tableIn (off := 133) hC 138 dX6_count_5 (by rw [c11]; decide) (by rw [c11]; decide) (by rw [c11] <;> decide) (by decide) ?_
                refine wa_aload_n hC dX6_count_138 rfl 0 rfl ?_
                refine rg6_0 hC fiX6_count_6 mbX6_count_10 dX6_count_139 ?_
                obtain ⟨v12, h12, hf⟩ := bd hf
                refine wa_calli (rest := []) (wr_V hC (kX2_steps l G (show kd 1 = 2 from rfl) h12) (cwV 0 hC.1.2.2.2.2 gX6_count_X2_steps rfl rfl rfl (by decide +kernel) ⟨Nat.le_of_ble_eq_true rfl, Nat.le_of_ble_eq_true rfl⟩) (show kd 1 = 2 from rfl) (by decide) (ce2 (show kd 1 = 2 from rfl)) rfl rfl rfl rfl (Nat.le_of_ble_eq_true rfl) dX6_count_142) ?_
                exact wa_iret hC hlk hr (congrArg Prod.fst (so_inj hf)) (congrArg Prod.snd (so_inj hf)) dX6_count_145
              · skip
                refine ite_e hf (fun c13 hf => ?_) (fun c13 hf => ?_)
                · skip
                  refine wa_tableIn (off := 141) hC 146 dX6_count_5 (by rw [c13]; decide) (by rw [c13]; decide) (by rw [c13] <;> decide) (by decide) ?_
                  refine wa_aload_n hC dX6_count_146 rfl 0 rfl ?_
                  obtain ⟨⟨v14, M14⟩, h14, hf⟩ := bd hf
                  dsimp only at hf
                  refine wa_calli (rest := []) (wr_V hC (kX6_pointsWithHeight l G h14) (cwV 0 hC.1.2.2.2.2 gX6_count_X6_pointsWithHeight rfl rfl rfl (by decide +kernel) ⟨Nat.le_of_ble_eq_true rfl, Nat.le_of_ble_eq_true rfl⟩) (show kd 0 = 6 from rfl) (by decide) (ce6 (show kd 0 = 6 from rfl)) rfl rfl rfl rfl (Nat.le_of_ble_eq_true rfl) dX6_count_147) ?_
                  exact wa_iret hC hlk hr (congrArg Prod.fst (so_inj hf)) (congrArg Prod.snd (so_inj hf)) dX6_count_150
                · skip
                  refine ite_e hf (fun c15 hf => ?_) (fun c15 hf => ?_)
                  · skip
                    refine wa_tableIn (off := 146) hC 151 dX6_count_5 (by rw [c15]; decide) (by rw [c15]; decide) (by rw [c15] <;> decide) (by decide) ?_
                    refine wa_aload_n hC dX6_count_151 rfl 0 rfl ?_
                    refine rg6_2 hC fiX6_count_6 mbX6_count_22 dX6_count_152 ?_
                    refine rgn0_2 hC fiX6_count_0 (show kd 19 = 0 from rfl) (nwf_BaroRuns_139 hC.2.2.2) dX6_count_155 ?_
                    exact wa_iret hC hlk hr (congrArg Prod.fst (so_inj hf)) (congrArg Prod.snd (so_inj hf)) dX6_count_158
                  · skip
                    refine ite_e hf (fun c16 hf => ?_) (fun c16 hf => ?_)
                    · skip
                      refine wa_tableIn (off := 154) hC 159 dX6_count_5 (by rw [c16]; decide) (by rw [c16]; decide) (by rw [c16] <;> decide) (by decide) ?_
                      refine wa_aload_n hC dX6_count_159 rfl 0 rfl ?_
                      refine rg6_7 hC fiX6_count_6 mbX6_count_49 dX6_count_160 ?_
                      refine rgn4_1 hC fiX6_count_4 (show kd 94 = 4 from rfl) (nwf_BaroRuns_140 hC.2.2.2) dX6_count_163 ?_
                      exact wa_iret hC hlk hr (congrArg Prod.fst (so_inj hf)) (congrArg Prod.snd (so_inj hf)) dX6_count_166
                    · skip
                      refine ite_e hf (fun c17 hf => ?_) (fun c17 hf => ?_)
                      · skip
                        refine wa_tableIn (off := 162) hC 167 dX6_count_5 (by rw [c17]; decide) (by rw [c17]; decide) (by rw [c17] <;> decide) (by decide) ?_
                        exact wa_sub [0, 1] rfl (hJ167   _ hf)
                      · skip
                        refine ite_e hf (fun c18 hf => ?_) (fun c18 hf => ?_)
                        · skip
                          refine wa_tableIn (off := 162) hC 167 dX6_count_5 (by rw [c18]; decide) (by rw [c18]; decide) (by rw [c18] <;> decide) (by decide) ?_
                          exact wa_sub [0, 1] rfl (hJ167   _ hf)
                        · skip
                          refine ite_e hf (fun c19 hf => ?_) (fun c19 hf => ?_)
                          · skip
                            refine wa_tableIn (off := 162) hC 167 dX6_count_5 (by rw [c19]; decide) (by rw [c19]; decide) (by rw [c19] <;> decide) (by decide) ?_
                            exact wa_sub [0, 1] rfl (hJ167   _ hf)
                          · skip
                            refine ite_e hf (fun c20 hf => ?_) (fun c20 hf => ?_)
                            · skip
                              refine wa_tableIn (off := 174) hC 179 dX6_count_5 (by rw [c20]; decide) (by rw [c20]; decide) (by rw [c20] <;> decide) (by decide) ?_
                              refine wa_aload_n hC dX6_count_179 rfl 0 rfl ?_
                              refine rg6_3 hC fiX6_count_6 mbX6_count_29 dX6_count_180 ?_
                              refine rgn3_10 hC fiX6_count_3 (show kd 66 = 3 from rfl) (nwf_BaroRuns_143 hC.2.2.2) dX6_count_183 ?_
                              refine wa_aload_n hC dX6_count_186 rfl 0 rfl ?_
                              refine rg6_4 hC fiX6_count_6 mbX6_count_33 dX6_count_187 ?_
                              refine rgn3_10 hC fiX6_count_3 (show kd 75 = 3 from rfl) (nwf_BaroRuns_143 hC.2.2.2) dX6_count_190 ?_
                              refine wa_iadd hC dX6_count_193 ?_
                              refine wa_aload_n hC dX6_count_194 rfl 0 rfl ?_
                              refine rg6_5 hC fiX6_count_6 mbX6_count_36 dX6_count_195 ?_
                              refine rgn3_10 hC fiX6_count_3 (show kd 84 = 3 from rfl) (nwf_BaroRuns_143 hC.2.2.2) dX6_count_198 ?_
                              refine wa_iadd hC dX6_count_201 ?_
                              exact wa_iret hC hlk hr (congrArg Prod.fst (so_inj hf)) (congrArg Prod.snd (so_inj hf)) dX6_count_202
                            · skip
                              have n5 := ti_ne c5 (a := 0) (by decide)
                              have n6 := ti_ne c6 (a := 1) (by decide)
                              have n7 := ti_ne c7 (a := 2) (by decide)
                              have n8 := ti_ne c8 (a := 3) (by decide)
                              have n9 := ti_ne c9 (a := 4) (by decide)
                              have n10 := ti_ne c10 (a := 5) (by decide)
                              have n11 := ti_ne c11 (a := 6) (by decide)
                              have n13 := ti_ne c13 (a := 7) (by decide)
                              have n15 := ti_ne c15 (a := 8) (by decide)
                              have n16 := ti_ne c16 (a := 9) (by decide)
                              have n17 := ti_ne c17 (a := 10) (by decide)
                              have n18 := ti_ne c18 (a := 11) (by decide)
                              have n19 := ti_ne c19 (a := 12) (by decide)
                              have n20 := ti_ne c20 (a := 13) (by decide)
                              refine wa_tableOut hC 203 dX6_count_5 (by omega) (by decide) ?_
                              refine wa_ldc hC mbX6_count_61 dX6_count_203 ?_
                              exact wa_iret hC hlk hr (congrArg Prod.fst (so_inj hf)) (congrArg Prod.snd (so_inj hf)) dX6_count_205
abbrev rmX6_undo : Room := { frames := 4, cells := 0, slots := 0, locals := 124 }
theorem fiX6_undo_0 : ∀ w ∈ u_ws RX0 TX0 3, w ∈ wsX6_undo := by decide +kernel
theorem fiX6_undo_6 : ∀ w ∈ u_ws RX6 TX6 9, w ∈ wsX6_undo := by decide +kernel
theorem mbX6_undo_22 : Cond.fieldLink RX6 22 "BaroRuns" "history" "LBaroRuns$History;" ∈ wsX6_undo := by decide +kernel
theorem mbX6_undo_10 : Cond.fieldLink RX6 10 "BaroRuns" "now" "LBaroRuns$State;" ∈ wsX6_undo := by decide +kernel
theorem mbX6_undo_53 : Cond.fieldLink RX6 53 "BaroRuns" "stale" "Z" ∈ wsX6_undo := by decide +kernel
theorem mbX6_undo_146 : Cond.constant RX6 146 (-2000000002) ∈ wsX6_undo := by decide +kernel
set_option maxHeartbeats 4000000 in
set_option maxRecDepth 100000 in
theorem kX6_undo (l : Launch) (G : wG)  {M0 M1 : wM} {r : Int32} (hf : fX6_undo  M0 = some (r, M1)) : mI l yX6_undo wsX6_undo rmX6_undo G [.ref (ga G (0))] M0 r M1 := by
  refine mI.of (cc := cX6_undo) (nL := 1) (ret := (some .int)) (own := RX6) (lv := [(0, .ref (ga G (0)))]) (plainFor_of_name (by decide +kernel)) rfl rfl (Nat.le_of_ble_eq_true rfl) rfl ?_
  intro p e s m args below meth c hC hr hlk
  unfold fX6_undo at hf
  refine wa_aload_n hC dX6_undo_0 rfl 0 rfl ?_
  refine rg6_2 hC fiX6_undo_6 mbX6_undo_22 dX6_undo_1 ?_
  refine rgn0_2 hC fiX6_undo_0 (show kd 19 = 0 from rfl) (nwf_BaroRuns_139 hC.2.2.2) dX6_undo_4 ?_
  refine wa_if_ne hC 13 dX6_undo_7 (by decide) (fun c1 => ?_) (fun c1 => ?_)
  · have hf := ite_f hf c1
    refine wa_aload_n hC dX6_undo_13 rfl 0 rfl ?_
    refine rg6_2 hC fiX6_undo_6 mbX6_undo_22 dX6_undo_14 ?_
    refine wa_aload_n hC dX6_undo_17 rfl 0 rfl ?_
    refine rg6_0 hC fiX6_undo_6 mbX6_undo_10 dX6_undo_18 ?_
    obtain ⟨M2, h2, hf⟩ := bd hf
    refine wa_callv (rest := []) (wr_V hC (kX0_giveBack l G (show kd 19 = 0 from rfl) (show kd 1 = 2 from rfl) h2) (cwV 1 hC.1.2.2.2.2 gX6_undo_X0_giveBack rfl rfl rfl (by decide +kernel) ⟨Nat.le_of_ble_eq_true rfl, Nat.le_of_ble_eq_true rfl⟩) (show kd 19 = 0 from rfl) (by decide) (ce0 (show kd 19 = 0 from rfl)) rfl rfl rfl rfl (Nat.le_of_ble_eq_true rfl) dX6_undo_21) ?_
    refine wa_aload_n hC dX6_undo_24 rfl 0 rfl ?_
    refine wa_iconst (v := 1) hC dX6_undo_25 (by decide) ?_
    refine rp6_8 hC fiX6_undo_6 mbX6_undo_53 rfl rfl dX6_undo_26 ?_
    refine wa_aload_n hC dX6_undo_29 rfl 0 rfl ?_
    refine rg6_2 hC fiX6_undo_6 mbX6_undo_22 dX6_undo_30 ?_
    refine rgn0_2 hC fiX6_undo_0 (show kd 19 = 0 from rfl) (nwf_BaroRuns_139 hC.2.2.2) dX6_undo_33 ?_
    exact wa_iret hC hlk hr (congrArg Prod.fst (so_inj hf)) (congrArg Prod.snd (so_inj hf)) dX6_undo_36
  · have hf := ite_t hf c1
    refine wa_ldc hC mbX6_undo_146 dX6_undo_10 ?_
    exact wa_iret hC hlk hr (congrArg Prod.fst (so_inj hf)) (congrArg Prod.snd (so_inj hf)) dX6_undo_12
abbrev rmX6_baseAt : Room := { frames := 3, cells := 0, slots := 0, locals := 77 }
theorem fiX6_baseAt_6 : ∀ w ∈ u_ws RX6 TX6 9, w ∈ wsX6_baseAt := by decide +kernel
theorem mbX6_baseAt_61 : Cond.constant RX6 61 (-2000000001) ∈ wsX6_baseAt := by decide +kernel
theorem mbX6_baseAt_10 : Cond.fieldLink RX6 10 "BaroRuns" "now" "LBaroRuns$State;" ∈ wsX6_baseAt := by decide +kernel
set_option maxHeartbeats 4000000 in
set_option maxRecDepth 100000 in
theorem kX6_baseAt (l : Launch) (G : wG) {x1 : Int32} {x2 : Int32} {M0 : wM} {r : Int32} (hf : fX6_baseAt x1 x2 M0 = some r) : mI l yX6_baseAt wsX6_baseAt rmX6_baseAt G [.ref (ga G (0)), .int (x1), .int (x2)] M0 r M0 := by
  refine mI.of (cc := cX6_baseAt) (nL := 3) (ret := (some .int)) (own := RX6) (lv := [(0, .ref (ga G (0))), (1, .int (x1)), (2, .int (x2))]) (plainFor_of_name (by decide +kernel)) rfl rfl (Nat.le_of_ble_eq_true rfl) rfl ?_
  intro p e s m args below meth c hC hr hlk
  have hJ33 : ∀ (s1 : Int32) (s2 : Int32), fX6_baseAt_J33 x1 x2 M0  s1 s2 = some r → wAt p l e rmX6_baseAt s m args below meth c (qI below args s G r M0) 3 G M0 33 [] [.int (s2), .int (s1), .ref (ga G (1))] := by
    intro  s1 s2 hf
    unfold fX6_baseAt_J33 at hf
    obtain ⟨v1, h1, hf⟩ := bd hf
    refine wa_calli (rest := []) (wr_V hC (kX2_baseValue l G (show kd 1 = 2 from rfl) h1) (cwV 2 hC.1.2.2.2.2 gX6_baseAt_X2_baseValue rfl rfl rfl (by decide +kernel) ⟨Nat.le_of_ble_eq_true rfl, Nat.le_of_ble_eq_true rfl⟩) (show kd 1 = 2 from rfl) (by decide) (ce2 (show kd 1 = 2 from rfl)) rfl rfl rfl rfl (Nat.le_of_ble_eq_true rfl) dX6_baseAt_33) ?_
    exact wa_iret hC hlk hr (so_inj hf) rfl dX6_baseAt_36
  unfold fX6_baseAt at hf
  refine wa_iload_n hC dX6_baseAt_0 rfl 1 rfl ?_
  obtain ⟨v2, h2, hf⟩ := bd hf
  refine wa_calli (rest := []) (wr_S hC (kX6_isTime l G h2) (va_cwS 1 hC.1.2.2.2.2 gX6_baseAt_X6_isTime rfl rfl rfl (by decide +kernel) ⟨Nat.le_of_ble_eq_true rfl, Nat.le_of_ble_eq_true rfl⟩) rfl rfl (Nat.le_of_ble_eq_true rfl) dX6_baseAt_1) ?_
  refine wa_if_eq hC 16 dX6_baseAt_4 (by decide) (fun c3 => ?_) (fun c3 => ?_)
  · have hf := ite_t hf c3
    refine wa_ldc hC mbX6_baseAt_61 dX6_baseAt_16 ?_
    exact wa_iret hC hlk hr (so_inj hf) rfl dX6_baseAt_18
  · have hf := ite_f hf c3
    refine wa_iload_n hC dX6_baseAt_7 rfl 2 rfl ?_
    refine wa_iconst (v := 0) hC dX6_baseAt_8 (by decide) ?_
    refine wa_iconst (v := 1) hC dX6_baseAt_9 (by decide) ?_
    obtain ⟨v4, h4, hf⟩ := bd hf
    refine wa_calli (rest := []) (wr_S hC (kX6_within l G h4) (va_cwS 3 hC.1.2.2.2.2 gX6_baseAt_X6_within rfl rfl rfl (by decide +kernel) ⟨Nat.le_of_ble_eq_true rfl, Nat.le_of_ble_eq_true rfl⟩) rfl rfl (Nat.le_of_ble_eq_true rfl) dX6_baseAt_10) ?_
    refine wa_if_ne hC 19 dX6_baseAt_13 (by decide) (fun c5 => ?_) (fun c5 => ?_)
    · have hf := ite_f hf c5
      refine wa_aload_n hC dX6_baseAt_19 rfl 0 rfl ?_
      refine rg6_0 hC fiX6_baseAt_6 mbX6_baseAt_10 dX6_baseAt_20 ?_
      refine wa_iload_n hC dX6_baseAt_23 rfl 1 rfl ?_
      refine wa_iload_n hC dX6_baseAt_24 rfl 2 rfl ?_
      refine wa_if_ne hC 32 dX6_baseAt_25 (by decide) (fun c6 => ?_) (fun c6 => ?_)
      · have hf := ite_f hf c6
        refine wa_iconst (v := 2) hC dX6_baseAt_32 (by decide) ?_
        exact wa_sub [] rfl (hJ33  _ _ hf)
      · have hf := ite_t hf c6
        refine wa_iconst (v := 1) hC dX6_baseAt_28 (by decide) ?_
        refine wa_goto hC 33 dX6_baseAt_29 (by decide) ?_
        exact wa_sub [] rfl (hJ33  _ _ hf)
    · have hf := ite_t hf c5
      refine wa_ldc hC mbX6_baseAt_61 dX6_baseAt_16 ?_
      exact wa_iret hC hlk hr (so_inj hf) rfl dX6_baseAt_18
abbrev rmX6_raw : Room := { frames := 6, cells := 0, slots := 0, locals := 155 }
theorem mbX6_raw_61 : Cond.constant RX6 61 (-2000000001) ∈ wsX6_raw := by decide +kernel
set_option maxHeartbeats 4000000 in
set_option maxRecDepth 100000 in
theorem kX6_raw (l : Launch) (G : wG) {x1 : Int32} {x2 : Int32} {M0 M1 : wM} {r : Int32} (hf : fX6_raw x1 x2 M0 = some (r, M1)) : mI l yX6_raw wsX6_raw rmX6_raw G [.ref (ga G (0)), .int (x1), .int (x2)] M0 r M1 := by
  refine mI.of (cc := cX6_raw) (nL := 3) (ret := (some .int)) (own := RX6) (lv := [(0, .ref (ga G (0))), (1, .int (x1)), (2, .int (x2))]) (plainFor_of_name (by decide +kernel)) rfl rfl (Nat.le_of_ble_eq_true rfl) rfl ?_
  intro p e s m args below meth c hC hr hlk
  unfold fX6_raw at hf
  refine wa_iload_n hC dX6_raw_0 rfl 1 rfl ?_
  obtain ⟨v1, h1, hf⟩ := bd hf
  refine wa_calli (rest := []) (wr_S hC (kX6_isCell l G h1) (va_cwS 1 hC.1.2.2.2.2 gX6_raw_X6_isCell rfl rfl rfl (by decide +kernel) ⟨Nat.le_of_ble_eq_true rfl, Nat.le_of_ble_eq_true rfl⟩) rfl rfl (Nat.le_of_ble_eq_true rfl) dX6_raw_1) ?_
  refine wa_if_eq hC 16 dX6_raw_4 (by decide) (fun c2 => ?_) (fun c2 => ?_)
  · have hf := ite_t hf c2
    refine wa_ldc hC mbX6_raw_61 dX6_raw_16 ?_
    exact wa_iret hC hlk hr (congrArg Prod.fst (so_inj hf)) (congrArg Prod.snd (so_inj hf)) dX6_raw_18
  · have hf := ite_f hf c2
    refine wa_aload_n hC dX6_raw_7 rfl 0 rfl ?_
    refine wa_iload_n hC dX6_raw_8 rfl 1 rfl ?_
    refine wa_iload_n hC dX6_raw_9 rfl 2 rfl ?_
    obtain ⟨v3, h3, hf⟩ := bd hf
    refine wa_calli (rest := []) (wr_V hC (kX6_isReadingOf l G h3) (cwV 2 hC.1.2.2.2.2 gX6_raw_X6_isReadingOf rfl rfl rfl (by decide +kernel) ⟨Nat.le_of_ble_eq_true rfl, Nat.le_of_ble_eq_true rfl⟩) (show kd 0 = 6 from rfl) (by decide) (ce6 (show kd 0 = 6 from rfl)) rfl rfl rfl rfl (Nat.le_of_ble_eq_true rfl) dX6_raw_10) ?_
    refine wa_if_ne hC 19 dX6_raw_13 (by decide) (fun c4 => ?_) (fun c4 => ?_)
    · have hf := ite_f hf c4
      refine wa_aload_n hC dX6_raw_19 rfl 0 rfl ?_
      obtain ⟨M5, h5, hf⟩ := bd hf
      refine wa_callv (rest := []) (wr_V hC (kX6_refresh l G h5) (cwV 0 hC.1.2.2.2.2 gX6_raw_X6_refresh rfl rfl rfl (by decide +kernel) ⟨Nat.le_of_ble_eq_true rfl, Nat.le_of_ble_eq_true rfl⟩) (show kd 0 = 6 from rfl) (by decide) (ce6 (show kd 0 = 6 from rfl)) rfl rfl rfl rfl (Nat.le_of_ble_eq_true rfl) dX6_raw_20) ?_
      refine wa_aload_n hC dX6_raw_23 rfl 0 rfl ?_
      refine wa_iload_n hC dX6_raw_24 rfl 1 rfl ?_
      obtain ⟨v6, h6, hf⟩ := bd hf
      refine wa_callr (rest := []) (wr_V hC (kX6_surveyOf l G h6) (cwV 1 hC.1.2.2.2.2 gX6_raw_X6_surveyOf rfl rfl rfl (by decide +kernel) ⟨Nat.le_of_ble_eq_true rfl, Nat.le_of_ble_eq_true rfl⟩) (show kd 0 = 6 from rfl) (by decide) (ce6 (show kd 0 = 6 from rfl)) rfl rfl rfl rfl (Nat.le_of_ble_eq_true rfl) dX6_raw_25) ?_
      obtain ⟨_, g7, hf⟩ := bd hf
      have g7 := gk_some g7
      refine wa_iload_n hC dX6_raw_28 rfl 2 rfl ?_
      obtain ⟨v8, h8, hf⟩ := bd hf
      refine wa_calli (rest := []) (wr_V hC (kX3_rawHeight l G g7 h8) (cwV 1 hC.1.2.2.2.2 gX6_raw_X3_rawHeight rfl rfl rfl (by decide +kernel) ⟨Nat.le_of_ble_eq_true rfl, Nat.le_of_ble_eq_true rfl⟩) g7 (by decide) (ce3 g7) rfl rfl rfl rfl (Nat.le_of_ble_eq_true rfl) dX6_raw_29) ?_
      exact wa_iret hC hlk hr (congrArg Prod.fst (so_inj hf)) (congrArg Prod.snd (so_inj hf)) dX6_raw_32
    · have hf := ite_t hf c4
      refine wa_ldc hC mbX6_raw_61 dX6_raw_16 ?_
      exact wa_iret hC hlk hr (congrArg Prod.fst (so_inj hf)) (congrArg Prod.snd (so_inj hf)) dX6_raw_18
abbrev rmX6_would : Room := { frames := 4, cells := 0, slots := 0, locals := 108 }
theorem fiX6_would_6 : ∀ w ∈ u_ws RX6 TX6 9, w ∈ wsX6_would := by decide +kernel
theorem mbX6_would_10 : Cond.fieldLink RX6 10 "BaroRuns" "now" "LBaroRuns$State;" ∈ wsX6_would := by decide +kernel
theorem mbX6_would_61 : Cond.constant RX6 61 (-2000000001) ∈ wsX6_would := by decide +kernel
set_option maxHeartbeats 4000000 in
set_option maxRecDepth 100000 in
theorem kX6_would (l : Launch) (G : wG) {x1 : Int32} {x2 : Int32} {x3 : Int32} {M0 : wM} {r : Int32} (hf : fX6_would x1 x2 x3 M0 = some r) : mI l yX6_would wsX6_would rmX6_would G [.ref (ga G (0)), .int (x1), .int (x2), .int (x3)] M0 r M0 := by
  refine mI.of (cc := cX6_would) (nL := 4) (ret := (some .int)) (own := RX6) (lv := [(0, .ref (ga G (0))), (1, .int (x1)), (2, .int (x2)), (3, .int (x3))]) (plainFor_of_name (by decide +kernel)) rfl rfl (Nat.le_of_ble_eq_true rfl) rfl ?_
  intro p e s m args below meth c hC hr hlk
  unfold fX6_would at hf
  refine wa_iload_n hC dX6_would_0 rfl 1 rfl ?_
  refine wa_iload_n hC dX6_would_1 rfl 2 rfl ?_
  refine wa_iload_n hC dX6_would_2 rfl 3 rfl ?_
  obtain ⟨v1, h1, hf⟩ := bd hf
  refine wa_calli (rest := []) (wr_S hC (kX6_isReading l G h1) (va_cwS 3 hC.1.2.2.2.2 gX6_would_X6_isReading rfl rfl rfl (by decide +kernel) ⟨Nat.le_of_ble_eq_true rfl, Nat.le_of_ble_eq_true rfl⟩) rfl rfl (Nat.le_of_ble_eq_true rfl) dX6_would_3) ?_
  refine wa_if_ne hC 12 dX6_would_6 (by decide) (fun c2 => ?_) (fun c2 => ?_)
  · have hf := ite_f hf c2
    refine wa_aload_n hC dX6_would_12 rfl 0 rfl ?_
    refine rg6_0 hC fiX6_would_6 mbX6_would_10 dX6_would_13 ?_
    refine wa_iload_n hC dX6_would_16 rfl 1 rfl ?_
    refine wa_iload_n hC dX6_would_17 rfl 2 rfl ?_
    refine wa_iload_n hC dX6_would_18 rfl 3 rfl ?_
    obtain ⟨v3, h3, hf⟩ := bd hf
    refine wa_calli (rest := []) (wr_V hC (kX2_heightAt l G (show kd 1 = 2 from rfl) h3) (cwV 3 hC.1.2.2.2.2 gX6_would_X2_heightAt rfl rfl rfl (by decide +kernel) ⟨Nat.le_of_ble_eq_true rfl, Nat.le_of_ble_eq_true rfl⟩) (show kd 1 = 2 from rfl) (by decide) (ce2 (show kd 1 = 2 from rfl)) rfl rfl rfl rfl (Nat.le_of_ble_eq_true rfl) dX6_would_19) ?_
    exact wa_iret hC hlk hr (so_inj hf) rfl dX6_would_22
  · have hf := ite_t hf c2
    refine wa_ldc hC mbX6_would_61 dX6_would_9 ?_
    exact wa_iret hC hlk hr (so_inj hf) rfl dX6_would_11
abbrev rmX6_loops : Room := { frames := 6, cells := 0, slots := 0, locals := 155 }
theorem fiX6_loops_3 : ∀ w ∈ u_ws RX3 TX3 12, w ∈ wsX6_loops := by decide +kernel
theorem mbX6_loops_61 : Cond.constant RX6 61 (-2000000001) ∈ wsX6_loops := by decide +kernel
set_option maxHeartbeats 4000000 in
set_option maxRecDepth 100000 in
theorem kX6_loops (l : Launch) (G : wG) {x1 : Int32} {M0 M1 : wM} {r : Int32} (hf : fX6_loops x1 M0 = some (r, M1)) : mI l yX6_loops wsX6_loops rmX6_loops G [.ref (ga G (0)), .int (x1)] M0 r M1 := by
  refine mI.of (cc := cX6_loops) (nL := 2) (ret := (some .int)) (own := RX6) (lv := [(0, .ref (ga G (0))), (1, .int (x1))]) (plainFor_of_name (by decide +kernel)) rfl rfl (Nat.le_of_ble_eq_true rfl) rfl ?_
  intro p e s m args below meth c hC hr hlk
  unfold fX6_loops at hf
  refine wa_iload_n hC dX6_loops_0 rfl 1 rfl ?_
  obtain ⟨v1, h1, hf⟩ := bd hf
  refine wa_calli (rest := []) (wr_S hC (kX6_isCell l G h1) (va_cwS 1 hC.1.2.2.2.2 gX6_loops_X6_isCell rfl rfl rfl (by decide +kernel) ⟨Nat.le_of_ble_eq_true rfl, Nat.le_of_ble_eq_true rfl⟩) rfl rfl (Nat.le_of_ble_eq_true rfl) dX6_loops_1) ?_
  refine wa_if_ne hC 10 dX6_loops_4 (by decide) (fun c2 => ?_) (fun c2 => ?_)
  · have hf := ite_f hf c2
    refine wa_aload_n hC dX6_loops_10 rfl 0 rfl ?_
    obtain ⟨M3, h3, hf⟩ := bd hf
    refine wa_callv (rest := []) (wr_V hC (kX6_refresh l G h3) (cwV 0 hC.1.2.2.2.2 gX6_loops_X6_refresh rfl rfl rfl (by decide +kernel) ⟨Nat.le_of_ble_eq_true rfl, Nat.le_of_ble_eq_true rfl⟩) (show kd 0 = 6 from rfl) (by decide) (ce6 (show kd 0 = 6 from rfl)) rfl rfl rfl rfl (Nat.le_of_ble_eq_true rfl) dX6_loops_11) ?_
    refine wa_aload_n hC dX6_loops_14 rfl 0 rfl ?_
    refine wa_iload_n hC dX6_loops_15 rfl 1 rfl ?_
    obtain ⟨v4, h4, hf⟩ := bd hf
    refine wa_callr (rest := []) (wr_V hC (kX6_surveyOf l G h4) (cwV 1 hC.1.2.2.2.2 gX6_loops_X6_surveyOf rfl rfl rfl (by decide +kernel) ⟨Nat.le_of_ble_eq_true rfl, Nat.le_of_ble_eq_true rfl⟩) (show kd 0 = 6 from rfl) (by decide) (ce6 (show kd 0 = 6 from rfl)) rfl rfl rfl rfl (Nat.le_of_ble_eq_true rfl) dX6_loops_16) ?_
    obtain ⟨_, g5, hf⟩ := bd hf
    have g5 := gk_some g5
    refine rgn3_11 hC fiX6_loops_3 g5 (nwf_BaroRuns_129 hC.2.2.2) dX6_loops_19 ?_
    exact wa_iret hC hlk hr (congrArg Prod.fst (so_inj hf)) (congrArg Prod.snd (so_inj hf)) dX6_loops_22
  · have hf := ite_t hf c2
    refine wa_ldc hC mbX6_loops_61 dX6_loops_7 ?_
    exact wa_iret hC hlk hr (congrArg Prod.fst (so_inj hf)) (congrArg Prod.snd (so_inj hf)) dX6_loops_9
abbrev rmX6_loop : Room := { frames := 6, cells := 0, slots := 0, locals := 155 }
theorem fiX6_loop_3 : ∀ w ∈ u_ws RX3 TX3 12, w ∈ wsX6_loop := by decide +kernel
theorem mbX6_loop_61 : Cond.constant RX6 61 (-2000000001) ∈ wsX6_loop := by decide +kernel
set_option maxHeartbeats 4000000 in
set_option maxRecDepth 100000 in
theorem kX6_loop (l : Launch) (G : wG) {x1 : Int32} {x2 : Int32} {x3 : Int32} {M0 M1 : wM} {r : Int32} (hf : fX6_loop x1 x2 x3 M0 = some (r, M1)) : mI l yX6_loop wsX6_loop rmX6_loop G [.ref (ga G (0)), .int (x1), .int (x2), .int (x3)] M0 r M1 := by
  refine mI.of (cc := cX6_loop) (nL := 5) (ret := (some .int)) (own := RX6) (lv := [(0, .ref (ga G (0))), (1, .int (x1)), (2, .int (x2)), (3, .int (x3))]) (plainFor_of_name (by decide +kernel)) rfl rfl (Nat.le_of_ble_eq_true rfl) rfl ?_
  intro p e s m args below meth c hC hr hlk
  unfold fX6_loop at hf
  refine wa_iload_n hC dX6_loop_0 rfl 1 rfl ?_
  obtain ⟨v1, h1, hf⟩ := bd hf
  refine wa_calli (rest := []) (wr_S hC (kX6_isCell l G h1) (va_cwS 1 hC.1.2.2.2.2 gX6_loop_X6_isCell rfl rfl rfl (by decide +kernel) ⟨Nat.le_of_ble_eq_true rfl, Nat.le_of_ble_eq_true rfl⟩) rfl rfl (Nat.le_of_ble_eq_true rfl) dX6_loop_1) ?_
  refine wa_if_ne hC 10 dX6_loop_4 (by decide) (fun c2 => ?_) (fun c2 => ?_)
  · have hf := ite_f hf c2
    refine wa_aload_n hC dX6_loop_10 rfl 0 rfl ?_
    obtain ⟨M3, h3, hf⟩ := bd hf
    refine wa_callv (rest := []) (wr_V hC (kX6_refresh l G h3) (cwV 0 hC.1.2.2.2.2 gX6_loop_X6_refresh rfl rfl rfl (by decide +kernel) ⟨Nat.le_of_ble_eq_true rfl, Nat.le_of_ble_eq_true rfl⟩) (show kd 0 = 6 from rfl) (by decide) (ce6 (show kd 0 = 6 from rfl)) rfl rfl rfl rfl (Nat.le_of_ble_eq_true rfl) dX6_loop_11) ?_
    refine wa_aload_n hC dX6_loop_14 rfl 0 rfl ?_
    refine wa_iload_n hC dX6_loop_15 rfl 1 rfl ?_
    obtain ⟨v4, h4, hf⟩ := bd hf
    refine wa_callr (rest := []) (wr_V hC (kX6_surveyOf l G h4) (cwV 1 hC.1.2.2.2.2 gX6_loop_X6_surveyOf rfl rfl rfl (by decide +kernel) ⟨Nat.le_of_ble_eq_true rfl, Nat.le_of_ble_eq_true rfl⟩) (show kd 0 = 6 from rfl) (by decide) (ce6 (show kd 0 = 6 from rfl)) rfl rfl rfl rfl (Nat.le_of_ble_eq_true rfl) dX6_loop_16) ?_
    obtain ⟨_, g5, hf⟩ := bd hf
    have g5 := gk_some g5
    refine wa_astore (lv' := [(4, .ref _), (0, .ref _), (1, .int _), (2, .int _), (3, .int _)]) hC dX6_loop_19 (by decide) rfl ?_
    refine wa_iload_n hC dX6_loop_21 rfl 3 rfl ?_
    refine wa_iconst (v := 0) hC dX6_loop_22 (by decide) ?_
    refine wa_aload hC dX6_loop_23 0 rfl ?_
    refine rgn3_11 hC fiX6_loop_3 g5 (nwf_BaroRuns_129 hC.2.2.2) dX6_loop_25 ?_
    refine wa_iconst (v := 1) hC dX6_loop_28 (by decide) ?_
    refine wa_isub hC dX6_loop_29 ?_
    obtain ⟨v6, h6, hf⟩ := bd hf
    refine wa_calli (rest := []) (wr_S hC (kX6_within l G h6) (va_cwS 3 hC.1.2.2.2.2 gX6_loop_X6_within rfl rfl rfl (by decide +kernel) ⟨Nat.le_of_ble_eq_true rfl, Nat.le_of_ble_eq_true rfl⟩) rfl rfl (Nat.le_of_ble_eq_true rfl) dX6_loop_30) ?_
    refine wa_if_ne hC 39 dX6_loop_33 (by decide) (fun c7 => ?_) (fun c7 => ?_)
    · have hf := ite_f hf c7
      refine wa_iload_n hC dX6_loop_39 rfl 4 rfl ?_
      refine ite_e hf (fun c8 hf => ?_) (fun c8 hf => ?_)
      · skip
        refine wa_tableIn (off := 36) hC 76 dX6_loop_40 (by rw [c8]; decide) (by rw [c8]; decide) (by rw [c8] <;> decide) (by decide) ?_
        refine wa_aload hC dX6_loop_76 0 rfl ?_
        refine wa_iload_n hC dX6_loop_78 rfl 3 rfl ?_
        obtain ⟨v9, h9, hf⟩ := bd hf
        refine wa_calli (rest := []) (wr_V hC (kX3_begin l G g5 h9) (cwV 1 hC.1.2.2.2.2 gX6_loop_X3_begin rfl rfl rfl (by decide +kernel) ⟨Nat.le_of_ble_eq_true rfl, Nat.le_of_ble_eq_true rfl⟩) g5 (by decide) (ce3 g5) rfl rfl rfl rfl (Nat.le_of_ble_eq_true rfl) dX6_loop_79) ?_
        exact wa_iret hC hlk hr (congrArg Prod.fst (so_inj hf)) (congrArg Prod.snd (so_inj hf)) dX6_loop_82
      · skip
        refine ite_e hf (fun c10 hf => ?_) (fun c10 hf => ?_)
        · skip
          refine wa_tableIn (off := 43) hC 83 dX6_loop_40 (by rw [c10]; decide) (by rw [c10]; decide) (by rw [c10] <;> decide) (by decide) ?_
          refine wa_aload hC dX6_loop_83 0 rfl ?_
          refine wa_iload_n hC dX6_loop_85 rfl 3 rfl ?_
          obtain ⟨v11, h11, hf⟩ := bd hf
          refine wa_calli (rest := []) (wr_V hC (kX3_end l G g5 h11) (cwV 1 hC.1.2.2.2.2 gX6_loop_X3_end rfl rfl rfl (by decide +kernel) ⟨Nat.le_of_ble_eq_true rfl, Nat.le_of_ble_eq_true rfl⟩) g5 (by decide) (ce3 g5) rfl rfl rfl rfl (Nat.le_of_ble_eq_true rfl) dX6_loop_86) ?_
          exact wa_iret hC hlk hr (congrArg Prod.fst (so_inj hf)) (congrArg Prod.snd (so_inj hf)) dX6_loop_89
        · skip
          refine ite_e hf (fun c12 hf => ?_) (fun c12 hf => ?_)
          · skip
            refine wa_tableIn (off := 50) hC 90 dX6_loop_40 (by rw [c12]; decide) (by rw [c12]; decide) (by rw [c12] <;> decide) (by decide) ?_
            refine wa_aload hC dX6_loop_90 0 rfl ?_
            refine wa_iload_n hC dX6_loop_92 rfl 3 rfl ?_
            obtain ⟨v13, h13, hf⟩ := bd hf
            refine wa_calli (rest := []) (wr_V hC (kX3_misclosure l G g5 h13) (cwV 1 hC.1.2.2.2.2 gX6_loop_X3_misclosure rfl rfl rfl (by decide +kernel) ⟨Nat.le_of_ble_eq_true rfl, Nat.le_of_ble_eq_true rfl⟩) g5 (by decide) (ce3 g5) rfl rfl rfl rfl (Nat.le_of_ble_eq_true rfl) dX6_loop_93) ?_
            exact wa_iret hC hlk hr (congrArg Prod.fst (so_inj hf)) (congrArg Prod.snd (so_inj hf)) dX6_loop_96
          · skip
            refine ite_e hf (fun c14 hf => ?_) (fun c14 hf => ?_)
            · skip
              refine wa_tableIn (off := 57) hC 97 dX6_loop_40 (by rw [c14]; decide) (by rw [c14]; decide) (by rw [c14] <;> decide) (by decide) ?_
              refine wa_aload hC dX6_loop_97 0 rfl ?_
              refine wa_iload_n hC dX6_loop_99 rfl 3 rfl ?_
              obtain ⟨v15, h15, hf⟩ := bd hf
              refine wa_calli (rest := []) (wr_V hC (kX3_misclosureBySteps l G g5 h15) (cwV 1 hC.1.2.2.2.2 gX6_loop_X3_misclosureBySteps rfl rfl rfl (by decide +kernel) ⟨Nat.le_of_ble_eq_true rfl, Nat.le_of_ble_eq_true rfl⟩) g5 (by decide) (ce3 g5) rfl rfl rfl rfl (Nat.le_of_ble_eq_true rfl) dX6_loop_100) ?_
              exact wa_iret hC hlk hr (congrArg Prod.fst (so_inj hf)) (congrArg Prod.snd (so_inj hf)) dX6_loop_103
            · skip
              refine ite_e hf (fun c16 hf => ?_) (fun c16 hf => ?_)
              · skip
                refine wa_tableIn (off := 64) hC 104 dX6_loop_40 (by rw [c16]; decide) (by rw [c16]; decide) (by rw [c16] <;> decide) (by decide) ?_
                refine wa_aload hC dX6_loop_104 0 rfl ?_
                refine wa_iload_n hC dX6_loop_106 rfl 3 rfl ?_
                obtain ⟨v17, h17, hf⟩ := bd hf
                refine wa_calli (rest := []) (wr_V hC (kX3_minutes l G g5 h17) (cwV 1 hC.1.2.2.2.2 gX6_loop_X3_minutes rfl rfl rfl (by decide +kernel) ⟨Nat.le_of_ble_eq_true rfl, Nat.le_of_ble_eq_true rfl⟩) g5 (by decide) (ce3 g5) rfl rfl rfl rfl (Nat.le_of_ble_eq_true rfl) dX6_loop_107) ?_
                exact wa_iret hC hlk hr (congrArg Prod.fst (so_inj hf)) (congrArg Prod.snd (so_inj hf)) dX6_loop_110
              · skip
                have n8 := ti_ne c8 (a := 0) (by decide)
                have n10 := ti_ne c10 (a := 1) (by decide)
                have n12 := ti_ne c12 (a := 2) (by decide)
                have n14 := ti_ne c14 (a := 3) (by decide)
                have n16 := ti_ne c16 (a := 4) (by decide)
                refine wa_tableOut hC 111 dX6_loop_40 (by omega) (by decide) ?_
                refine wa_ldc hC mbX6_loop_61 dX6_loop_111 ?_
                exact wa_iret hC hlk hr (congrArg Prod.fst (so_inj hf)) (congrArg Prod.snd (so_inj hf)) dX6_loop_113
    · have hf := ite_t hf c7
      refine wa_ldc hC mbX6_loop_61 dX6_loop_36 ?_
      exact wa_iret hC hlk hr (congrArg Prod.fst (so_inj hf)) (congrArg Prod.snd (so_inj hf)) dX6_loop_38
  · have hf := ite_t hf c2
    refine wa_ldc hC mbX6_loop_61 dX6_loop_7 ?_
    exact wa_iret hC hlk hr (congrArg Prod.fst (so_inj hf)) (congrArg Prod.snd (so_inj hf)) dX6_loop_9
abbrev rmX6_openLoop : Room := { frames := 6, cells := 0, slots := 0, locals := 155 }
theorem mbX6_openLoop_61 : Cond.constant RX6 61 (-2000000001) ∈ wsX6_openLoop := by decide +kernel
theorem mbX6_openLoop_108 : Cond.constant RX6 108 (-2000000004) ∈ wsX6_openLoop := by decide +kernel
set_option maxHeartbeats 4000000 in
set_option maxRecDepth 100000 in
theorem kX6_openLoop (l : Launch) (G : wG) {x1 : Int32} {x2 : Int32} {M0 M1 : wM} {r : Int32} (hf : fX6_openLoop x1 x2 M0 = some (r, M1)) : mI l yX6_openLoop wsX6_openLoop rmX6_openLoop G [.ref (ga G (0)), .int (x1), .int (x2)] M0 r M1 := by
  refine mI.of (cc := cX6_openLoop) (nL := 4) (ret := (some .int)) (own := RX6) (lv := [(0, .ref (ga G (0))), (1, .int (x1)), (2, .int (x2))]) (plainFor_of_name (by decide +kernel)) rfl rfl (Nat.le_of_ble_eq_true rfl) rfl ?_
  intro p e s m args below meth c hC hr hlk
  unfold fX6_openLoop at hf
  refine wa_iload_n hC dX6_openLoop_0 rfl 1 rfl ?_
  obtain ⟨v1, h1, hf⟩ := bd hf
  refine wa_calli (rest := []) (wr_S hC (kX6_isCell l G h1) (va_cwS 1 hC.1.2.2.2.2 gX6_openLoop_X6_isCell rfl rfl rfl (by decide +kernel) ⟨Nat.le_of_ble_eq_true rfl, Nat.le_of_ble_eq_true rfl⟩) rfl rfl (Nat.le_of_ble_eq_true rfl) dX6_openLoop_1) ?_
  refine wa_if_eq hC 16 dX6_openLoop_4 (by decide) (fun c2 => ?_) (fun c2 => ?_)
  · have hf := ite_t hf c2
    refine wa_ldc hC mbX6_openLoop_61 dX6_openLoop_16 ?_
    exact wa_iret hC hlk hr (congrArg Prod.fst (so_inj hf)) (congrArg Prod.snd (so_inj hf)) dX6_openLoop_18
  · have hf := ite_f hf c2
    refine wa_aload_n hC dX6_openLoop_7 rfl 0 rfl ?_
    refine wa_iload_n hC dX6_openLoop_8 rfl 1 rfl ?_
    refine wa_iload_n hC dX6_openLoop_9 rfl 2 rfl ?_
    obtain ⟨v3, h3, hf⟩ := bd hf
    refine wa_calli (rest := []) (wr_V hC (kX6_isReadingOf l G h3) (cwV 2 hC.1.2.2.2.2 gX6_openLoop_X6_isReadingOf rfl rfl rfl (by decide +kernel) ⟨Nat.le_of_ble_eq_true rfl, Nat.le_of_ble_eq_true rfl⟩) (show kd 0 = 6 from rfl) (by decide) (ce6 (show kd 0 = 6 from rfl)) rfl rfl rfl rfl (Nat.le_of_ble_eq_true rfl) dX6_openLoop_10) ?_
    refine wa_if_ne hC 19 dX6_openLoop_13 (by decide) (fun c4 => ?_) (fun c4 => ?_)
    · have hf := ite_f hf c4
      refine wa_aload_n hC dX6_openLoop_19 rfl 0 rfl ?_
      obtain ⟨M5, h5, hf⟩ := bd hf
      refine wa_callv (rest := []) (wr_V hC (kX6_refresh l G h5) (cwV 0 hC.1.2.2.2.2 gX6_openLoop_X6_refresh rfl rfl rfl (by decide +kernel) ⟨Nat.le_of_ble_eq_true rfl, Nat.le_of_ble_eq_true rfl⟩) (show kd 0 = 6 from rfl) (by decide) (ce6 (show kd 0 = 6 from rfl)) rfl rfl rfl rfl (Nat.le_of_ble_eq_true rfl) dX6_openLoop_20) ?_
      refine wa_aload_n hC dX6_openLoop_23 rfl 0 rfl ?_
      refine wa_iload_n hC dX6_openLoop_24 rfl 1 rfl ?_
      obtain ⟨v6, h6, hf⟩ := bd hf
      refine wa_callr (rest := []) (wr_V hC (kX6_surveyOf l G h6) (cwV 1 hC.1.2.2.2.2 gX6_openLoop_X6_surveyOf rfl rfl rfl (by decide +kernel) ⟨Nat.le_of_ble_eq_true rfl, Nat.le_of_ble_eq_true rfl⟩) (show kd 0 = 6 from rfl) (by decide) (ce6 (show kd 0 = 6 from rfl)) rfl rfl rfl rfl (Nat.le_of_ble_eq_true rfl) dX6_openLoop_25) ?_
      obtain ⟨_, g7, hf⟩ := bd hf
      have g7 := gk_some g7
      refine wa_iload_n hC dX6_openLoop_28 rfl 2 rfl ?_
      obtain ⟨v8, h8, hf⟩ := bd hf
      refine wa_calli (rest := []) (wr_V hC (kX3_openLoopOf l G g7 h8) (cwV 1 hC.1.2.2.2.2 gX6_openLoop_X3_openLoopOf rfl rfl rfl (by decide +kernel) ⟨Nat.le_of_ble_eq_true rfl, Nat.le_of_ble_eq_true rfl⟩) g7 (by decide) (ce3 g7) rfl rfl rfl rfl (Nat.le_of_ble_eq_true rfl) dX6_openLoop_29) ?_
      refine wa_istore_n (lv' := [(3, .int _), (0, .ref _), (1, .int _), (2, .int _)]) hC dX6_openLoop_32 rfl (by decide) rfl ?_
      refine wa_iload_n hC dX6_openLoop_33 rfl 0 rfl ?_
      refine wa_iconst (v := -1) hC dX6_openLoop_34 (by decide) ?_
      refine wa_icmp_ne hC 43 dX6_openLoop_35 (by decide) (fun c9 => ?_) (fun c9 => ?_)
      · have hf := ite_f hf c9
        refine wa_iload_n hC dX6_openLoop_43 rfl 0 rfl ?_
        exact wa_iret hC hlk hr (congrArg Prod.fst (so_inj hf)) (congrArg Prod.snd (so_inj hf)) dX6_openLoop_44
      · have hf := ite_t hf c9
        refine wa_ldc hC mbX6_openLoop_108 dX6_openLoop_38 ?_
        refine wa_goto hC 44 dX6_openLoop_40 (by decide) ?_
        exact wa_iret hC hlk hr (congrArg Prod.fst (so_inj hf)) (congrArg Prod.snd (so_inj hf)) dX6_openLoop_44
    · have hf := ite_t hf c4
      refine wa_ldc hC mbX6_openLoop_61 dX6_openLoop_16 ?_
      exact wa_iret hC hlk hr (congrArg Prod.fst (so_inj hf)) (congrArg Prod.snd (so_inj hf)) dX6_openLoop_18
abbrev rmX6_corrected : Room := { frames := 6, cells := 0, slots := 0, locals := 155 }
theorem mbX6_corrected_61 : Cond.constant RX6 61 (-2000000001) ∈ wsX6_corrected := by decide +kernel
set_option maxHeartbeats 4000000 in
set_option maxRecDepth 100000 in
theorem kX6_corrected (l : Launch) (G : wG) {x1 : Int32} {x2 : Int32} {M0 M1 : wM} {r : Int32} (hf : fX6_corrected x1 x2 M0 = some (r, M1)) : mI l yX6_corrected wsX6_corrected rmX6_corrected G [.ref (ga G (0)), .int (x1), .int (x2)] M0 r M1 := by
  refine mI.of (cc := cX6_corrected) (nL := 3) (ret := (some .int)) (own := RX6) (lv := [(0, .ref (ga G (0))), (1, .int (x1)), (2, .int (x2))]) (plainFor_of_name (by decide +kernel)) rfl rfl (Nat.le_of_ble_eq_true rfl) rfl ?_
  intro p e s m args below meth c hC hr hlk
  unfold fX6_corrected at hf
  refine wa_iload_n hC dX6_corrected_0 rfl 1 rfl ?_
  obtain ⟨v1, h1, hf⟩ := bd hf
  refine wa_calli (rest := []) (wr_S hC (kX6_isCell l G h1) (va_cwS 1 hC.1.2.2.2.2 gX6_corrected_X6_isCell rfl rfl rfl (by decide +kernel) ⟨Nat.le_of_ble_eq_true rfl, Nat.le_of_ble_eq_true rfl⟩) rfl rfl (Nat.le_of_ble_eq_true rfl) dX6_corrected_1) ?_
  refine wa_if_eq hC 16 dX6_corrected_4 (by decide) (fun c2 => ?_) (fun c2 => ?_)
  · have hf := ite_t hf c2
    refine wa_ldc hC mbX6_corrected_61 dX6_corrected_16 ?_
    exact wa_iret hC hlk hr (congrArg Prod.fst (so_inj hf)) (congrArg Prod.snd (so_inj hf)) dX6_corrected_18
  · have hf := ite_f hf c2
    refine wa_aload_n hC dX6_corrected_7 rfl 0 rfl ?_
    refine wa_iload_n hC dX6_corrected_8 rfl 1 rfl ?_
    refine wa_iload_n hC dX6_corrected_9 rfl 2 rfl ?_
    obtain ⟨v3, h3, hf⟩ := bd hf
    refine wa_calli (rest := []) (wr_V hC (kX6_isReadingOf l G h3) (cwV 2 hC.1.2.2.2.2 gX6_corrected_X6_isReadingOf rfl rfl rfl (by decide +kernel) ⟨Nat.le_of_ble_eq_true rfl, Nat.le_of_ble_eq_true rfl⟩) (show kd 0 = 6 from rfl) (by decide) (ce6 (show kd 0 = 6 from rfl)) rfl rfl rfl rfl (Nat.le_of_ble_eq_true rfl) dX6_corrected_10) ?_
    refine wa_if_ne hC 19 dX6_corrected_13 (by decide) (fun c4 => ?_) (fun c4 => ?_)
    · have hf := ite_f hf c4
      refine wa_aload_n hC dX6_corrected_19 rfl 0 rfl ?_
      obtain ⟨M5, h5, hf⟩ := bd hf
      refine wa_callv (rest := []) (wr_V hC (kX6_refresh l G h5) (cwV 0 hC.1.2.2.2.2 gX6_corrected_X6_refresh rfl rfl rfl (by decide +kernel) ⟨Nat.le_of_ble_eq_true rfl, Nat.le_of_ble_eq_true rfl⟩) (show kd 0 = 6 from rfl) (by decide) (ce6 (show kd 0 = 6 from rfl)) rfl rfl rfl rfl (Nat.le_of_ble_eq_true rfl) dX6_corrected_20) ?_
      refine wa_aload_n hC dX6_corrected_23 rfl 0 rfl ?_
      refine wa_iload_n hC dX6_corrected_24 rfl 1 rfl ?_
      obtain ⟨v6, h6, hf⟩ := bd hf
      refine wa_callr (rest := []) (wr_V hC (kX6_surveyOf l G h6) (cwV 1 hC.1.2.2.2.2 gX6_corrected_X6_surveyOf rfl rfl rfl (by decide +kernel) ⟨Nat.le_of_ble_eq_true rfl, Nat.le_of_ble_eq_true rfl⟩) (show kd 0 = 6 from rfl) (by decide) (ce6 (show kd 0 = 6 from rfl)) rfl rfl rfl rfl (Nat.le_of_ble_eq_true rfl) dX6_corrected_25) ?_
      obtain ⟨_, g7, hf⟩ := bd hf
      have g7 := gk_some g7
      refine wa_iload_n hC dX6_corrected_28 rfl 2 rfl ?_
      obtain ⟨v8, h8, hf⟩ := bd hf
      refine wa_calli (rest := []) (wr_V hC (kX3_correctedHeight l G g7 h8) (cwV 1 hC.1.2.2.2.2 gX6_corrected_X3_correctedHeight rfl rfl rfl (by decide +kernel) ⟨Nat.le_of_ble_eq_true rfl, Nat.le_of_ble_eq_true rfl⟩) g7 (by decide) (ce3 g7) rfl rfl rfl rfl (Nat.le_of_ble_eq_true rfl) dX6_corrected_29) ?_
      exact wa_iret hC hlk hr (congrArg Prod.fst (so_inj hf)) (congrArg Prod.snd (so_inj hf)) dX6_corrected_32
    · have hf := ite_t hf c4
      refine wa_ldc hC mbX6_corrected_61 dX6_corrected_16 ?_
      exact wa_iret hC hlk hr (congrArg Prod.fst (so_inj hf)) (congrArg Prod.snd (so_inj hf)) dX6_corrected_18
abbrev rmX6_point : Room := { frames := 6, cells := 0, slots := 0, locals := 155 }
theorem fiX6_point_1 : ∀ w ∈ u_ws RX1 TX1 4, w ∈ wsX6_point := by decide +kernel
theorem fiX6_point_6 : ∀ w ∈ u_ws RX6 TX6 9, w ∈ wsX6_point := by decide +kernel
theorem mbX6_point_61 : Cond.constant RX6 61 (-2000000001) ∈ wsX6_point := by decide +kernel
theorem mbX6_point_42 : Cond.fieldLink RX6 42 "BaroRuns" "pointSum" "LBaroRuns$PointSum;" ∈ wsX6_point := by decide +kernel
theorem mbX6_point_108 : Cond.constant RX6 108 (-2000000004) ∈ wsX6_point := by decide +kernel
set_option maxHeartbeats 4000000 in
set_option maxRecDepth 100000 in
theorem kX6_point (l : Launch) (G : wG) {x1 : Int32} {x2 : Int32} {M0 M1 : wM} {r : Int32} (hf : fX6_point x1 x2 M0 = some (r, M1)) : mI l yX6_point wsX6_point rmX6_point G [.ref (ga G (0)), .int (x1), .int (x2)] M0 r M1 := by
  refine mI.of (cc := cX6_point) (nL := 3) (ret := (some .int)) (own := RX6) (lv := [(0, .ref (ga G (0))), (1, .int (x1)), (2, .int (x2))]) (plainFor_of_name (by decide +kernel)) rfl rfl (Nat.le_of_ble_eq_true rfl) rfl ?_
  intro p e s m args below meth c hC hr hlk
  unfold fX6_point at hf
  refine wa_iload_n hC dX6_point_0 rfl 1 rfl ?_
  obtain ⟨v1, h1, hf⟩ := bd hf
  refine wa_calli (rest := []) (wr_S hC (kX6_isPoint l G h1) (va_cwS 1 hC.1.2.2.2.2 gX6_point_X6_isPoint rfl rfl rfl (by decide +kernel) ⟨Nat.le_of_ble_eq_true rfl, Nat.le_of_ble_eq_true rfl⟩) rfl rfl (Nat.le_of_ble_eq_true rfl) dX6_point_1) ?_
  refine wa_if_eq hC 16 dX6_point_4 (by decide) (fun c2 => ?_) (fun c2 => ?_)
  · have hf := ite_t hf c2
    refine wa_ldc hC mbX6_point_61 dX6_point_16 ?_
    exact wa_iret hC hlk hr (congrArg Prod.fst (so_inj hf)) (congrArg Prod.snd (so_inj hf)) dX6_point_18
  · have hf := ite_f hf c2
    refine wa_iload_n hC dX6_point_7 rfl 2 rfl ?_
    refine wa_iconst (v := 0) hC dX6_point_8 (by decide) ?_
    refine wa_iconst (v := 2) hC dX6_point_9 (by decide) ?_
    obtain ⟨v3, h3, hf⟩ := bd hf
    refine wa_calli (rest := []) (wr_S hC (kX6_within l G h3) (va_cwS 3 hC.1.2.2.2.2 gX6_point_X6_within rfl rfl rfl (by decide +kernel) ⟨Nat.le_of_ble_eq_true rfl, Nat.le_of_ble_eq_true rfl⟩) rfl rfl (Nat.le_of_ble_eq_true rfl) dX6_point_10) ?_
    refine wa_if_ne hC 19 dX6_point_13 (by decide) (fun c4 => ?_) (fun c4 => ?_)
    · have hf := ite_f hf c4
      refine wa_aload_n hC dX6_point_19 rfl 0 rfl ?_
      obtain ⟨M5, h5, hf⟩ := bd hf
      refine wa_callv (rest := []) (wr_V hC (kX6_refresh l G h5) (cwV 0 hC.1.2.2.2.2 gX6_point_X6_refresh rfl rfl rfl (by decide +kernel) ⟨Nat.le_of_ble_eq_true rfl, Nat.le_of_ble_eq_true rfl⟩) (show kd 0 = 6 from rfl) (by decide) (ce6 (show kd 0 = 6 from rfl)) rfl rfl rfl rfl (Nat.le_of_ble_eq_true rfl) dX6_point_20) ?_
      refine wa_aload_n hC dX6_point_23 rfl 0 rfl ?_
      refine wa_iload_n hC dX6_point_24 rfl 1 rfl ?_
      obtain ⟨M6, h6, hf⟩ := bd hf
      refine wa_callv (rest := []) (wr_V hC (kX6_gather l G h6) (cwV 1 hC.1.2.2.2.2 gX6_point_X6_gather rfl rfl rfl (by decide +kernel) ⟨Nat.le_of_ble_eq_true rfl, Nat.le_of_ble_eq_true rfl⟩) (show kd 0 = 6 from rfl) (by decide) (ce6 (show kd 0 = 6 from rfl)) rfl rfl rfl rfl (Nat.le_of_ble_eq_true rfl) dX6_point_25) ?_
      refine wa_iload_n hC dX6_point_28 rfl 2 rfl ?_
      refine wa_iconst (v := 2) hC dX6_point_29 (by decide) ?_
      refine wa_icmp_ne hC 41 dX6_point_30 (by decide) (fun c7 => ?_) (fun c7 => ?_)
      · have hf := ite_f hf c7
        refine wa_aload_n hC dX6_point_41 rfl 0 rfl ?_
        refine rg6_6 hC fiX6_point_6 mbX6_point_42 dX6_point_42 ?_
        refine rgn1_1 hC fiX6_point_1 (show kd 93 = 1 from rfl) (nwf_BaroRuns_200 hC.2.2.2) dX6_point_45 ?_
        refine wa_if_ne hC 54 dX6_point_48 (by decide) (fun c8 => ?_) (fun c8 => ?_)
        · have hf := ite_f hf c8
          refine wa_iload_n hC dX6_point_54 rfl 2 rfl ?_
          refine wa_if_ne hC 68 dX6_point_55 (by decide) (fun c9 => ?_) (fun c9 => ?_)
          · have hf := ite_f hf c9
            refine wa_aload_n hC dX6_point_68 rfl 0 rfl ?_
            refine rg6_6 hC fiX6_point_6 mbX6_point_42 dX6_point_69 ?_
            obtain ⟨v10, h10, hf⟩ := bd hf
            refine wa_calli (rest := []) (wr_V hC (kX1_spread l G (show kd 93 = 1 from rfl) h10) (cwV 0 hC.1.2.2.2.2 gX6_point_X1_spread rfl rfl rfl (by decide +kernel) ⟨Nat.le_of_ble_eq_true rfl, Nat.le_of_ble_eq_true rfl⟩) (show kd 93 = 1 from rfl) (by decide) (ce1 (show kd 93 = 1 from rfl)) rfl rfl rfl rfl (Nat.le_of_ble_eq_true rfl) dX6_point_72) ?_
            exact wa_iret hC hlk hr (congrArg Prod.fst (so_inj hf)) (congrArg Prod.snd (so_inj hf)) dX6_point_75
          · have hf := ite_t hf c9
            refine wa_aload_n hC dX6_point_58 rfl 0 rfl ?_
            refine rg6_6 hC fiX6_point_6 mbX6_point_42 dX6_point_59 ?_
            obtain ⟨v11, h11, hf⟩ := bd hf
            refine wa_calli (rest := []) (wr_V hC (kX1_height l G (show kd 93 = 1 from rfl) h11) (cwV 0 hC.1.2.2.2.2 gX6_point_X1_height rfl rfl rfl (by decide +kernel) ⟨Nat.le_of_ble_eq_true rfl, Nat.le_of_ble_eq_true rfl⟩) (show kd 93 = 1 from rfl) (by decide) (ce1 (show kd 93 = 1 from rfl)) rfl rfl rfl rfl (Nat.le_of_ble_eq_true rfl) dX6_point_62) ?_
            refine wa_goto hC 75 dX6_point_65 (by decide) ?_
            exact wa_iret hC hlk hr (congrArg Prod.fst (so_inj hf)) (congrArg Prod.snd (so_inj hf)) dX6_point_75
        · have hf := ite_t hf c8
          refine wa_ldc hC mbX6_point_108 dX6_point_51 ?_
          exact wa_iret hC hlk hr (congrArg Prod.fst (so_inj hf)) (congrArg Prod.snd (so_inj hf)) dX6_point_53
      · have hf := ite_t hf c7
        refine wa_aload_n hC dX6_point_33 rfl 0 rfl ?_
        refine rg6_6 hC fiX6_point_6 mbX6_point_42 dX6_point_34 ?_
        refine rgn1_1 hC fiX6_point_1 (show kd 93 = 1 from rfl) (nwf_BaroRuns_200 hC.2.2.2) dX6_point_37 ?_
        exact wa_iret hC hlk hr (congrArg Prod.fst (so_inj hf)) (congrArg Prod.snd (so_inj hf)) dX6_point_40
    · have hf := ite_t hf c4
      refine wa_ldc hC mbX6_point_61 dX6_point_16 ?_
      exact wa_iret hC hlk hr (congrArg Prod.fst (so_inj hf)) (congrArg Prod.snd (so_inj hf)) dX6_point_18

abbrev rmX6_within : Room := { frames := 0, cells := 0, slots := 0, locals := 0 }
set_option maxHeartbeats 4000000 in
set_option maxRecDepth 100000 in
theorem kX6_within (l : Launch) (G : wG) {x0 : Int32} {x1 : Int32} {x2 : Int32} {M0 : wM} {b : Bool} (hf : fX6_within x0 x1 x2 M0 = some b) : mI l yX6_within wsX6_within rmX6_within G [.int (x0), .int (x1), .int (x2)] M0 (b2 b) M0 := by
  refine mI.of (cc := cX6_within) (nL := 3) (ret := (some .boolean)) (own := RX6) (lv := [(0, .int (x0)), (1, .int (x1)), (2, .int (x2))]) (plainFor_of_name (by decide +kernel)) rfl rfl (Nat.le_of_ble_eq_true rfl) rfl ?_
  intro p e s m args below meth c hC hr hlk
  unfold fX6_within at hf
  refine wa_iload_n hC dX6_within_0 rfl 0 rfl ?_
  refine wa_iload_n hC dX6_within_1 rfl 1 rfl ?_
  refine wa_icmp_lt hC 14 dX6_within_2 (by decide) (fun c1 => ?_) (fun c1 => ?_)
  · have hf := ite_t hf c1
    refine wa_iconst (v := 0) hC dX6_within_14 (by decide) ?_
    exact wa_zret hC hlk hr (congrArg b2 (so_inj hf)) rfl dX6_within_15
  · have hf := ite_f hf c1
    refine wa_iload_n hC dX6_within_5 rfl 0 rfl ?_
    refine wa_iload_n hC dX6_within_6 rfl 2 rfl ?_
    refine wa_icmp_gt hC 14 dX6_within_7 (by decide) (fun c2 => ?_) (fun c2 => ?_)
    · have hf := ite_t hf c2
      refine wa_iconst (v := 0) hC dX6_within_14 (by decide) ?_
      exact wa_zret hC hlk hr (congrArg b2 (so_inj hf)) rfl dX6_within_15
    · have hf := ite_f hf c2
      refine wa_iconst (v := 1) hC dX6_within_10 (by decide) ?_
      refine wa_goto hC 15 dX6_within_11 (by decide) ?_
      exact wa_zret hC hlk hr (congrArg b2 (so_inj hf)) rfl dX6_within_15
abbrev rmX6_isSetting : Room := { frames := 1, cells := 0, slots := 0, locals := 22 }
theorem mbX6_isSetting_233 : Cond.constant RX6 233 (-500000) ∈ wsX6_isSetting := by decide +kernel
theorem mbX6_isSetting_234 : Cond.constant RX6 234 (9000000) ∈ wsX6_isSetting := by decide +kernel
set_option maxHeartbeats 4000000 in
set_option maxRecDepth 100000 in
theorem kX6_isSetting (l : Launch) (G : wG) {x0 : Int32} {x1 : Int32} {M0 : wM} {b : Bool} (hf : fX6_isSetting x0 x1 M0 = some b) : mI l yX6_isSetting wsX6_isSetting rmX6_isSetting G [.int (x0), .int (x1)] M0 (b2 b) M0 := by
  refine mI.of (cc := cX6_isSetting) (nL := 2) (ret := (some .boolean)) (own := RX6) (lv := [(0, .int (x0)), (1, .int (x1))]) (plainFor_of_name (by decide +kernel)) rfl rfl (Nat.le_of_ble_eq_true rfl) rfl ?_
  intro p e s m args below meth c hC hr hlk
  unfold fX6_isSetting at hf
  refine wa_iload_n hC dX6_isSetting_0 rfl 0 rfl ?_
  refine ite_e hf (fun c1 hf => ?_) (fun c1 hf => ?_)
  · skip
    refine wa_tableIn (off := 27) hC 28 dX6_isSetting_1 (by rw [c1]; decide) (by rw [c1]; decide) (by rw [c1] <;> decide) (by decide) ?_
    refine wa_iload_n hC dX6_isSetting_28 rfl 1 rfl ?_
    refine wa_ldc hC mbX6_isSetting_233 dX6_isSetting_29 ?_
    refine wa_ldc hC mbX6_isSetting_234 dX6_isSetting_31 ?_
    obtain ⟨v2, h2, hf⟩ := bd hf
    refine wa_calli (rest := []) (wr_S hC (kX6_within l G h2) (va_cwS 3 hC.1.2.2.2.2 gX6_isSetting_X6_within rfl rfl rfl (by decide +kernel) ⟨Nat.le_of_ble_eq_true rfl, Nat.le_of_ble_eq_true rfl⟩) rfl rfl (Nat.le_of_ble_eq_true rfl) dX6_isSetting_33) ?_
    exact wa_zret hC hlk hr (congrArg b2 (so_inj hf)) rfl dX6_isSetting_36
  · skip
    refine ite_e hf (fun c3 hf => ?_) (fun c3 hf => ?_)
    · skip
      refine wa_tableIn (off := 36) hC 37 dX6_isSetting_1 (by rw [c3]; decide) (by rw [c3]; decide) (by rw [c3] <;> decide) (by decide) ?_
      refine wa_iload_n hC dX6_isSetting_37 rfl 1 rfl ?_
      refine wa_iconst (v := 1) hC dX6_isSetting_38 (by decide) ?_
      refine wa_sipush (v := 5000) hC dX6_isSetting_39 (by decide) ?_
      obtain ⟨v4, h4, hf⟩ := bd hf
      refine wa_calli (rest := []) (wr_S hC (kX6_within l G h4) (va_cwS 3 hC.1.2.2.2.2 gX6_isSetting_X6_within rfl rfl rfl (by decide +kernel) ⟨Nat.le_of_ble_eq_true rfl, Nat.le_of_ble_eq_true rfl⟩) rfl rfl (Nat.le_of_ble_eq_true rfl) dX6_isSetting_42) ?_
      exact wa_zret hC hlk hr (congrArg b2 (so_inj hf)) rfl dX6_isSetting_45
    · skip
      refine ite_e hf (fun c5 hf => ?_) (fun c5 hf => ?_)
      · skip
        refine wa_tableIn (off := 45) hC 46 dX6_isSetting_1 (by rw [c5]; decide) (by rw [c5]; decide) (by rw [c5] <;> decide) (by decide) ?_
        refine wa_iload_n hC dX6_isSetting_46 rfl 1 rfl ?_
        refine wa_iconst (v := 1) hC dX6_isSetting_47 (by decide) ?_
        refine wa_sipush (v := 500) hC dX6_isSetting_48 (by decide) ?_
        obtain ⟨v6, h6, hf⟩ := bd hf
        refine wa_calli (rest := []) (wr_S hC (kX6_within l G h6) (va_cwS 3 hC.1.2.2.2.2 gX6_isSetting_X6_within rfl rfl rfl (by decide +kernel) ⟨Nat.le_of_ble_eq_true rfl, Nat.le_of_ble_eq_true rfl⟩) rfl rfl (Nat.le_of_ble_eq_true rfl) dX6_isSetting_51) ?_
        exact wa_zret hC hlk hr (congrArg b2 (so_inj hf)) rfl dX6_isSetting_54
      · skip
        have n1 := ti_ne c1 (a := 0) (by decide)
        have n3 := ti_ne c3 (a := 1) (by decide)
        have n5 := ti_ne c5 (a := 2) (by decide)
        refine wa_tableOut hC 55 dX6_isSetting_1 (by omega) (by decide) ?_
        refine wa_iconst (v := 0) hC dX6_isSetting_55 (by decide) ?_
        exact wa_zret hC hlk hr (congrArg b2 (so_inj hf)) rfl dX6_isSetting_56
abbrev rmX6_record : Room := { frames := 4, cells := 0, slots := 0, locals := 124 }
theorem fiX6_record_6 : ∀ w ∈ u_ws RX6 TX6 9, w ∈ wsX6_record := by decide +kernel
theorem mbX6_record_22 : Cond.fieldLink RX6 22 "BaroRuns" "history" "LBaroRuns$History;" ∈ wsX6_record := by decide +kernel
theorem mbX6_record_10 : Cond.fieldLink RX6 10 "BaroRuns" "now" "LBaroRuns$State;" ∈ wsX6_record := by decide +kernel
theorem mbX6_record_53 : Cond.fieldLink RX6 53 "BaroRuns" "stale" "Z" ∈ wsX6_record := by decide +kernel
set_option maxHeartbeats 4000000 in
set_option maxRecDepth 100000 in
theorem kX6_record (l : Launch) (G : wG)  {M0 M1 : wM} (hf : fX6_record  M0 = some M1) : mV l yX6_record wsX6_record rmX6_record G [.ref (ga G (0))] M0 M1 := by
  refine mV.of (cc := cX6_record) (nL := 1) (ret := none) (own := RX6) (lv := [(0, .ref (ga G (0)))]) (plainFor_of_name (by decide +kernel)) rfl rfl (Nat.le_of_ble_eq_true rfl) rfl ?_
  intro p e s m args below meth c hC hr hlk
  unfold fX6_record at hf
  refine wa_aload_n hC dX6_record_0 rfl 0 rfl ?_
  refine rg6_2 hC fiX6_record_6 mbX6_record_22 dX6_record_1 ?_
  refine wa_aload_n hC dX6_record_4 rfl 0 rfl ?_
  refine rg6_0 hC fiX6_record_6 mbX6_record_10 dX6_record_5 ?_
  obtain ⟨M1, h1, hf⟩ := bd hf
  refine wa_callv (rest := []) (wr_V hC (kX0_keep l G (show kd 19 = 0 from rfl) (show kd 1 = 2 from rfl) h1) (cwV 1 hC.1.2.2.2.2 gX6_record_X0_keep rfl rfl rfl (by decide +kernel) ⟨Nat.le_of_ble_eq_true rfl, Nat.le_of_ble_eq_true rfl⟩) (show kd 19 = 0 from rfl) (by decide) (ce0 (show kd 19 = 0 from rfl)) rfl rfl rfl rfl (Nat.le_of_ble_eq_true rfl) dX6_record_8) ?_
  refine wa_aload_n hC dX6_record_11 rfl 0 rfl ?_
  refine wa_iconst (v := 1) hC dX6_record_12 (by decide) ?_
  refine rp6_8 hC fiX6_record_6 mbX6_record_53 rfl rfl dX6_record_13 ?_
  exact wa_vret hC hlk hr (so_inj hf) dX6_record_16
abbrev rmX6_set : Room := { frames := 5, cells := 0, slots := 0, locals := 144 }
theorem fiX6_set_6 : ∀ w ∈ u_ws RX6 TX6 9, w ∈ wsX6_set := by decide +kernel
theorem mbX6_set_10 : Cond.fieldLink RX6 10 "BaroRuns" "now" "LBaroRuns$State;" ∈ wsX6_set := by decide +kernel
theorem mbX6_set_61 : Cond.constant RX6 61 (-2000000001) ∈ wsX6_set := by decide +kernel
set_option maxHeartbeats 4000000 in
set_option maxRecDepth 100000 in
theorem kX6_set (l : Launch) (G : wG) {x1 : Int32} {x2 : Int32} {M0 M1 : wM} {r : Int32} (hf : fX6_set x1 x2 M0 = some (r, M1)) : mI l yX6_set wsX6_set rmX6_set G [.ref (ga G (0)), .int (x1), .int (x2)] M0 r M1 := by
  refine mI.of (cc := cX6_set) (nL := 4) (ret := (some .int)) (own := RX6) (lv := [(0, .ref (ga G (0))), (1, .int (x1)), (2, .int (x2))]) (plainFor_of_name (by decide +kernel)) rfl rfl (Nat.le_of_ble_eq_true rfl) rfl ?_
  intro p e s m args below meth c hC hr hlk
  unfold fX6_set at hf
  refine wa_iload_n hC dX6_set_0 rfl 1 rfl ?_
  refine wa_iload_n hC dX6_set_1 rfl 2 rfl ?_
  obtain ⟨v1, h1, hf⟩ := bd hf
  refine wa_calli (rest := []) (wr_S hC (kX6_isSetting l G h1) (va_cwS 2 hC.1.2.2.2.2 gX6_set_X6_isSetting rfl rfl rfl (by decide +kernel) ⟨Nat.le_of_ble_eq_true rfl, Nat.le_of_ble_eq_true rfl⟩) rfl rfl (Nat.le_of_ble_eq_true rfl) dX6_set_2) ?_
  refine wa_if_ne hC 11 dX6_set_5 (by decide) (fun c2 => ?_) (fun c2 => ?_)
  · have hf := ite_f hf c2
    refine wa_aload_n hC dX6_set_11 rfl 0 rfl ?_
    obtain ⟨M3, h3, hf⟩ := bd hf
    refine wa_callv (rest := []) (wr_V hC (kX6_record l G h3) (cwV 0 hC.1.2.2.2.2 gX6_set_X6_record rfl rfl rfl (by decide +kernel) ⟨Nat.le_of_ble_eq_true rfl, Nat.le_of_ble_eq_true rfl⟩) (show kd 0 = 6 from rfl) (by decide) (ce6 (show kd 0 = 6 from rfl)) rfl rfl rfl rfl (Nat.le_of_ble_eq_true rfl) dX6_set_12) ?_
    refine wa_aload_n hC dX6_set_15 rfl 0 rfl ?_
    refine rg6_0 hC fiX6_set_6 mbX6_set_10 dX6_set_16 ?_
    refine wa_iload_n hC dX6_set_19 rfl 1 rfl ?_
    obtain ⟨v4, h4, hf⟩ := bd hf
    refine wa_calli (rest := []) (wr_V hC (kX2_setting l G (show kd 1 = 2 from rfl) h4) (cwV 1 hC.1.2.2.2.2 gX6_set_X2_setting rfl rfl rfl (by decide +kernel) ⟨Nat.le_of_ble_eq_true rfl, Nat.le_of_ble_eq_true rfl⟩) (show kd 1 = 2 from rfl) (by decide) (ce2 (show kd 1 = 2 from rfl)) rfl rfl rfl rfl (Nat.le_of_ble_eq_true rfl) dX6_set_20) ?_
    refine wa_istore_n (lv' := [(3, .int _), (0, .ref _), (1, .int _), (2, .int _)]) hC dX6_set_23 rfl (by decide) rfl ?_
    refine wa_aload_n hC dX6_set_24 rfl 1 rfl ?_
    refine rg6_0 hC fiX6_set_6 mbX6_set_10 dX6_set_25 ?_
    refine wa_iload_n hC dX6_set_28 rfl 2 rfl ?_
    refine wa_iload_n hC dX6_set_29 rfl 3 rfl ?_
    obtain ⟨M5, h5, hf⟩ := bd hf
    refine wa_callv (rest := []) (wr_V hC (kX2_putSetting l G (show kd 1 = 2 from rfl) h5) (cwV 2 hC.1.2.2.2.2 gX6_set_X2_putSetting rfl rfl rfl (by decide +kernel) ⟨Nat.le_of_ble_eq_true rfl, Nat.le_of_ble_eq_true rfl⟩) (show kd 1 = 2 from rfl) (by decide) (ce2 (show kd 1 = 2 from rfl)) rfl rfl rfl rfl (Nat.le_of_ble_eq_true rfl) dX6_set_30) ?_
    refine wa_iload_n hC dX6_set_33 rfl 0 rfl ?_
    exact wa_iret hC hlk hr (congrArg Prod.fst (so_inj hf)) (congrArg Prod.snd (so_inj hf)) dX6_set_34
  · have hf := ite_t hf c2
    refine wa_ldc hC mbX6_set_61 dX6_set_8 ?_
    exact wa_iret hC hlk hr (congrArg Prod.fst (so_inj hf)) (congrArg Prod.snd (so_inj hf)) dX6_set_10
abbrev rmX6_isTime : Room := { frames := 1, cells := 0, slots := 0, locals := 22 }
set_option maxHeartbeats 4000000 in
set_option maxRecDepth 100000 in
theorem kX6_isTime (l : Launch) (G : wG) {x0 : Int32} {M0 : wM} {b : Bool} (hf : fX6_isTime x0 M0 = some b) : mI l yX6_isTime wsX6_isTime rmX6_isTime G [.int (x0)] M0 (b2 b) M0 := by
  refine mI.of (cc := cX6_isTime) (nL := 1) (ret := (some .boolean)) (own := RX6) (lv := [(0, .int (x0))]) (plainFor_of_name (by decide +kernel)) rfl rfl (Nat.le_of_ble_eq_true rfl) rfl ?_
  intro p e s m args below meth c hC hr hlk
  unfold fX6_isTime at hf
  refine wa_iload_n hC dX6_isTime_0 rfl 0 rfl ?_
  refine wa_iconst (v := 0) hC dX6_isTime_1 (by decide) ?_
  refine wa_sipush (v := 10000) hC dX6_isTime_2 (by decide) ?_
  obtain ⟨v1, h1, hf⟩ := bd hf
  refine wa_calli (rest := []) (wr_S hC (kX6_within l G h1) (va_cwS 3 hC.1.2.2.2.2 gX6_isTime_X6_within rfl rfl rfl (by decide +kernel) ⟨Nat.le_of_ble_eq_true rfl, Nat.le_of_ble_eq_true rfl⟩) rfl rfl (Nat.le_of_ble_eq_true rfl) dX6_isTime_5) ?_
  exact wa_zret hC hlk hr (congrArg b2 (so_inj hf)) rfl dX6_isTime_8
abbrev rmX6_isTemperature : Room := { frames := 1, cells := 0, slots := 0, locals := 22 }
set_option maxHeartbeats 4000000 in
set_option maxRecDepth 100000 in
theorem kX6_isTemperature (l : Launch) (G : wG) {x0 : Int32} {M0 : wM} {b : Bool} (hf : fX6_isTemperature x0 M0 = some b) : mI l yX6_isTemperature wsX6_isTemperature rmX6_isTemperature G [.int (x0)] M0 (b2 b) M0 := by
  refine mI.of (cc := cX6_isTemperature) (nL := 1) (ret := (some .boolean)) (own := RX6) (lv := [(0, .int (x0))]) (plainFor_of_name (by decide +kernel)) rfl rfl (Nat.le_of_ble_eq_true rfl) rfl ?_
  intro p e s m args below meth c hC hr hlk
  unfold fX6_isTemperature at hf
  refine wa_iload_n hC dX6_isTemperature_0 rfl 0 rfl ?_
  refine wa_sipush (v := -300) hC dX6_isTemperature_1 (by decide) ?_
  refine wa_sipush (v := 500) hC dX6_isTemperature_4 (by decide) ?_
  obtain ⟨v1, h1, hf⟩ := bd hf
  refine wa_calli (rest := []) (wr_S hC (kX6_within l G h1) (va_cwS 3 hC.1.2.2.2.2 gX6_isTemperature_X6_within rfl rfl rfl (by decide +kernel) ⟨Nat.le_of_ble_eq_true rfl, Nat.le_of_ble_eq_true rfl⟩) rfl rfl (Nat.le_of_ble_eq_true rfl) dX6_isTemperature_7) ?_
  exact wa_zret hC hlk hr (congrArg b2 (so_inj hf)) rfl dX6_isTemperature_10
abbrev rmX6_isReading : Room := { frames := 2, cells := 0, slots := 0, locals := 42 }
theorem mbX6_isReading_172 : Cond.constant RX6 172 (50000) ∈ wsX6_isReading := by decide +kernel
theorem mbX6_isReading_235 : Cond.constant RX6 235 (110000) ∈ wsX6_isReading := by decide +kernel
set_option maxHeartbeats 4000000 in
set_option maxRecDepth 100000 in
theorem kX6_isReading (l : Launch) (G : wG) {x0 : Int32} {x1 : Int32} {x2 : Int32} {M0 : wM} {b : Bool} (hf : fX6_isReading x0 x1 x2 M0 = some b) : mI l yX6_isReading wsX6_isReading rmX6_isReading G [.int (x0), .int (x1), .int (x2)] M0 (b2 b) M0 := by
  refine mI.of (cc := cX6_isReading) (nL := 3) (ret := (some .boolean)) (own := RX6) (lv := [(0, .int (x0)), (1, .int (x1)), (2, .int (x2))]) (plainFor_of_name (by decide +kernel)) rfl rfl (Nat.le_of_ble_eq_true rfl) rfl ?_
  intro p e s m args below meth c hC hr hlk
  unfold fX6_isReading at hf
  refine wa_iload_n hC dX6_isReading_0 rfl 0 rfl ?_
  obtain ⟨v1, h1, hf⟩ := bd hf
  refine wa_calli (rest := []) (wr_S hC (kX6_isTime l G h1) (va_cwS 1 hC.1.2.2.2.2 gX6_isReading_X6_isTime rfl rfl rfl (by decide +kernel) ⟨Nat.le_of_ble_eq_true rfl, Nat.le_of_ble_eq_true rfl⟩) rfl rfl (Nat.le_of_ble_eq_true rfl) dX6_isReading_1) ?_
  refine wa_if_eq hC 29 dX6_isReading_4 (by decide) (fun c2 => ?_) (fun c2 => ?_)
  · have hf := ite_t hf c2
    refine wa_iconst (v := 0) hC dX6_isReading_29 (by decide) ?_
    exact wa_zret hC hlk hr (congrArg b2 (so_inj hf)) rfl dX6_isReading_30
  · have hf := ite_f hf c2
    refine wa_iload_n hC dX6_isReading_7 rfl 1 rfl ?_
    refine wa_ldc hC mbX6_isReading_172 dX6_isReading_8 ?_
    refine wa_ldc hC mbX6_isReading_235 dX6_isReading_10 ?_
    obtain ⟨v3, h3, hf⟩ := bd hf
    refine wa_calli (rest := []) (wr_S hC (kX6_within l G h3) (va_cwS 3 hC.1.2.2.2.2 gX6_isReading_X6_within rfl rfl rfl (by decide +kernel) ⟨Nat.le_of_ble_eq_true rfl, Nat.le_of_ble_eq_true rfl⟩) rfl rfl (Nat.le_of_ble_eq_true rfl) dX6_isReading_12) ?_
    refine wa_if_eq hC 29 dX6_isReading_15 (by decide) (fun c4 => ?_) (fun c4 => ?_)
    · have hf := ite_t hf c4
      refine wa_iconst (v := 0) hC dX6_isReading_29 (by decide) ?_
      exact wa_zret hC hlk hr (congrArg b2 (so_inj hf)) rfl dX6_isReading_30
    · have hf := ite_f hf c4
      refine wa_iload_n hC dX6_isReading_18 rfl 2 rfl ?_
      obtain ⟨v5, h5, hf⟩ := bd hf
      refine wa_calli (rest := []) (wr_S hC (kX6_isTemperature l G h5) (va_cwS 1 hC.1.2.2.2.2 gX6_isReading_X6_isTemperature rfl rfl rfl (by decide +kernel) ⟨Nat.le_of_ble_eq_true rfl, Nat.le_of_ble_eq_true rfl⟩) rfl rfl (Nat.le_of_ble_eq_true rfl) dX6_isReading_19) ?_
      refine wa_if_eq hC 29 dX6_isReading_22 (by decide) (fun c6 => ?_) (fun c6 => ?_)
      · have hf := ite_t hf c6
        refine wa_iconst (v := 0) hC dX6_isReading_29 (by decide) ?_
        exact wa_zret hC hlk hr (congrArg b2 (so_inj hf)) rfl dX6_isReading_30
      · have hf := ite_f hf c6
        refine wa_iconst (v := 1) hC dX6_isReading_25 (by decide) ?_
        refine wa_goto hC 30 dX6_isReading_26 (by decide) ?_
        exact wa_zret hC hlk hr (congrArg b2 (so_inj hf)) rfl dX6_isReading_30
abbrev rmX6_take : Room := { frames := 5, cells := 0, slots := 0, locals := 144 }
theorem fiX6_take_6 : ∀ w ∈ u_ws RX6 TX6 9, w ∈ wsX6_take := by decide +kernel
theorem mbX6_take_10 : Cond.fieldLink RX6 10 "BaroRuns" "now" "LBaroRuns$State;" ∈ wsX6_take := by decide +kernel
theorem mbX6_take_214 : Cond.constant RX6 214 (-2000000003) ∈ wsX6_take := by decide +kernel
theorem mbX6_take_146 : Cond.constant RX6 146 (-2000000002) ∈ wsX6_take := by decide +kernel
set_option maxHeartbeats 4000000 in
set_option maxRecDepth 100000 in
theorem kX6_take (l : Launch) (G : wG) {x1 : Int32} {x2 : Int32} {x3 : Int32} {x4 : Int32} {x5 : Int32} {M0 M1 : wM} {r : Int32} (hf : fX6_take x1 x2 x3 x4 x5 M0 = some (r, M1)) : mI l yX6_take wsX6_take rmX6_take G [.ref (ga G (0)), .int (x1), .int (x2), .int (x3), .int (x4), .int (x5)] M0 r M1 := by
  refine mI.of (cc := cX6_take) (nL := 7) (ret := (some .int)) (own := RX6) (lv := [(0, .ref (ga G (0))), (1, .int (x1)), (2, .int (x2)), (3, .int (x3)), (4, .int (x4)), (5, .int (x5))]) (plainFor_of_name (by decide +kernel)) rfl rfl (Nat.le_of_ble_eq_true rfl) rfl ?_
  intro p e s m args below meth c hC hr hlk
  unfold fX6_take at hf
  refine wa_aload_n hC dX6_take_0 rfl 0 rfl ?_
  refine rg6_0 hC fiX6_take_6 mbX6_take_10 dX6_take_1 ?_
  refine wa_iload_n hC dX6_take_4 rfl 1 rfl ?_
  obtain ⟨v1, h1, hf⟩ := bd hf
  refine wa_callr (rest := []) (wr_V hC (kX2_track l G (show kd 1 = 2 from rfl) h1) (cwV 1 hC.1.2.2.2.2 gX6_take_X2_track rfl rfl rfl (by decide +kernel) ⟨Nat.le_of_ble_eq_true rfl, Nat.le_of_ble_eq_true rfl⟩) (show kd 1 = 2 from rfl) (by decide) (ce2 (show kd 1 = 2 from rfl)) rfl rfl rfl rfl (Nat.le_of_ble_eq_true rfl) dX6_take_5) ?_
  obtain ⟨_, g2, hf⟩ := bd hf
  have g2 := gk_some g2
  refine wa_astore (lv' := [(6, .ref _), (0, .ref _), (1, .int _), (2, .int _), (3, .int _), (4, .int _), (5, .int _)]) hC dX6_take_8 (by decide) rfl ?_
  refine wa_aload hC dX6_take_10 0 rfl ?_
  refine wa_iload_n hC dX6_take_12 rfl 4 rfl ?_
  obtain ⟨v3, h3, hf⟩ := bd hf
  refine wa_calli (rest := []) (wr_V hC (kX5_hasTime l G g2 h3) (cwV 1 hC.1.2.2.2.2 gX6_take_X5_hasTime rfl rfl rfl (by decide +kernel) ⟨Nat.le_of_ble_eq_true rfl, Nat.le_of_ble_eq_true rfl⟩) g2 (by decide) (ce5 g2) rfl rfl rfl rfl (Nat.le_of_ble_eq_true rfl) dX6_take_13) ?_
  refine wa_if_eq hC 22 dX6_take_16 (by decide) (fun c4 => ?_) (fun c4 => ?_)
  · have hf := ite_t hf c4
    refine wa_aload hC dX6_take_22 0 rfl ?_
    obtain ⟨v5, h5, hf⟩ := bd hf
    refine wa_calli (rest := []) (wr_V hC (kX5_isFull l G g2 h5) (cwV 0 hC.1.2.2.2.2 gX6_take_X5_isFull rfl rfl rfl (by decide +kernel) ⟨Nat.le_of_ble_eq_true rfl, Nat.le_of_ble_eq_true rfl⟩) g2 (by decide) (ce5 g2) rfl rfl rfl rfl (Nat.le_of_ble_eq_true rfl) dX6_take_24) ?_
    refine wa_if_eq hC 33 dX6_take_27 (by decide) (fun c6 => ?_) (fun c6 => ?_)
    · have hf := ite_t hf c6
      refine wa_aload_n hC dX6_take_33 rfl 1 rfl ?_
      obtain ⟨M7, h7, hf⟩ := bd hf
      refine wa_callv (rest := []) (wr_V hC (kX6_record l G h7) (cwV 0 hC.1.2.2.2.2 gX6_take_X6_record rfl rfl rfl (by decide +kernel) ⟨Nat.le_of_ble_eq_true rfl, Nat.le_of_ble_eq_true rfl⟩) (show kd 0 = 6 from rfl) (by decide) (ce6 (show kd 0 = 6 from rfl)) rfl rfl rfl rfl (Nat.le_of_ble_eq_true rfl) dX6_take_34) ?_
      refine wa_aload hC dX6_take_37 0 rfl ?_
      refine wa_iload_n hC dX6_take_39 rfl 3 rfl ?_
      refine wa_iload_n hC dX6_take_40 rfl 4 rfl ?_
      refine wa_iload hC dX6_take_41 5 rfl ?_
      refine wa_iload hC dX6_take_43 6 rfl ?_
      obtain ⟨⟨v8, M8⟩, h8, hf⟩ := bd hf
      dsimp only at hf
      refine wa_calli (rest := []) (wr_V hC (kX5_insert l G g2 h8) (cwV 4 hC.1.2.2.2.2 gX6_take_X5_insert rfl rfl rfl (by decide +kernel) ⟨Nat.le_of_ble_eq_true rfl, Nat.le_of_ble_eq_true rfl⟩) g2 (by decide) (ce5 g2) rfl rfl rfl rfl (Nat.le_of_ble_eq_true rfl) dX6_take_45) ?_
      exact wa_iret hC hlk hr (congrArg Prod.fst (so_inj hf)) (congrArg Prod.snd (so_inj hf)) dX6_take_48
    · have hf := ite_f hf c6
      refine wa_ldc hC mbX6_take_214 dX6_take_30 ?_
      exact wa_iret hC hlk hr (congrArg Prod.fst (so_inj hf)) (congrArg Prod.snd (so_inj hf)) dX6_take_32
  · have hf := ite_f hf c4
    refine wa_ldc hC mbX6_take_146 dX6_take_19 ?_
    exact wa_iret hC hlk hr (congrArg Prod.fst (so_inj hf)) (congrArg Prod.snd (so_inj hf)) dX6_take_21
abbrev rmX6_base : Room := { frames := 6, cells := 0, slots := 0, locals := 170 }
theorem mbX6_base_61 : Cond.constant RX6 61 (-2000000001) ∈ wsX6_base := by decide +kernel
set_option maxHeartbeats 4000000 in
set_option maxRecDepth 100000 in
theorem kX6_base (l : Launch) (G : wG) {x1 : Int32} {x2 : Int32} {x3 : Int32} {M0 M1 : wM} {r : Int32} (hf : fX6_base x1 x2 x3 M0 = some (r, M1)) : mI l yX6_base wsX6_base rmX6_base G [.ref (ga G (0)), .int (x1), .int (x2), .int (x3)] M0 r M1 := by
  refine mI.of (cc := cX6_base) (nL := 4) (ret := (some .int)) (own := RX6) (lv := [(0, .ref (ga G (0))), (1, .int (x1)), (2, .int (x2)), (3, .int (x3))]) (plainFor_of_name (by decide +kernel)) rfl rfl (Nat.le_of_ble_eq_true rfl) rfl ?_
  intro p e s m args below meth c hC hr hlk
  unfold fX6_base at hf
  refine wa_iload_n hC dX6_base_0 rfl 1 rfl ?_
  refine wa_iload_n hC dX6_base_1 rfl 2 rfl ?_
  refine wa_iload_n hC dX6_base_2 rfl 3 rfl ?_
  obtain ⟨v1, h1, hf⟩ := bd hf
  refine wa_calli (rest := []) (wr_S hC (kX6_isReading l G h1) (va_cwS 3 hC.1.2.2.2.2 gX6_base_X6_isReading rfl rfl rfl (by decide +kernel) ⟨Nat.le_of_ble_eq_true rfl, Nat.le_of_ble_eq_true rfl⟩) rfl rfl (Nat.le_of_ble_eq_true rfl) dX6_base_3) ?_
  refine wa_if_ne hC 12 dX6_base_6 (by decide) (fun c2 => ?_) (fun c2 => ?_)
  · have hf := ite_f hf c2
    refine wa_aload_n hC dX6_base_12 rfl 0 rfl ?_
    refine wa_iconst (v := -1) hC dX6_base_13 (by decide) ?_
    refine wa_iconst (v := 0) hC dX6_base_14 (by decide) ?_
    refine wa_iload_n hC dX6_base_15 rfl 1 rfl ?_
    refine wa_iload_n hC dX6_base_16 rfl 2 rfl ?_
    refine wa_iload_n hC dX6_base_17 rfl 3 rfl ?_
    obtain ⟨⟨v3, M3⟩, h3, hf⟩ := bd hf
    dsimp only at hf
    refine wa_calli (rest := []) (wr_V hC (kX6_take l G h3) (cwV 5 hC.1.2.2.2.2 gX6_base_X6_take rfl rfl rfl (by decide +kernel) ⟨Nat.le_of_ble_eq_true rfl, Nat.le_of_ble_eq_true rfl⟩) (show kd 0 = 6 from rfl) (by decide) (ce6 (show kd 0 = 6 from rfl)) rfl rfl rfl rfl (Nat.le_of_ble_eq_true rfl) dX6_base_18) ?_
    exact wa_iret hC hlk hr (congrArg Prod.fst (so_inj hf)) (congrArg Prod.snd (so_inj hf)) dX6_base_21
  · have hf := ite_t hf c2
    refine wa_ldc hC mbX6_base_61 dX6_base_9 ?_
    exact wa_iret hC hlk hr (congrArg Prod.fst (so_inj hf)) (congrArg Prod.snd (so_inj hf)) dX6_base_11
abbrev rmX6_isCell : Room := { frames := 1, cells := 0, slots := 0, locals := 22 }
set_option maxHeartbeats 4000000 in
set_option maxRecDepth 100000 in
theorem kX6_isCell (l : Launch) (G : wG) {x0 : Int32} {M0 : wM} {b : Bool} (hf : fX6_isCell x0 M0 = some b) : mI l yX6_isCell wsX6_isCell rmX6_isCell G [.int (x0)] M0 (b2 b) M0 := by
  refine mI.of (cc := cX6_isCell) (nL := 1) (ret := (some .boolean)) (own := RX6) (lv := [(0, .int (x0))]) (plainFor_of_name (by decide +kernel)) rfl rfl (Nat.le_of_ble_eq_true rfl) rfl ?_
  intro p e s m args below meth c hC hr hlk
  unfold fX6_isCell at hf
  refine wa_iload_n hC dX6_isCell_0 rfl 0 rfl ?_
  refine wa_iconst (v := 0) hC dX6_isCell_1 (by decide) ?_
  refine wa_iconst (v := 2) hC dX6_isCell_2 (by decide) ?_
  obtain ⟨v1, h1, hf⟩ := bd hf
  refine wa_calli (rest := []) (wr_S hC (kX6_within l G h1) (va_cwS 3 hC.1.2.2.2.2 gX6_isCell_X6_within rfl rfl rfl (by decide +kernel) ⟨Nat.le_of_ble_eq_true rfl, Nat.le_of_ble_eq_true rfl⟩) rfl rfl (Nat.le_of_ble_eq_true rfl) dX6_isCell_3) ?_
  exact wa_zret hC hlk hr (congrArg b2 (so_inj hf)) rfl dX6_isCell_6
abbrev rmX6_isPoint : Room := { frames := 1, cells := 0, slots := 0, locals := 22 }
set_option maxHeartbeats 4000000 in
set_option maxRecDepth 100000 in
theorem kX6_isPoint (l : Launch) (G : wG) {x0 : Int32} {M0 : wM} {b : Bool} (hf : fX6_isPoint x0 M0 = some b) : mI l yX6_isPoint wsX6_isPoint rmX6_isPoint G [.int (x0)] M0 (b2 b) M0 := by
  refine mI.of (cc := cX6_isPoint) (nL := 1) (ret := (some .boolean)) (own := RX6) (lv := [(0, .int (x0))]) (plainFor_of_name (by decide +kernel)) rfl rfl (Nat.le_of_ble_eq_true rfl) rfl ?_
  intro p e s m args below meth c hC hr hlk
  unfold fX6_isPoint at hf
  refine wa_iload_n hC dX6_isPoint_0 rfl 0 rfl ?_
  refine wa_iconst (v := 0) hC dX6_isPoint_1 (by decide) ?_
  refine wa_bipush (v := 9) hC dX6_isPoint_2 (by decide) ?_
  obtain ⟨v1, h1, hf⟩ := bd hf
  refine wa_calli (rest := []) (wr_S hC (kX6_within l G h1) (va_cwS 3 hC.1.2.2.2.2 gX6_isPoint_X6_within rfl rfl rfl (by decide +kernel) ⟨Nat.le_of_ble_eq_true rfl, Nat.le_of_ble_eq_true rfl⟩) rfl rfl (Nat.le_of_ble_eq_true rfl) dX6_isPoint_4) ?_
  exact wa_zret hC hlk hr (congrArg b2 (so_inj hf)) rfl dX6_isPoint_7
abbrev rmX6_read : Room := { frames := 6, cells := 0, slots := 0, locals := 170 }
theorem mbX6_read_61 : Cond.constant RX6 61 (-2000000001) ∈ wsX6_read := by decide +kernel
set_option maxHeartbeats 4000000 in
set_option maxRecDepth 100000 in
theorem kX6_read (l : Launch) (G : wG) {x1 : Int32} {x2 : Int32} {x3 : Int32} {x4 : Int32} {x5 : Int32} {M0 M1 : wM} {r : Int32} (hf : fX6_read x1 x2 x3 x4 x5 M0 = some (r, M1)) : mI l yX6_read wsX6_read rmX6_read G [.ref (ga G (0)), .int (x1), .int (x2), .int (x3), .int (x4), .int (x5)] M0 r M1 := by
  refine mI.of (cc := cX6_read) (nL := 6) (ret := (some .int)) (own := RX6) (lv := [(0, .ref (ga G (0))), (1, .int (x1)), (2, .int (x2)), (3, .int (x3)), (4, .int (x4)), (5, .int (x5))]) (plainFor_of_name (by decide +kernel)) rfl rfl (Nat.le_of_ble_eq_true rfl) rfl ?_
  intro p e s m args below meth c hC hr hlk
  unfold fX6_read at hf
  refine wa_iload_n hC dX6_read_0 rfl 1 rfl ?_
  obtain ⟨v1, h1, hf⟩ := bd hf
  refine wa_calli (rest := []) (wr_S hC (kX6_isCell l G h1) (va_cwS 1 hC.1.2.2.2.2 gX6_read_X6_isCell rfl rfl rfl (by decide +kernel) ⟨Nat.le_of_ble_eq_true rfl, Nat.le_of_ble_eq_true rfl⟩) rfl rfl (Nat.le_of_ble_eq_true rfl) dX6_read_1) ?_
  refine wa_if_eq hC 25 dX6_read_4 (by decide) (fun c2 => ?_) (fun c2 => ?_)
  · have hf := ite_t hf c2
    refine wa_ldc hC mbX6_read_61 dX6_read_25 ?_
    exact wa_iret hC hlk hr (congrArg Prod.fst (so_inj hf)) (congrArg Prod.snd (so_inj hf)) dX6_read_27
  · have hf := ite_f hf c2
    refine wa_iload_n hC dX6_read_7 rfl 2 rfl ?_
    obtain ⟨v3, h3, hf⟩ := bd hf
    refine wa_calli (rest := []) (wr_S hC (kX6_isPoint l G h3) (va_cwS 1 hC.1.2.2.2.2 gX6_read_X6_isPoint rfl rfl rfl (by decide +kernel) ⟨Nat.le_of_ble_eq_true rfl, Nat.le_of_ble_eq_true rfl⟩) rfl rfl (Nat.le_of_ble_eq_true rfl) dX6_read_8) ?_
    refine wa_if_eq hC 25 dX6_read_11 (by decide) (fun c4 => ?_) (fun c4 => ?_)
    · have hf := ite_t hf c4
      refine wa_ldc hC mbX6_read_61 dX6_read_25 ?_
      exact wa_iret hC hlk hr (congrArg Prod.fst (so_inj hf)) (congrArg Prod.snd (so_inj hf)) dX6_read_27
    · have hf := ite_f hf c4
      refine wa_iload_n hC dX6_read_14 rfl 3 rfl ?_
      refine wa_iload hC dX6_read_15 4 rfl ?_
      refine wa_iload hC dX6_read_17 5 rfl ?_
      obtain ⟨v5, h5, hf⟩ := bd hf
      refine wa_calli (rest := []) (wr_S hC (kX6_isReading l G h5) (va_cwS 3 hC.1.2.2.2.2 gX6_read_X6_isReading rfl rfl rfl (by decide +kernel) ⟨Nat.le_of_ble_eq_true rfl, Nat.le_of_ble_eq_true rfl⟩) rfl rfl (Nat.le_of_ble_eq_true rfl) dX6_read_19) ?_
      refine wa_if_ne hC 28 dX6_read_22 (by decide) (fun c6 => ?_) (fun c6 => ?_)
      · have hf := ite_f hf c6
        refine wa_aload_n hC dX6_read_28 rfl 0 rfl ?_
        refine wa_iload_n hC dX6_read_29 rfl 1 rfl ?_
        refine wa_iload_n hC dX6_read_30 rfl 2 rfl ?_
        refine wa_iload_n hC dX6_read_31 rfl 3 rfl ?_
        refine wa_iload hC dX6_read_32 4 rfl ?_
        refine wa_iload hC dX6_read_34 5 rfl ?_
        obtain ⟨⟨v7, M7⟩, h7, hf⟩ := bd hf
        dsimp only at hf
        refine wa_calli (rest := []) (wr_V hC (kX6_take l G h7) (cwV 5 hC.1.2.2.2.2 gX6_read_X6_take rfl rfl rfl (by decide +kernel) ⟨Nat.le_of_ble_eq_true rfl, Nat.le_of_ble_eq_true rfl⟩) (show kd 0 = 6 from rfl) (by decide) (ce6 (show kd 0 = 6 from rfl)) rfl rfl rfl rfl (Nat.le_of_ble_eq_true rfl) dX6_read_36) ?_
        exact wa_iret hC hlk hr (congrArg Prod.fst (so_inj hf)) (congrArg Prod.snd (so_inj hf)) dX6_read_39
      · have hf := ite_t hf c6
        refine wa_ldc hC mbX6_read_61 dX6_read_25 ?_
        exact wa_iret hC hlk hr (congrArg Prod.fst (so_inj hf)) (congrArg Prod.snd (so_inj hf)) dX6_read_27
abbrev rmX6_isReadingOf : Room := { frames := 2, cells := 0, slots := 0, locals := 42 }
theorem fiX6_isReadingOf_5 : ∀ w ∈ u_ws RX5 TX5 3, w ∈ wsX6_isReadingOf := by decide +kernel
theorem fiX6_isReadingOf_6 : ∀ w ∈ u_ws RX6 TX6 9, w ∈ wsX6_isReadingOf := by decide +kernel
theorem mbX6_isReadingOf_10 : Cond.fieldLink RX6 10 "BaroRuns" "now" "LBaroRuns$State;" ∈ wsX6_isReadingOf := by decide +kernel
set_option maxHeartbeats 4000000 in
set_option maxRecDepth 100000 in
theorem kX6_isReadingOf (l : Launch) (G : wG) {x1 : Int32} {x2 : Int32} {M0 : wM} {b : Bool} (hf : fX6_isReadingOf x1 x2 M0 = some b) : mI l yX6_isReadingOf wsX6_isReadingOf rmX6_isReadingOf G [.ref (ga G (0)), .int (x1), .int (x2)] M0 (b2 b) M0 := by
  refine mI.of (cc := cX6_isReadingOf) (nL := 3) (ret := (some .boolean)) (own := RX6) (lv := [(0, .ref (ga G (0))), (1, .int (x1)), (2, .int (x2))]) (plainFor_of_name (by decide +kernel)) rfl rfl (Nat.le_of_ble_eq_true rfl) rfl ?_
  intro p e s m args below meth c hC hr hlk
  have hJ12 : fX6_isReadingOf_J12 x1 x2 M0 = some b → wAt p l e rmX6_isReadingOf s m args below meth c (qI below args s G (b2 b) M0) 3 G M0 12 [(0, .ref (ga G (0))), (1, .int (x1)), (2, .int (x2))] [] := by
    intro   hf
    unfold fX6_isReadingOf_J12 at hf
    refine wa_iload_n hC dX6_isReadingOf_12 rfl 2 rfl ?_
    refine wa_iconst (v := 0) hC dX6_isReadingOf_13 (by decide) ?_
    refine wa_aload_n hC dX6_isReadingOf_14 rfl 0 rfl ?_
    refine rg6_0 hC fiX6_isReadingOf_6 mbX6_isReadingOf_10 dX6_isReadingOf_15 ?_
    refine wa_iload_n hC dX6_isReadingOf_18 rfl 1 rfl ?_
    obtain ⟨v1, h1, hf⟩ := bd hf
    refine wa_callr (rest := [_, _]) (wr_V hC (kX2_track l G (show kd 1 = 2 from rfl) h1) (cwV 1 hC.1.2.2.2.2 gX6_isReadingOf_X2_track rfl rfl rfl (by decide +kernel) ⟨Nat.le_of_ble_eq_true rfl, Nat.le_of_ble_eq_true rfl⟩) (show kd 1 = 2 from rfl) (by decide) (ce2 (show kd 1 = 2 from rfl)) rfl rfl rfl rfl (Nat.le_of_ble_eq_true rfl) dX6_isReadingOf_19) ?_
    obtain ⟨_, g2, hf⟩ := bd hf
    have g2 := gk_some g2
    refine rgn5_2 hC fiX6_isReadingOf_5 g2 (nwf_BaroRuns_101 hC.2.2.2) dX6_isReadingOf_22 ?_
    refine wa_iconst (v := 1) hC dX6_isReadingOf_25 (by decide) ?_
    refine wa_isub hC dX6_isReadingOf_26 ?_
    obtain ⟨v3, h3, hf⟩ := bd hf
    refine wa_calli (rest := []) (wr_S hC (kX6_within l G h3) (va_cwS 3 hC.1.2.2.2.2 gX6_isReadingOf_X6_within rfl rfl rfl (by decide +kernel) ⟨Nat.le_of_ble_eq_true rfl, Nat.le_of_ble_eq_true rfl⟩) rfl rfl (Nat.le_of_ble_eq_true rfl) dX6_isReadingOf_27) ?_
    refine wa_if_eq hC 37 dX6_isReadingOf_30 (by decide) (fun c4 => ?_) (fun c4 => ?_)
    · have hf := ite_t hf c4
      refine wa_iconst (v := 0) hC dX6_isReadingOf_37 (by decide) ?_
      exact wa_zret hC hlk hr (congrArg b2 (so_inj hf)) rfl dX6_isReadingOf_38
    · have hf := ite_f hf c4
      refine wa_iconst (v := 1) hC dX6_isReadingOf_33 (by decide) ?_
      refine wa_goto hC 38 dX6_isReadingOf_34 (by decide) ?_
      exact wa_zret hC hlk hr (congrArg b2 (so_inj hf)) rfl dX6_isReadingOf_38
  unfold fX6_isReadingOf at hf
  refine wa_iload_n hC dX6_isReadingOf_0 rfl 1 rfl ?_
  refine wa_iconst (v := -1) hC dX6_isReadingOf_1 (by decide) ?_
  refine wa_icmp_eq hC 12 dX6_isReadingOf_2 (by decide) (fun c5 => ?_) (fun c5 => ?_)
  · have hf := ite_t hf c5
    exact wa_sub [0, 1, 2] rfl (hJ12   hf)
  · have hf := ite_f hf c5
    refine wa_iload_n hC dX6_isReadingOf_5 rfl 1 rfl ?_
    obtain ⟨v6, h6, hf⟩ := bd hf
    refine wa_calli (rest := []) (wr_S hC (kX6_isCell l G h6) (va_cwS 1 hC.1.2.2.2.2 gX6_isReadingOf_X6_isCell rfl rfl rfl (by decide +kernel) ⟨Nat.le_of_ble_eq_true rfl, Nat.le_of_ble_eq_true rfl⟩) rfl rfl (Nat.le_of_ble_eq_true rfl) dX6_isReadingOf_6) ?_
    refine wa_if_eq hC 37 dX6_isReadingOf_9 (by decide) (fun c7 => ?_) (fun c7 => ?_)
    · have hf := ite_t hf c7
      refine wa_iconst (v := 0) hC dX6_isReadingOf_37 (by decide) ?_
      exact wa_zret hC hlk hr (congrArg b2 (so_inj hf)) rfl dX6_isReadingOf_38
    · have hf := ite_f hf c7
      exact wa_sub [0, 1, 2] rfl (hJ12   hf)
abbrev rmX6_drop : Room := { frames := 5, cells := 0, slots := 0, locals := 144 }
theorem fiX6_drop_5 : ∀ w ∈ u_ws RX5 TX5 3, w ∈ wsX6_drop := by decide +kernel
theorem fiX6_drop_6 : ∀ w ∈ u_ws RX6 TX6 9, w ∈ wsX6_drop := by decide +kernel
theorem mbX6_drop_10 : Cond.fieldLink RX6 10 "BaroRuns" "now" "LBaroRuns$State;" ∈ wsX6_drop := by decide +kernel
theorem mbX6_drop_61 : Cond.constant RX6 61 (-2000000001) ∈ wsX6_drop := by decide +kernel
set_option maxHeartbeats 4000000 in
set_option maxRecDepth 100000 in
theorem kX6_drop (l : Launch) (G : wG) {x1 : Int32} {x2 : Int32} {M0 M1 : wM} {r : Int32} (hf : fX6_drop x1 x2 M0 = some (r, M1)) : mI l yX6_drop wsX6_drop rmX6_drop G [.ref (ga G (0)), .int (x1), .int (x2)] M0 r M1 := by
  refine mI.of (cc := cX6_drop) (nL := 4) (ret := (some .int)) (own := RX6) (lv := [(0, .ref (ga G (0))), (1, .int (x1)), (2, .int (x2))]) (plainFor_of_name (by decide +kernel)) rfl rfl (Nat.le_of_ble_eq_true rfl) rfl ?_
  intro p e s m args below meth c hC hr hlk
  unfold fX6_drop at hf
  refine wa_aload_n hC dX6_drop_0 rfl 0 rfl ?_
  refine wa_iload_n hC dX6_drop_1 rfl 1 rfl ?_
  refine wa_iload_n hC dX6_drop_2 rfl 2 rfl ?_
  obtain ⟨v1, h1, hf⟩ := bd hf
  refine wa_calli (rest := []) (wr_V hC (kX6_isReadingOf l G h1) (cwV 2 hC.1.2.2.2.2 gX6_drop_X6_isReadingOf rfl rfl rfl (by decide +kernel) ⟨Nat.le_of_ble_eq_true rfl, Nat.le_of_ble_eq_true rfl⟩) (show kd 0 = 6 from rfl) (by decide) (ce6 (show kd 0 = 6 from rfl)) rfl rfl rfl rfl (Nat.le_of_ble_eq_true rfl) dX6_drop_3) ?_
  refine wa_if_ne hC 12 dX6_drop_6 (by decide) (fun c2 => ?_) (fun c2 => ?_)
  · have hf := ite_f hf c2
    refine wa_aload_n hC dX6_drop_12 rfl 0 rfl ?_
    obtain ⟨M3, h3, hf⟩ := bd hf
    refine wa_callv (rest := []) (wr_V hC (kX6_record l G h3) (cwV 0 hC.1.2.2.2.2 gX6_drop_X6_record rfl rfl rfl (by decide +kernel) ⟨Nat.le_of_ble_eq_true rfl, Nat.le_of_ble_eq_true rfl⟩) (show kd 0 = 6 from rfl) (by decide) (ce6 (show kd 0 = 6 from rfl)) rfl rfl rfl rfl (Nat.le_of_ble_eq_true rfl) dX6_drop_13) ?_
    refine wa_aload_n hC dX6_drop_16 rfl 0 rfl ?_
    refine rg6_0 hC fiX6_drop_6 mbX6_drop_10 dX6_drop_17 ?_
    refine wa_iload_n hC dX6_drop_20 rfl 1 rfl ?_
    obtain ⟨v4, h4, hf⟩ := bd hf
    refine wa_callr (rest := []) (wr_V hC (kX2_track l G (show kd 1 = 2 from rfl) h4) (cwV 1 hC.1.2.2.2.2 gX6_drop_X2_track rfl rfl rfl (by decide +kernel) ⟨Nat.le_of_ble_eq_true rfl, Nat.le_of_ble_eq_true rfl⟩) (show kd 1 = 2 from rfl) (by decide) (ce2 (show kd 1 = 2 from rfl)) rfl rfl rfl rfl (Nat.le_of_ble_eq_true rfl) dX6_drop_21) ?_
    obtain ⟨_, g5, hf⟩ := bd hf
    have g5 := gk_some g5
    refine wa_astore_n (lv' := [(3, .ref _), (0, .ref _), (1, .int _), (2, .int _)]) hC dX6_drop_24 rfl (by decide) rfl ?_
    refine wa_aload_n hC dX6_drop_25 rfl 0 rfl ?_
    refine wa_iload_n hC dX6_drop_26 rfl 3 rfl ?_
    obtain ⟨M6, h6, hf⟩ := bd hf
    refine wa_callv (rest := []) (wr_V hC (kX5_remove l G g5 h6) (cwV 1 hC.1.2.2.2.2 gX6_drop_X5_remove rfl rfl rfl (by decide +kernel) ⟨Nat.le_of_ble_eq_true rfl, Nat.le_of_ble_eq_true rfl⟩) g5 (by decide) (ce5 g5) rfl rfl rfl rfl (Nat.le_of_ble_eq_true rfl) dX6_drop_27) ?_
    refine wa_aload_n hC dX6_drop_30 rfl 0 rfl ?_
    refine rgn5_2 hC fiX6_drop_5 g5 (nwf_BaroRuns_101 hC.2.2.2) dX6_drop_31 ?_
    exact wa_iret hC hlk hr (congrArg Prod.fst (so_inj hf)) (congrArg Prod.snd (so_inj hf)) dX6_drop_34
  · have hf := ite_t hf c2
    refine wa_ldc hC mbX6_drop_61 dX6_drop_9 ?_
    exact wa_iret hC hlk hr (congrArg Prod.fst (so_inj hf)) (congrArg Prod.snd (so_inj hf)) dX6_drop_11

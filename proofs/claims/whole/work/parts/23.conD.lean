abbrev rmX6_isSetting : Room := { frames := 1, cells := 0, slots := 0, locals := 22 }
theorem mbX6_isSetting_233 : Cond.constant RX6 233 (-500000) ∈ wsX6_isSetting := by decide +kernel
theorem mbX6_isSetting_234 : Cond.constant RX6 234 (9000000) ∈ wsX6_isSetting := by decide +kernel
set_option maxHeartbeats 4000000 in
set_option maxRecDepth 100000 in
theorem kX6_isSetting (l : Launch) (G : wG) {x0 : Int32} {x1 : Int32} {M0 : wM} {b : Bool} (hf : fX6_isSetting x0 x1 M0 = some b) : mI l yX6_isSetting wsX6_isSetting rmX6_isSetting G [.int (x0), .int (x1)] M0 (b2 b) M0 := by
  refine mI.of (cc := cX6_isSetting) (nL := 2) (ret := (some .boolean)) (own := RX6) (lv := [(0, .int (x0)), (1, .int (x1))]) (plainFor_of_name (by decide +kernel)) rfl rfl (Nat.le_of_ble_eq_true rfl) rfl ?_
  intro p e s m args below meth c hC hr hlk
  unfold fX6_isSetting at hf
  refine wa_iload_n hC dX6_isSetting_0 rfl 0 rfl ?_
  refine ite_e hf (fun c1 hf => ?_) (fun c1 hf => ?_)
  · skip
    refine wa_tableIn (off := 27) hC 28 dX6_isSetting_1 (by rw [c1]; decide) (by rw [c1]; decide) (by rw [c1] <;> decide) (by decide) ?_
    refine wa_iload_n hC dX6_isSetting_28 rfl 1 rfl ?_
    refine wa_ldc hC mbX6_isSetting_233 dX6_isSetting_29 ?_
    refine wa_ldc hC mbX6_isSetting_234 dX6_isSetting_31 ?_
    obtain ⟨v2, h2, hf⟩ := bd hf
    refine wa_calli (rest := []) (wr_S hC (kX6_within l G h2) (va_cwS 3 hC.1.2.2.2.2 gX6_isSetting_X6_within rfl rfl rfl (by decide +kernel) ⟨Nat.le_of_ble_eq_true rfl, Nat.le_of_ble_eq_true rfl⟩) rfl rfl (Nat.le_of_ble_eq_true rfl) dX6_isSetting_33) ?_
    exact wa_zret hC hlk hr (congrArg b2 (so_inj hf)) rfl dX6_isSetting_36
  · skip
    refine ite_e hf (fun c3 hf => ?_) (fun c3 hf => ?_)
    · skip
      refine wa_tableIn (off := 36) hC 37 dX6_isSetting_1 (by rw [c3]; decide) (by rw [c3]; decide) (by rw [c3] <;> decide) (by decide) ?_
      refine wa_iload_n hC dX6_isSetting_37 rfl 1 rfl ?_
      refine wa_iconst (v := 1) hC dX6_isSetting_38 (by decide) ?_
      refine wa_sipush (v := 5000) hC dX6_isSetting_39 (by decide) ?_
      obtain ⟨v4, h4, hf⟩ := bd hf
      refine wa_calli (rest := []) (wr_S hC (kX6_within l G h4) (va_cwS 3 hC.1.2.2.2.2 gX6_isSetting_X6_within rfl rfl rfl (by decide +kernel) ⟨Nat.le_of_ble_eq_true rfl, Nat.le_of_ble_eq_true rfl⟩) rfl rfl (Nat.le_of_ble_eq_true rfl) dX6_isSetting_42) ?_
      exact wa_zret hC hlk hr (congrArg b2 (so_inj hf)) rfl dX6_isSetting_45
    · skip
      refine ite_e hf (fun c5 hf => ?_) (fun c5 hf => ?_)
      · skip
        refine wa_tableIn (off := 45) hC 46 dX6_isSetting_1 (by rw [c5]; decide) (by rw [c5]; decide) (by rw [c5] <;> decide) (by decide) ?_
        refine wa_iload_n hC dX6_isSetting_46 rfl 1 rfl ?_
        refine wa_iconst (v := 1) hC dX6_isSetting_47 (by decide) ?_
        refine wa_sipush (v := 500) hC dX6_isSetting_48 (by decide) ?_
        obtain ⟨v6, h6, hf⟩ := bd hf
        refine wa_calli (rest := []) (wr_S hC (kX6_within l G h6) (va_cwS 3 hC.1.2.2.2.2 gX6_isSetting_X6_within rfl rfl rfl (by decide +kernel) ⟨Nat.le_of_ble_eq_true rfl, Nat.le_of_ble_eq_true rfl⟩) rfl rfl (Nat.le_of_ble_eq_true rfl) dX6_isSetting_51) ?_
        exact wa_zret hC hlk hr (congrArg b2 (so_inj hf)) rfl dX6_isSetting_54
      · skip
        have n1 := ti_ne c1 (a := 0) (by decide)
        have n3 := ti_ne c3 (a := 1) (by decide)
        have n5 := ti_ne c5 (a := 2) (by decide)
        refine wa_tableOut hC 55 dX6_isSetting_1 (by omega) (by decide) ?_
        refine wa_iconst (v := 0) hC dX6_isSetting_55 (by decide) ?_
        exact wa_zret hC hlk hr (congrArg b2 (so_inj hf)) rfl dX6_isSetting_56
abbrev rmX6_record : Room := { frames := 4, cells := 0, slots := 0, locals := 124 }
theorem fiX6_record_6 : ∀ w ∈ u_ws RX6 TX6 9, w ∈ wsX6_record := by decide +kernel
theorem mbX6_record_22 : Cond.fieldLink RX6 22 "BaroRuns" "history" "LBaroRuns$History;" ∈ wsX6_record := by decide +kernel
theorem mbX6_record_10 : Cond.fieldLink RX6 10 "BaroRuns" "now" "LBaroRuns$State;" ∈ wsX6_record := by decide +kernel
theorem mbX6_record_53 : Cond.fieldLink RX6 53 "BaroRuns" "stale" "Z" ∈ wsX6_record := by decide +kernel
set_option maxHeartbeats 4000000 in
set_option maxRecDepth 100000 in
theorem kX6_record (l : Launch) (G : wG)  {M0 M1 : wM} (hf : fX6_record  M0 = some M1) : mV l yX6_record wsX6_record rmX6_record G [.ref (ga G (0))] M0 M1 := by
  refine mV.of (cc := cX6_record) (nL := 1) (ret := none) (own := RX6) (lv := [(0, .ref (ga G (0)))]) (plainFor_of_name (by decide +kernel)) rfl rfl (Nat.le_of_ble_eq_true rfl) rfl ?_
  intro p e s m args below meth c hC hr hlk
  unfold fX6_record at hf
  refine wa_aload_n hC dX6_record_0 rfl 0 rfl ?_
  refine rg6_2 hC fiX6_record_6 mbX6_record_22 dX6_record_1 ?_
  refine wa_aload_n hC dX6_record_4 rfl 0 rfl ?_
  refine rg6_0 hC fiX6_record_6 mbX6_record_10 dX6_record_5 ?_
  obtain ⟨M1, h1, hf⟩ := bd hf
  refine wa_callv (rest := []) (wr_V hC (kX0_keep l G (show kd 19 = 0 from rfl) (show kd 1 = 2 from rfl) h1) (cwV 1 hC.1.2.2.2.2 gX6_record_X0_keep rfl rfl rfl (by decide +kernel) ⟨Nat.le_of_ble_eq_true rfl, Nat.le_of_ble_eq_true rfl⟩) (show kd 19 = 0 from rfl) (by decide) (ce0 (show kd 19 = 0 from rfl)) rfl rfl rfl rfl (Nat.le_of_ble_eq_true rfl) dX6_record_8) ?_
  refine wa_aload_n hC dX6_record_11 rfl 0 rfl ?_
  refine wa_iconst (v := 1) hC dX6_record_12 (by decide) ?_
  refine rp6_8 hC fiX6_record_6 mbX6_record_53 rfl rfl dX6_record_13 ?_
  exact wa_vret hC hlk hr (so_inj hf) dX6_record_16
abbrev rmX6_set : Room := { frames := 5, cells := 0, slots := 0, locals := 144 }
theorem fiX6_set_6 : ∀ w ∈ u_ws RX6 TX6 9, w ∈ wsX6_set := by decide +kernel
theorem mbX6_set_10 : Cond.fieldLink RX6 10 "BaroRuns" "now" "LBaroRuns$State;" ∈ wsX6_set := by decide +kernel
theorem mbX6_set_61 : Cond.constant RX6 61 (-2000000001) ∈ wsX6_set := by decide +kernel
set_option maxHeartbeats 4000000 in
set_option maxRecDepth 100000 in
theorem kX6_set (l : Launch) (G : wG) {x1 : Int32} {x2 : Int32} {M0 M1 : wM} {r : Int32} (hf : fX6_set x1 x2 M0 = some (r, M1)) : mI l yX6_set wsX6_set rmX6_set G [.ref (ga G (0)), .int (x1), .int (x2)] M0 r M1 := by
  refine mI.of (cc := cX6_set) (nL := 4) (ret := (some .int)) (own := RX6) (lv := [(0, .ref (ga G (0))), (1, .int (x1)), (2, .int (x2))]) (plainFor_of_name (by decide +kernel)) rfl rfl (Nat.le_of_ble_eq_true rfl) rfl ?_
  intro p e s m args below meth c hC hr hlk
  unfold fX6_set at hf
  refine wa_iload_n hC dX6_set_0 rfl 1 rfl ?_
  refine wa_iload_n hC dX6_set_1 rfl 2 rfl ?_
  obtain ⟨v1, h1, hf⟩ := bd hf
  refine wa_calli (rest := []) (wr_S hC (kX6_isSetting l G h1) (va_cwS 2 hC.1.2.2.2.2 gX6_set_X6_isSetting rfl rfl rfl (by decide +kernel) ⟨Nat.le_of_ble_eq_true rfl, Nat.le_of_ble_eq_true rfl⟩) rfl rfl (Nat.le_of_ble_eq_true rfl) dX6_set_2) ?_
  refine wa_if_ne hC 11 dX6_set_5 (by decide) (fun c2 => ?_) (fun c2 => ?_)
  · have hf := ite_f hf c2
    refine wa_aload_n hC dX6_set_11 rfl 0 rfl ?_
    obtain ⟨M3, h3, hf⟩ := bd hf
    refine wa_callv (rest := []) (wr_V hC (kX6_record l G h3) (cwV 0 hC.1.2.2.2.2 gX6_set_X6_record rfl rfl rfl (by decide +kernel) ⟨Nat.le_of_ble_eq_true rfl, Nat.le_of_ble_eq_true rfl⟩) (show kd 0 = 6 from rfl) (by decide) (ce6 (show kd 0 = 6 from rfl)) rfl rfl rfl rfl (Nat.le_of_ble_eq_true rfl) dX6_set_12) ?_
    refine wa_aload_n hC dX6_set_15 rfl 0 rfl ?_
    refine rg6_0 hC fiX6_set_6 mbX6_set_10 dX6_set_16 ?_
    refine wa_iload_n hC dX6_set_19 rfl 1 rfl ?_
    obtain ⟨v4, h4, hf⟩ := bd hf
    refine wa_calli (rest := []) (wr_V hC (kX2_setting l G (show kd 1 = 2 from rfl) h4) (cwV 1 hC.1.2.2.2.2 gX6_set_X2_setting rfl rfl rfl (by decide +kernel) ⟨Nat.le_of_ble_eq_true rfl, Nat.le_of_ble_eq_true rfl⟩) (show kd 1 = 2 from rfl) (by decide) (ce2 (show kd 1 = 2 from rfl)) rfl rfl rfl rfl (Nat.le_of_ble_eq_true rfl) dX6_set_20) ?_
    refine wa_istore_n (lv' := [(3, .int _), (0, .ref _), (1, .int _), (2, .int _)]) hC dX6_set_23 rfl (by decide) rfl ?_
    refine wa_aload_n hC dX6_set_24 rfl 1 rfl ?_
    refine rg6_0 hC fiX6_set_6 mbX6_set_10 dX6_set_25 ?_
    refine wa_iload_n hC dX6_set_28 rfl 2 rfl ?_
    refine wa_iload_n hC dX6_set_29 rfl 3 rfl ?_
    obtain ⟨M5, h5, hf⟩ := bd hf
    refine wa_callv (rest := []) (wr_V hC (kX2_putSetting l G (show kd 1 = 2 from rfl) h5) (cwV 2 hC.1.2.2.2.2 gX6_set_X2_putSetting rfl rfl rfl (by decide +kernel) ⟨Nat.le_of_ble_eq_true rfl, Nat.le_of_ble_eq_true rfl⟩) (show kd 1 = 2 from rfl) (by decide) (ce2 (show kd 1 = 2 from rfl)) rfl rfl rfl rfl (Nat.le_of_ble_eq_true rfl) dX6_set_30) ?_
    refine wa_iload_n hC dX6_set_33 rfl 0 rfl ?_
    exact wa_iret hC hlk hr (congrArg Prod.fst (so_inj hf)) (congrArg Prod.snd (so_inj hf)) dX6_set_34
  · have hf := ite_t hf c2
    refine wa_ldc hC mbX6_set_61 dX6_set_8 ?_
    exact wa_iret hC hlk hr (congrArg Prod.fst (so_inj hf)) (congrArg Prod.snd (so_inj hf)) dX6_set_10
abbrev rmX6_take : Room := { frames := 5, cells := 0, slots := 0, locals := 144 }
theorem fiX6_take_6 : ∀ w ∈ u_ws RX6 TX6 9, w ∈ wsX6_take := by decide +kernel
theorem mbX6_take_10 : Cond.fieldLink RX6 10 "BaroRuns" "now" "LBaroRuns$State;" ∈ wsX6_take := by decide +kernel
theorem mbX6_take_214 : Cond.constant RX6 214 (-2000000003) ∈ wsX6_take := by decide +kernel
theorem mbX6_take_146 : Cond.constant RX6 146 (-2000000002) ∈ wsX6_take := by decide +kernel
set_option maxHeartbeats 4000000 in
set_option maxRecDepth 100000 in
theorem kX6_take (l : Launch) (G : wG) {x1 : Int32} {x2 : Int32} {x3 : Int32} {x4 : Int32} {x5 : Int32} {M0 M1 : wM} {r : Int32} (hf : fX6_take x1 x2 x3 x4 x5 M0 = some (r, M1)) : mI l yX6_take wsX6_take rmX6_take G [.ref (ga G (0)), .int (x1), .int (x2), .int (x3), .int (x4), .int (x5)] M0 r M1 := by
  refine mI.of (cc := cX6_take) (nL := 7) (ret := (some .int)) (own := RX6) (lv := [(0, .ref (ga G (0))), (1, .int (x1)), (2, .int (x2)), (3, .int (x3)), (4, .int (x4)), (5, .int (x5))]) (plainFor_of_name (by decide +kernel)) rfl rfl (Nat.le_of_ble_eq_true rfl) rfl ?_
  intro p e s m args below meth c hC hr hlk
  unfold fX6_take at hf
  refine wa_aload_n hC dX6_take_0 rfl 0 rfl ?_
  refine rg6_0 hC fiX6_take_6 mbX6_take_10 dX6_take_1 ?_
  refine wa_iload_n hC dX6_take_4 rfl 1 rfl ?_
  obtain ⟨v1, h1, hf⟩ := bd hf
  refine wa_callr (rest := []) (wr_V hC (kX2_track l G (show kd 1 = 2 from rfl) h1) (cwV 1 hC.1.2.2.2.2 gX6_take_X2_track rfl rfl rfl (by decide +kernel) ⟨Nat.le_of_ble_eq_true rfl, Nat.le_of_ble_eq_true rfl⟩) (show kd 1 = 2 from rfl) (by decide) (ce2 (show kd 1 = 2 from rfl)) rfl rfl rfl rfl (Nat.le_of_ble_eq_true rfl) dX6_take_5) ?_
  obtain ⟨_, g2, hf⟩ := bd hf
  have g2 := gk_some g2
  refine wa_astore (lv' := [(6, .ref _), (0, .ref _), (1, .int _), (2, .int _), (3, .int _), (4, .int _), (5, .int _)]) hC dX6_take_8 (by decide) rfl ?_
  refine wa_aload hC dX6_take_10 0 rfl ?_
  refine wa_iload_n hC dX6_take_12 rfl 4 rfl ?_
  obtain ⟨v3, h3, hf⟩ := bd hf
  refine wa_calli (rest := []) (wr_V hC (kX5_hasTime l G g2 h3) (cwV 1 hC.1.2.2.2.2 gX6_take_X5_hasTime rfl rfl rfl (by decide +kernel) ⟨Nat.le_of_ble_eq_true rfl, Nat.le_of_ble_eq_true rfl⟩) g2 (by decide) (ce5 g2) rfl rfl rfl rfl (Nat.le_of_ble_eq_true rfl) dX6_take_13) ?_
  refine wa_if_eq hC 22 dX6_take_16 (by decide) (fun c4 => ?_) (fun c4 => ?_)
  · have hf := ite_t hf c4
    refine wa_aload hC dX6_take_22 0 rfl ?_
    obtain ⟨v5, h5, hf⟩ := bd hf
    refine wa_calli (rest := []) (wr_V hC (kX5_isFull l G g2 h5) (cwV 0 hC.1.2.2.2.2 gX6_take_X5_isFull rfl rfl rfl (by decide +kernel) ⟨Nat.le_of_ble_eq_true rfl, Nat.le_of_ble_eq_true rfl⟩) g2 (by decide) (ce5 g2) rfl rfl rfl rfl (Nat.le_of_ble_eq_true rfl) dX6_take_24) ?_
    refine wa_if_eq hC 33 dX6_take_27 (by decide) (fun c6 => ?_) (fun c6 => ?_)
    · have hf := ite_t hf c6
      refine wa_aload_n hC dX6_take_33 rfl 1 rfl ?_
      obtain ⟨M7, h7, hf⟩ := bd hf
      refine wa_callv (rest := []) (wr_V hC (kX6_record l G h7) (cwV 0 hC.1.2.2.2.2 gX6_take_X6_record rfl rfl rfl (by decide +kernel) ⟨Nat.le_of_ble_eq_true rfl, Nat.le_of_ble_eq_true rfl⟩) (show kd 0 = 6 from rfl) (by decide) (ce6 (show kd 0 = 6 from rfl)) rfl rfl rfl rfl (Nat.le_of_ble_eq_true rfl) dX6_take_34) ?_
      refine wa_aload hC dX6_take_37 0 rfl ?_
      refine wa_iload_n hC dX6_take_39 rfl 3 rfl ?_
      refine wa_iload_n hC dX6_take_40 rfl 4 rfl ?_
      refine wa_iload hC dX6_take_41 5 rfl ?_
      refine wa_iload hC dX6_take_43 6 rfl ?_
      obtain ⟨⟨v8, M8⟩, h8, hf⟩ := bd hf
      dsimp only at hf
      refine wa_calli (rest := []) (wr_V hC (kX5_insert l G g2 h8) (cwV 4 hC.1.2.2.2.2 gX6_take_X5_insert rfl rfl rfl (by decide +kernel) ⟨Nat.le_of_ble_eq_true rfl, Nat.le_of_ble_eq_true rfl⟩) g2 (by decide) (ce5 g2) rfl rfl rfl rfl (Nat.le_of_ble_eq_true rfl) dX6_take_45) ?_
      exact wa_iret hC hlk hr (congrArg Prod.fst (so_inj hf)) (congrArg Prod.snd (so_inj hf)) dX6_take_48
    · have hf := ite_f hf c6
      refine wa_ldc hC mbX6_take_214 dX6_take_30 ?_
      exact wa_iret hC hlk hr (congrArg Prod.fst (so_inj hf)) (congrArg Prod.snd (so_inj hf)) dX6_take_32
  · have hf := ite_f hf c4
    refine wa_ldc hC mbX6_take_146 dX6_take_19 ?_
    exact wa_iret hC hlk hr (congrArg Prod.fst (so_inj hf)) (congrArg Prod.snd (so_inj hf)) dX6_take_21
abbrev rmX6_base : Room := { frames := 6, cells := 0, slots := 0, locals := 170 }
theorem mbX6_base_61 : Cond.constant RX6 61 (-2000000001) ∈ wsX6_base := by decide +kernel
set_option maxHeartbeats 4000000 in
set_option maxRecDepth 100000 in
theorem kX6_base (l : Launch) (G : wG) {x1 : Int32} {x2 : Int32} {x3 : Int32} {M0 M1 : wM} {r : Int32} (hf : fX6_base x1 x2 x3 M0 = some (r, M1)) : mI l yX6_base wsX6_base rmX6_base G [.ref (ga G (0)), .int (x1), .int (x2), .int (x3)] M0 r M1 := by
  refine mI.of (cc := cX6_base) (nL := 4) (ret := (some .int)) (own := RX6) (lv := [(0, .ref (ga G (0))), (1, .int (x1)), (2, .int (x2)), (3, .int (x3))]) (plainFor_of_name (by decide +kernel)) rfl rfl (Nat.le_of_ble_eq_true rfl) rfl ?_
  intro p e s m args below meth c hC hr hlk
  unfold fX6_base at hf
  refine wa_iload_n hC dX6_base_0 rfl 1 rfl ?_
  refine wa_iload_n hC dX6_base_1 rfl 2 rfl ?_
  refine wa_iload_n hC dX6_base_2 rfl 3 rfl ?_
  obtain ⟨v1, h1, hf⟩ := bd hf
  refine wa_calli (rest := []) (wr_S hC (kX6_isReading l G h1) (va_cwS 3 hC.1.2.2.2.2 gX6_base_X6_isReading rfl rfl rfl (by decide +kernel) ⟨Nat.le_of_ble_eq_true rfl, Nat.le_of_ble_eq_true rfl⟩) rfl rfl (Nat.le_of_ble_eq_true rfl) dX6_base_3) ?_
  refine wa_if_ne hC 12 dX6_base_6 (by decide) (fun c2 => ?_) (fun c2 => ?_)
  · have hf := ite_f hf c2
    refine wa_aload_n hC dX6_base_12 rfl 0 rfl ?_
    refine wa_iconst (v := -1) hC dX6_base_13 (by decide) ?_
    refine wa_iconst (v := 0) hC dX6_base_14 (by decide) ?_
    refine wa_iload_n hC dX6_base_15 rfl 1 rfl ?_
    refine wa_iload_n hC dX6_base_16 rfl 2 rfl ?_
    refine wa_iload_n hC dX6_base_17 rfl 3 rfl ?_
    obtain ⟨⟨v3, M3⟩, h3, hf⟩ := bd hf
    dsimp only at hf
    refine wa_calli (rest := []) (wr_V hC (kX6_take l G h3) (cwV 5 hC.1.2.2.2.2 gX6_base_X6_take rfl rfl rfl (by decide +kernel) ⟨Nat.le_of_ble_eq_true rfl, Nat.le_of_ble_eq_true rfl⟩) (show kd 0 = 6 from rfl) (by decide) (ce6 (show kd 0 = 6 from rfl)) rfl rfl rfl rfl (Nat.le_of_ble_eq_true rfl) dX6_base_18) ?_
    exact wa_iret hC hlk hr (congrArg Prod.fst (so_inj hf)) (congrArg Prod.snd (so_inj hf)) dX6_base_21
  · have hf := ite_t hf c2
    refine wa_ldc hC mbX6_base_61 dX6_base_9 ?_
    exact wa_iret hC hlk hr (congrArg Prod.fst (so_inj hf)) (congrArg Prod.snd (so_inj hf)) dX6_base_11
abbrev rmX6_isCell : Room := { frames := 1, cells := 0, slots := 0, locals := 22 }
set_option maxHeartbeats 4000000 in
set_option maxRecDepth 100000 in
theorem kX6_isCell (l : Launch) (G : wG) {x0 : Int32} {M0 : wM} {b : Bool} (hf : fX6_isCell x0 M0 = some b) : mI l yX6_isCell wsX6_isCell rmX6_isCell G [.int (x0)] M0 (b2 b) M0 := by
  refine mI.of (cc := cX6_isCell) (nL := 1) (ret := (some .boolean)) (own := RX6) (lv := [(0, .int (x0))]) (plainFor_of_name (by decide +kernel)) rfl rfl (Nat.le_of_ble_eq_true rfl) rfl ?_
  intro p e s m args below meth c hC hr hlk
  unfold fX6_isCell at hf
  refine wa_iload_n hC dX6_isCell_0 rfl 0 rfl ?_
  refine wa_iconst (v := 0) hC dX6_isCell_1 (by decide) ?_
  refine wa_iconst (v := 2) hC dX6_isCell_2 (by decide) ?_
  obtain ⟨v1, h1, hf⟩ := bd hf
  refine wa_calli (rest := []) (wr_S hC (kX6_within l G h1) (va_cwS 3 hC.1.2.2.2.2 gX6_isCell_X6_within rfl rfl rfl (by decide +kernel) ⟨Nat.le_of_ble_eq_true rfl, Nat.le_of_ble_eq_true rfl⟩) rfl rfl (Nat.le_of_ble_eq_true rfl) dX6_isCell_3) ?_
  exact wa_zret hC hlk hr (congrArg b2 (so_inj hf)) rfl dX6_isCell_6
abbrev rmX6_isPoint : Room := { frames := 1, cells := 0, slots := 0, locals := 22 }
set_option maxHeartbeats 4000000 in
set_option maxRecDepth 100000 in
theorem kX6_isPoint (l : Launch) (G : wG) {x0 : Int32} {M0 : wM} {b : Bool} (hf : fX6_isPoint x0 M0 = some b) : mI l yX6_isPoint wsX6_isPoint rmX6_isPoint G [.int (x0)] M0 (b2 b) M0 := by
  refine mI.of (cc := cX6_isPoint) (nL := 1) (ret := (some .boolean)) (own := RX6) (lv := [(0, .int (x0))]) (plainFor_of_name (by decide +kernel)) rfl rfl (Nat.le_of_ble_eq_true rfl) rfl ?_
  intro p e s m args below meth c hC hr hlk
  unfold fX6_isPoint at hf
  refine wa_iload_n hC dX6_isPoint_0 rfl 0 rfl ?_
  refine wa_iconst (v := 0) hC dX6_isPoint_1 (by decide) ?_
  refine wa_bipush (v := 9) hC dX6_isPoint_2 (by decide) ?_
  obtain ⟨v1, h1, hf⟩ := bd hf
  refine wa_calli (rest := []) (wr_S hC (kX6_within l G h1) (va_cwS 3 hC.1.2.2.2.2 gX6_isPoint_X6_within rfl rfl rfl (by decide +kernel) ⟨Nat.le_of_ble_eq_true rfl, Nat.le_of_ble_eq_true rfl⟩) rfl rfl (Nat.le_of_ble_eq_true rfl) dX6_isPoint_4) ?_
  exact wa_zret hC hlk hr (congrArg b2 (so_inj hf)) rfl dX6_isPoint_7
abbrev rmX6_read : Room := { frames := 6, cells := 0, slots := 0, locals := 170 }
theorem mbX6_read_61 : Cond.constant RX6 61 (-2000000001) ∈ wsX6_read := by decide +kernel
set_option maxHeartbeats 4000000 in
set_option maxRecDepth 100000 in
theorem kX6_read (l : Launch) (G : wG) {x1 : Int32} {x2 : Int32} {x3 : Int32} {x4 : Int32} {x5 : Int32} {M0 M1 : wM} {r : Int32} (hf : fX6_read x1 x2 x3 x4 x5 M0 = some (r, M1)) : mI l yX6_read wsX6_read rmX6_read G [.ref (ga G (0)), .int (x1), .int (x2), .int (x3), .int (x4), .int (x5)] M0 r M1 := by
  refine mI.of (cc := cX6_read) (nL := 6) (ret := (some .int)) (own := RX6) (lv := [(0, .ref (ga G (0))), (1, .int (x1)), (2, .int (x2)), (3, .int (x3)), (4, .int (x4)), (5, .int (x5))]) (plainFor_of_name (by decide +kernel)) rfl rfl (Nat.le_of_ble_eq_true rfl) rfl ?_
  intro p e s m args below meth c hC hr hlk
  unfold fX6_read at hf
  refine wa_iload_n hC dX6_read_0 rfl 1 rfl ?_
  obtain ⟨v1, h1, hf⟩ := bd hf
  refine wa_calli (rest := []) (wr_S hC (kX6_isCell l G h1) (va_cwS 1 hC.1.2.2.2.2 gX6_read_X6_isCell rfl rfl rfl (by decide +kernel) ⟨Nat.le_of_ble_eq_true rfl, Nat.le_of_ble_eq_true rfl⟩) rfl rfl (Nat.le_of_ble_eq_true rfl) dX6_read_1) ?_
  refine wa_if_eq hC 25 dX6_read_4 (by decide) (fun c2 => ?_) (fun c2 => ?_)
  · have hf := ite_t hf c2
    refine wa_ldc hC mbX6_read_61 dX6_read_25 ?_
    exact wa_iret hC hlk hr (congrArg Prod.fst (so_inj hf)) (congrArg Prod.snd (so_inj hf)) dX6_read_27
  · have hf := ite_f hf c2
    refine wa_iload_n hC dX6_read_7 rfl 2 rfl ?_
    obtain ⟨v3, h3, hf⟩ := bd hf
    refine wa_calli (rest := []) (wr_S hC (kX6_isPoint l G h3) (va_cwS 1 hC.1.2.2.2.2 gX6_read_X6_isPoint rfl rfl rfl (by decide +kernel) ⟨Nat.le_of_ble_eq_true rfl, Nat.le_of_ble_eq_true rfl⟩) rfl rfl (Nat.le_of_ble_eq_true rfl) dX6_read_8) ?_
    refine wa_if_eq hC 25 dX6_read_11 (by decide) (fun c4 => ?_) (fun c4 => ?_)
    · have hf := ite_t hf c4
      refine wa_ldc hC mbX6_read_61 dX6_read_25 ?_
      exact wa_iret hC hlk hr (congrArg Prod.fst (so_inj hf)) (congrArg Prod.snd (so_inj hf)) dX6_read_27
    · have hf := ite_f hf c4
      refine wa_iload_n hC dX6_read_14 rfl 3 rfl ?_
      refine wa_iload hC dX6_read_15 4 rfl ?_
      refine wa_iload hC dX6_read_17 5 rfl ?_
      obtain ⟨v5, h5, hf⟩ := bd hf
      refine wa_calli (rest := []) (wr_S hC (kX6_isReading l G h5) (va_cwS 3 hC.1.2.2.2.2 gX6_read_X6_isReading rfl rfl rfl (by decide +kernel) ⟨Nat.le_of_ble_eq_true rfl, Nat.le_of_ble_eq_true rfl⟩) rfl rfl (Nat.le_of_ble_eq_true rfl) dX6_read_19) ?_
      refine wa_if_ne hC 28 dX6_read_22 (by decide) (fun c6 => ?_) (fun c6 => ?_)
      · have hf := ite_f hf c6
        refine wa_aload_n hC dX6_read_28 rfl 0 rfl ?_
        refine wa_iload_n hC dX6_read_29 rfl 1 rfl ?_
        refine wa_iload_n hC dX6_read_30 rfl 2 rfl ?_
        refine wa_iload_n hC dX6_read_31 rfl 3 rfl ?_
        refine wa_iload hC dX6_read_32 4 rfl ?_
        refine wa_iload hC dX6_read_34 5 rfl ?_
        obtain ⟨⟨v7, M7⟩, h7, hf⟩ := bd hf
        dsimp only at hf
        refine wa_calli (rest := []) (wr_V hC (kX6_take l G h7) (cwV 5 hC.1.2.2.2.2 gX6_read_X6_take rfl rfl rfl (by decide +kernel) ⟨Nat.le_of_ble_eq_true rfl, Nat.le_of_ble_eq_true rfl⟩) (show kd 0 = 6 from rfl) (by decide) (ce6 (show kd 0 = 6 from rfl)) rfl rfl rfl rfl (Nat.le_of_ble_eq_true rfl) dX6_read_36) ?_
        exact wa_iret hC hlk hr (congrArg Prod.fst (so_inj hf)) (congrArg Prod.snd (so_inj hf)) dX6_read_39
      · have hf := ite_t hf c6
        refine wa_ldc hC mbX6_read_61 dX6_read_25 ?_
        exact wa_iret hC hlk hr (congrArg Prod.fst (so_inj hf)) (congrArg Prod.snd (so_inj hf)) dX6_read_27
abbrev rmX6_isReadingOf : Room := { frames := 2, cells := 0, slots := 0, locals := 42 }
theorem fiX6_isReadingOf_5 : ∀ w ∈ u_ws RX5 TX5 3, w ∈ wsX6_isReadingOf := by decide +kernel
theorem fiX6_isReadingOf_6 : ∀ w ∈ u_ws RX6 TX6 9, w ∈ wsX6_isReadingOf := by decide +kernel
theorem mbX6_isReadingOf_10 : Cond.fieldLink RX6 10 "BaroRuns" "now" "LBaroRuns$State;" ∈ wsX6_isReadingOf := by decide +kernel
set_option maxHeartbeats 4000000 in
set_option maxRecDepth 100000 in
theorem kX6_isReadingOf (l : Launch) (G : wG) {x1 : Int32} {x2 : Int32} {M0 : wM} {b : Bool} (hf : fX6_isReadingOf x1 x2 M0 = some b) : mI l yX6_isReadingOf wsX6_isReadingOf rmX6_isReadingOf G [.ref (ga G (0)), .int (x1), .int (x2)] M0 (b2 b) M0 := by
  refine mI.of (cc := cX6_isReadingOf) (nL := 3) (ret := (some .boolean)) (own := RX6) (lv := [(0, .ref (ga G (0))), (1, .int (x1)), (2, .int (x2))]) (plainFor_of_name (by decide +kernel)) rfl rfl (Nat.le_of_ble_eq_true rfl) rfl ?_
  intro p e s m args below meth c hC hr hlk
  have hJ12 : fX6_isReadingOf_J12 x1 x2 M0 = some b → wAt p l e rmX6_isReadingOf s m args below meth c (qI below args s G (b2 b) M0) 3 G M0 12 [(0, .ref (ga G (0))), (1, .int (x1)), (2, .int (x2))] [] := by
    intro   hf
    unfold fX6_isReadingOf_J12 at hf
    refine wa_iload_n hC dX6_isReadingOf_12 rfl 2 rfl ?_
    refine wa_iconst (v := 0) hC dX6_isReadingOf_13 (by decide) ?_
    refine wa_aload_n hC dX6_isReadingOf_14 rfl 0 rfl ?_
    refine rg6_0 hC fiX6_isReadingOf_6 mbX6_isReadingOf_10 dX6_isReadingOf_15 ?_
    refine wa_iload_n hC dX6_isReadingOf_18 rfl 1 rfl ?_
    obtain ⟨v1, h1, hf⟩ := bd hf
    refine wa_callr (rest := [_, _]) (wr_V hC (kX2_track l G (show kd 1 = 2 from rfl) h1) (cwV 1 hC.1.2.2.2.2 gX6_isReadingOf_X2_track rfl rfl rfl (by decide +kernel) ⟨Nat.le_of_ble_eq_true rfl, Nat.le_of_ble_eq_true rfl⟩) (show kd 1 = 2 from rfl) (by decide) (ce2 (show kd 1 = 2 from rfl)) rfl rfl rfl rfl (Nat.le_of_ble_eq_true rfl) dX6_isReadingOf_19) ?_
    obtain ⟨_, g2, hf⟩ := bd hf
    have g2 := gk_some g2
    refine rgn5_2 hC fiX6_isReadingOf_5 g2 (nwf_BaroRuns_101 hC.2.2.2) dX6_isReadingOf_22 ?_
    refine wa_iconst (v := 1) hC dX6_isReadingOf_25 (by decide) ?_
    refine wa_isub hC dX6_isReadingOf_26 ?_
    obtain ⟨v3, h3, hf⟩ := bd hf
    refine wa_calli (rest := []) (wr_S hC (kX6_within l G h3) (va_cwS 3 hC.1.2.2.2.2 gX6_isReadingOf_X6_within rfl rfl rfl (by decide +kernel) ⟨Nat.le_of_ble_eq_true rfl, Nat.le_of_ble_eq_true rfl⟩) rfl rfl (Nat.le_of_ble_eq_true rfl) dX6_isReadingOf_27) ?_
    refine wa_if_eq hC 37 dX6_isReadingOf_30 (by decide) (fun c4 => ?_) (fun c4 => ?_)
    · have hf := ite_t hf c4
      refine wa_iconst (v := 0) hC dX6_isReadingOf_37 (by decide) ?_
      exact wa_zret hC hlk hr (congrArg b2 (so_inj hf)) rfl dX6_isReadingOf_38
    · have hf := ite_f hf c4
      refine wa_iconst (v := 1) hC dX6_isReadingOf_33 (by decide) ?_
      refine wa_goto hC 38 dX6_isReadingOf_34 (by decide) ?_
      exact wa_zret hC hlk hr (congrArg b2 (so_inj hf)) rfl dX6_isReadingOf_38
  unfold fX6_isReadingOf at hf
  refine wa_iload_n hC dX6_isReadingOf_0 rfl 1 rfl ?_
  refine wa_iconst (v := -1) hC dX6_isReadingOf_1 (by decide) ?_
  refine wa_icmp_eq hC 12 dX6_isReadingOf_2 (by decide) (fun c5 => ?_) (fun c5 => ?_)
  · have hf := ite_t hf c5
    exact wa_sub [0, 1, 2] rfl (hJ12   hf)
  · have hf := ite_f hf c5
    refine wa_iload_n hC dX6_isReadingOf_5 rfl 1 rfl ?_
    obtain ⟨v6, h6, hf⟩ := bd hf
    refine wa_calli (rest := []) (wr_S hC (kX6_isCell l G h6) (va_cwS 1 hC.1.2.2.2.2 gX6_isReadingOf_X6_isCell rfl rfl rfl (by decide +kernel) ⟨Nat.le_of_ble_eq_true rfl, Nat.le_of_ble_eq_true rfl⟩) rfl rfl (Nat.le_of_ble_eq_true rfl) dX6_isReadingOf_6) ?_
    refine wa_if_eq hC 37 dX6_isReadingOf_9 (by decide) (fun c7 => ?_) (fun c7 => ?_)
    · have hf := ite_t hf c7
      refine wa_iconst (v := 0) hC dX6_isReadingOf_37 (by decide) ?_
      exact wa_zret hC hlk hr (congrArg b2 (so_inj hf)) rfl dX6_isReadingOf_38
    · have hf := ite_f hf c7
      exact wa_sub [0, 1, 2] rfl (hJ12   hf)
abbrev rmX6_drop : Room := { frames := 5, cells := 0, slots := 0, locals := 144 }
theorem fiX6_drop_5 : ∀ w ∈ u_ws RX5 TX5 3, w ∈ wsX6_drop := by decide +kernel
theorem fiX6_drop_6 : ∀ w ∈ u_ws RX6 TX6 9, w ∈ wsX6_drop := by decide +kernel
theorem mbX6_drop_10 : Cond.fieldLink RX6 10 "BaroRuns" "now" "LBaroRuns$State;" ∈ wsX6_drop := by decide +kernel
theorem mbX6_drop_61 : Cond.constant RX6 61 (-2000000001) ∈ wsX6_drop := by decide +kernel
set_option maxHeartbeats 4000000 in
set_option maxRecDepth 100000 in
theorem kX6_drop (l : Launch) (G : wG) {x1 : Int32} {x2 : Int32} {M0 M1 : wM} {r : Int32} (hf : fX6_drop x1 x2 M0 = some (r, M1)) : mI l yX6_drop wsX6_drop rmX6_drop G [.ref (ga G (0)), .int (x1), .int (x2)] M0 r M1 := by
  refine mI.of (cc := cX6_drop) (nL := 4) (ret := (some .int)) (own := RX6) (lv := [(0, .ref (ga G (0))), (1, .int (x1)), (2, .int (x2))]) (plainFor_of_name (by decide +kernel)) rfl rfl (Nat.le_of_ble_eq_true rfl) rfl ?_
  intro p e s m args below meth c hC hr hlk
  unfold fX6_drop at hf
  refine wa_aload_n hC dX6_drop_0 rfl 0 rfl ?_
  refine wa_iload_n hC dX6_drop_1 rfl 1 rfl ?_
  refine wa_iload_n hC dX6_drop_2 rfl 2 rfl ?_
  obtain ⟨v1, h1, hf⟩ := bd hf
  refine wa_calli (rest := []) (wr_V hC (kX6_isReadingOf l G h1) (cwV 2 hC.1.2.2.2.2 gX6_drop_X6_isReadingOf rfl rfl rfl (by decide +kernel) ⟨Nat.le_of_ble_eq_true rfl, Nat.le_of_ble_eq_true rfl⟩) (show kd 0 = 6 from rfl) (by decide) (ce6 (show kd 0 = 6 from rfl)) rfl rfl rfl rfl (Nat.le_of_ble_eq_true rfl) dX6_drop_3) ?_
  refine wa_if_ne hC 12 dX6_drop_6 (by decide) (fun c2 => ?_) (fun c2 => ?_)
  · have hf := ite_f hf c2
    refine wa_aload_n hC dX6_drop_12 rfl 0 rfl ?_
    obtain ⟨M3, h3, hf⟩ := bd hf
    refine wa_callv (rest := []) (wr_V hC (kX6_record l G h3) (cwV 0 hC.1.2.2.2.2 gX6_drop_X6_record rfl rfl rfl (by decide +kernel) ⟨Nat.le_of_ble_eq_true rfl, Nat.le_of_ble_eq_true rfl⟩) (show kd 0 = 6 from rfl) (by decide) (ce6 (show kd 0 = 6 from rfl)) rfl rfl rfl rfl (Nat.le_of_ble_eq_true rfl) dX6_drop_13) ?_
    refine wa_aload_n hC dX6_drop_16 rfl 0 rfl ?_
    refine rg6_0 hC fiX6_drop_6 mbX6_drop_10 dX6_drop_17 ?_
    refine wa_iload_n hC dX6_drop_20 rfl 1 rfl ?_
    obtain ⟨v4, h4, hf⟩ := bd hf
    refine wa_callr (rest := []) (wr_V hC (kX2_track l G (show kd 1 = 2 from rfl) h4) (cwV 1 hC.1.2.2.2.2 gX6_drop_X2_track rfl rfl rfl (by decide +kernel) ⟨Nat.le_of_ble_eq_true rfl, Nat.le_of_ble_eq_true rfl⟩) (show kd 1 = 2 from rfl) (by decide) (ce2 (show kd 1 = 2 from rfl)) rfl rfl rfl rfl (Nat.le_of_ble_eq_true rfl) dX6_drop_21) ?_
    obtain ⟨_, g5, hf⟩ := bd hf
    have g5 := gk_some g5
    refine wa_astore_n (lv' := [(3, .ref _), (0, .ref _), (1, .int _), (2, .int _)]) hC dX6_drop_24 rfl (by decide) rfl ?_
    refine wa_aload_n hC dX6_drop_25 rfl 0 rfl ?_
    refine wa_iload_n hC dX6_drop_26 rfl 3 rfl ?_
    obtain ⟨M6, h6, hf⟩ := bd hf
    refine wa_callv (rest := []) (wr_V hC (kX5_remove l G g5 h6) (cwV 1 hC.1.2.2.2.2 gX6_drop_X5_remove rfl rfl rfl (by decide +kernel) ⟨Nat.le_of_ble_eq_true rfl, Nat.le_of_ble_eq_true rfl⟩) g5 (by decide) (ce5 g5) rfl rfl rfl rfl (Nat.le_of_ble_eq_true rfl) dX6_drop_27) ?_
    refine wa_aload_n hC dX6_drop_30 rfl 0 rfl ?_
    refine rgn5_2 hC fiX6_drop_5 g5 (nwf_BaroRuns_101 hC.2.2.2) dX6_drop_31 ?_
    exact wa_iret hC hlk hr (congrArg Prod.fst (so_inj hf)) (congrArg Prod.snd (so_inj hf)) dX6_drop_34
  · have hf := ite_t hf c2
    refine wa_ldc hC mbX6_drop_61 dX6_drop_9 ?_
    exact wa_iret hC hlk hr (congrArg Prod.fst (so_inj hf)) (congrArg Prod.snd (so_inj hf)) dX6_drop_11
abbrev rmX6_refresh : Room := { frames := 5, cells := 0, slots := 0, locals := 135 }
theorem fiX6_refresh_6 : ∀ w ∈ u_ws RX6 TX6 9, w ∈ wsX6_refresh := by decide +kernel
theorem mbX6_refresh_53 : Cond.fieldLink RX6 53 "BaroRuns" "stale" "Z" ∈ wsX6_refresh := by decide +kernel
theorem mbX6_refresh_29 : Cond.fieldLink RX6 29 "BaroRuns" "firstSurvey" "LBaroRuns$Survey;" ∈ wsX6_refresh := by decide +kernel
theorem mbX6_refresh_10 : Cond.fieldLink RX6 10 "BaroRuns" "now" "LBaroRuns$State;" ∈ wsX6_refresh := by decide +kernel
theorem mbX6_refresh_33 : Cond.fieldLink RX6 33 "BaroRuns" "secondSurvey" "LBaroRuns$Survey;" ∈ wsX6_refresh := by decide +kernel
theorem mbX6_refresh_36 : Cond.fieldLink RX6 36 "BaroRuns" "thirdSurvey" "LBaroRuns$Survey;" ∈ wsX6_refresh := by decide +kernel
set_option maxHeartbeats 4000000 in
set_option maxRecDepth 100000 in
theorem kX6_refresh (l : Launch) (G : wG)  {M0 M1 : wM} (hf : fX6_refresh  M0 = some M1) : mV l yX6_refresh wsX6_refresh rmX6_refresh G [.ref (ga G (0))] M0 M1 := by
  refine mV.of (cc := cX6_refresh) (nL := 1) (ret := none) (own := RX6) (lv := [(0, .ref (ga G (0)))]) (plainFor_of_name (by decide +kernel)) rfl rfl (Nat.le_of_ble_eq_true rfl) rfl ?_
  intro p e s m args below meth c hC hr hlk
  unfold fX6_refresh at hf
  refine wa_aload_n hC dX6_refresh_0 rfl 0 rfl ?_
  refine rg6_8 hC fiX6_refresh_6 mbX6_refresh_53 dX6_refresh_1 ?_
  refine wa_if_eq hC 48 dX6_refresh_4 (by decide) (fun c1 => ?_) (fun c1 => ?_)
  · have hf := ite_t hf c1
    exact wa_vret hC hlk hr (so_inj hf) dX6_refresh_48
  · have hf := ite_f hf c1
    refine wa_aload_n hC dX6_refresh_7 rfl 0 rfl ?_
    refine rg6_3 hC fiX6_refresh_6 mbX6_refresh_29 dX6_refresh_8 ?_
    refine wa_aload_n hC dX6_refresh_11 rfl 0 rfl ?_
    refine rg6_0 hC fiX6_refresh_6 mbX6_refresh_10 dX6_refresh_12 ?_
    refine wa_iconst (v := 0) hC dX6_refresh_15 (by decide) ?_
    obtain ⟨M2, h2, hf⟩ := bd hf
    refine wa_callv (rest := []) (wr_V hC (kX3_workOut l G (show kd 66 = 3 from rfl) (show kd 1 = 2 from rfl) h2) (cwV 2 hC.1.2.2.2.2 gX6_refresh_X3_workOut rfl rfl rfl (by decide +kernel) ⟨Nat.le_of_ble_eq_true rfl, Nat.le_of_ble_eq_true rfl⟩) (show kd 66 = 3 from rfl) (by decide) (ce3 (show kd 66 = 3 from rfl)) rfl rfl rfl rfl (Nat.le_of_ble_eq_true rfl) dX6_refresh_16) ?_
    refine wa_aload_n hC dX6_refresh_19 rfl 0 rfl ?_
    refine rg6_4 hC fiX6_refresh_6 mbX6_refresh_33 dX6_refresh_20 ?_
    refine wa_aload_n hC dX6_refresh_23 rfl 0 rfl ?_
    refine rg6_0 hC fiX6_refresh_6 mbX6_refresh_10 dX6_refresh_24 ?_
    refine wa_iconst (v := 1) hC dX6_refresh_27 (by decide) ?_
    obtain ⟨M3, h3, hf⟩ := bd hf
    refine wa_callv (rest := []) (wr_V hC (kX3_workOut l G (show kd 75 = 3 from rfl) (show kd 1 = 2 from rfl) h3) (cwV 2 hC.1.2.2.2.2 gX6_refresh_X3_workOut rfl rfl rfl (by decide +kernel) ⟨Nat.le_of_ble_eq_true rfl, Nat.le_of_ble_eq_true rfl⟩) (show kd 75 = 3 from rfl) (by decide) (ce3 (show kd 75 = 3 from rfl)) rfl rfl rfl rfl (Nat.le_of_ble_eq_true rfl) dX6_refresh_28) ?_
    refine wa_aload_n hC dX6_refresh_31 rfl 0 rfl ?_
    refine rg6_5 hC fiX6_refresh_6 mbX6_refresh_36 dX6_refresh_32 ?_
    refine wa_aload_n hC dX6_refresh_35 rfl 0 rfl ?_
    refine rg6_0 hC fiX6_refresh_6 mbX6_refresh_10 dX6_refresh_36 ?_
    refine wa_iconst (v := 2) hC dX6_refresh_39 (by decide) ?_
    obtain ⟨M4, h4, hf⟩ := bd hf
    refine wa_callv (rest := []) (wr_V hC (kX3_workOut l G (show kd 84 = 3 from rfl) (show kd 1 = 2 from rfl) h4) (cwV 2 hC.1.2.2.2.2 gX6_refresh_X3_workOut rfl rfl rfl (by decide +kernel) ⟨Nat.le_of_ble_eq_true rfl, Nat.le_of_ble_eq_true rfl⟩) (show kd 84 = 3 from rfl) (by decide) (ce3 (show kd 84 = 3 from rfl)) rfl rfl rfl rfl (Nat.le_of_ble_eq_true rfl) dX6_refresh_40) ?_
    refine wa_aload_n hC dX6_refresh_43 rfl 0 rfl ?_
    refine wa_iconst (v := 0) hC dX6_refresh_44 (by decide) ?_
    refine rp6_8 hC fiX6_refresh_6 mbX6_refresh_53 rfl rfl dX6_refresh_45 ?_
    exact wa_vret hC hlk hr (so_inj hf) dX6_refresh_48
abbrev rmX6_surveyOf : Room := { frames := 0, cells := 0, slots := 0, locals := 0 }
theorem fiX6_surveyOf_6 : ∀ w ∈ u_ws RX6 TX6 9, w ∈ wsX6_surveyOf := by decide +kernel
theorem mbX6_surveyOf_29 : Cond.fieldLink RX6 29 "BaroRuns" "firstSurvey" "LBaroRuns$Survey;" ∈ wsX6_surveyOf := by decide +kernel
theorem mbX6_surveyOf_33 : Cond.fieldLink RX6 33 "BaroRuns" "secondSurvey" "LBaroRuns$Survey;" ∈ wsX6_surveyOf := by decide +kernel
theorem mbX6_surveyOf_36 : Cond.fieldLink RX6 36 "BaroRuns" "thirdSurvey" "LBaroRuns$Survey;" ∈ wsX6_surveyOf := by decide +kernel
set_option maxHeartbeats 4000000 in
set_option maxRecDepth 100000 in
theorem kX6_surveyOf (l : Launch) (G : wG) {x1 : Int32} {M0 : wM} {r : Nat} (hf : fX6_surveyOf x1 M0 = some r) : mR l yX6_surveyOf wsX6_surveyOf rmX6_surveyOf G [.ref (ga G (0)), .int (x1)] M0 r M0 := by
  refine mR.of (cc := cX6_surveyOf) (nL := 2) (ret := (some (.object "BaroRuns$Survey"))) (own := RX6) (lv := [(0, .ref (ga G (0))), (1, .int (x1))]) (plainFor_of_name (by decide +kernel)) rfl rfl (Nat.le_of_ble_eq_true rfl) rfl ?_
  intro p e s m args below meth c hC hr hlk
  unfold fX6_surveyOf at hf
  refine wa_iload_n hC dX6_surveyOf_0 rfl 1 rfl ?_
  refine ite_e hf (fun c1 hf => ?_) (fun c1 hf => ?_)
  · skip
    refine wa_lookup (off := 27) hC 28 dX6_surveyOf_1 (by decide) (by rw [c1] <;> decide) (by decide) ?_
    refine wa_aload_n hC dX6_surveyOf_28 rfl 0 rfl ?_
    refine rg6_3 hC fiX6_surveyOf_6 mbX6_surveyOf_29 dX6_surveyOf_29 ?_
    exact wa_aret hC hlk hr (so_inj hf) rfl dX6_surveyOf_32
  · skip
    refine ite_e hf (fun c2 hf => ?_) (fun c2 hf => ?_)
    · skip
      refine wa_lookup (off := 32) hC 33 dX6_surveyOf_1 (by decide) (by rw [c2] <;> decide) (by decide) ?_
      refine wa_aload_n hC dX6_surveyOf_33 rfl 0 rfl ?_
      refine rg6_4 hC fiX6_surveyOf_6 mbX6_surveyOf_33 dX6_surveyOf_34 ?_
      exact wa_aret hC hlk hr (so_inj hf) rfl dX6_surveyOf_37
    · skip
      refine wa_lookup (off := 37) hC 38 dX6_surveyOf_1 (by decide) ((lv_osw c1 (by decide)).trans ((lv_osw c2 (by decide)).trans (rfl))) (by decide) ?_
      refine wa_aload_n hC dX6_surveyOf_38 rfl 0 rfl ?_
      refine rg6_5 hC fiX6_surveyOf_6 mbX6_surveyOf_36 dX6_surveyOf_39 ?_
      exact wa_aret hC hlk hr (so_inj hf) rfl dX6_surveyOf_42
abbrev rmX6_reading : Room := { frames := 6, cells := 0, slots := 0, locals := 155 }
theorem fiX6_reading_6 : ∀ w ∈ u_ws RX6 TX6 9, w ∈ wsX6_reading := by decide +kernel
theorem mbX6_reading_10 : Cond.fieldLink RX6 10 "BaroRuns" "now" "LBaroRuns$State;" ∈ wsX6_reading := by decide +kernel
theorem mbX6_reading_61 : Cond.constant RX6 61 (-2000000001) ∈ wsX6_reading := by decide +kernel
theorem mbX6_reading_108 : Cond.constant RX6 108 (-2000000004) ∈ wsX6_reading := by decide +kernel
set_option maxHeartbeats 4000000 in
set_option maxRecDepth 100000 in
theorem kX6_reading (l : Launch) (G : wG) {x1 : Int32} {x2 : Int32} {x3 : Int32} {M0 M1 : wM} {r : Int32} (hf : fX6_reading x1 x2 x3 M0 = some (r, M1)) : mI l yX6_reading wsX6_reading rmX6_reading G [.ref (ga G (0)), .int (x1), .int (x2), .int (x3)] M0 r M1 := by
  refine mI.of (cc := cX6_reading) (nL := 4) (ret := (some .int)) (own := RX6) (lv := [(0, .ref (ga G (0))), (1, .int (x1)), (2, .int (x2)), (3, .int (x3))]) (plainFor_of_name (by decide +kernel)) rfl rfl (Nat.le_of_ble_eq_true rfl) rfl ?_
  intro p e s m args below meth c hC hr hlk
  have hJ34 : ∀ (M0 : wM), fX6_reading_J34 x1 x2 x3   M0 = some (r, M1) → wAt p l e rmX6_reading s m args below meth c (qI below args s G r M1) 4 G M0 34 [(0, .ref (ga G (0))), (1, .int (x1)), (2, .int (x2)), (3, .int (x3))] [] := by
    intro   M0 hf
    unfold fX6_reading_J34 at hf
    refine wa_aload_n hC dX6_reading_34 rfl 0 rfl ?_
    obtain ⟨M1, h1, hf⟩ := bd hf
    refine wa_callv (rest := []) (wr_V hC (kX6_refresh l G h1) (cwV 0 hC.1.2.2.2.2 gX6_reading_X6_refresh rfl rfl rfl (by decide +kernel) ⟨Nat.le_of_ble_eq_true rfl, Nat.le_of_ble_eq_true rfl⟩) (show kd 0 = 6 from rfl) (by decide) (ce6 (show kd 0 = 6 from rfl)) rfl rfl rfl rfl (Nat.le_of_ble_eq_true rfl) dX6_reading_35) ?_
    refine wa_iload_n hC dX6_reading_38 rfl 3 rfl ?_
    refine ite_e hf (fun c2 hf => ?_) (fun c2 hf => ?_)
    · skip
      refine wa_lookup (off := 25) hC 64 dX6_reading_39 (by decide) (by rw [c2] <;> decide) (by decide) ?_
      refine wa_aload_n hC dX6_reading_64 rfl 0 rfl ?_
      refine wa_iload_n hC dX6_reading_65 rfl 1 rfl ?_
      obtain ⟨v3, h3, hf⟩ := bd hf
      refine wa_callr (rest := []) (wr_V hC (kX6_surveyOf l G h3) (cwV 1 hC.1.2.2.2.2 gX6_reading_X6_surveyOf rfl rfl rfl (by decide +kernel) ⟨Nat.le_of_ble_eq_true rfl, Nat.le_of_ble_eq_true rfl⟩) (show kd 0 = 6 from rfl) (by decide) (ce6 (show kd 0 = 6 from rfl)) rfl rfl rfl rfl (Nat.le_of_ble_eq_true rfl) dX6_reading_66) ?_
      obtain ⟨_, g4, hf⟩ := bd hf
      have g4 := gk_some g4
      refine wa_iload_n hC dX6_reading_69 rfl 2 rfl ?_
      obtain ⟨v5, h5, hf⟩ := bd hf
      refine wa_calli (rest := []) (wr_V hC (kX3_isGust l G g4 h5) (cwV 1 hC.1.2.2.2.2 gX6_reading_X3_isGust rfl rfl rfl (by decide +kernel) ⟨Nat.le_of_ble_eq_true rfl, Nat.le_of_ble_eq_true rfl⟩) g4 (by decide) (ce3 g4) rfl rfl rfl rfl (Nat.le_of_ble_eq_true rfl) dX6_reading_70) ?_
      refine wa_if_eq hC 80 dX6_reading_73 (by decide) (fun c6 => ?_) (fun c6 => ?_)
      · have hf := ite_t hf c6
        refine wa_iconst (v := 0) hC dX6_reading_80 (by decide) ?_
        exact wa_iret hC hlk hr (congrArg Prod.fst (so_inj hf)) (congrArg Prod.snd (so_inj hf)) dX6_reading_81
      · have hf := ite_f hf c6
        refine wa_iconst (v := 1) hC dX6_reading_76 (by decide) ?_
        refine wa_goto hC 81 dX6_reading_77 (by decide) ?_
        exact wa_iret hC hlk hr (congrArg Prod.fst (so_inj hf)) (congrArg Prod.snd (so_inj hf)) dX6_reading_81
    · skip
      refine ite_e hf (fun c7 hf => ?_) (fun c7 hf => ?_)
      · skip
        refine wa_lookup (off := 43) hC 82 dX6_reading_39 (by decide) (by rw [c7] <;> decide) (by decide) ?_
        refine wa_aload_n hC dX6_reading_82 rfl 0 rfl ?_
        refine wa_iload_n hC dX6_reading_83 rfl 1 rfl ?_
        obtain ⟨v8, h8, hf⟩ := bd hf
        refine wa_callr (rest := []) (wr_V hC (kX6_surveyOf l G h8) (cwV 1 hC.1.2.2.2.2 gX6_reading_X6_surveyOf rfl rfl rfl (by decide +kernel) ⟨Nat.le_of_ble_eq_true rfl, Nat.le_of_ble_eq_true rfl⟩) (show kd 0 = 6 from rfl) (by decide) (ce6 (show kd 0 = 6 from rfl)) rfl rfl rfl rfl (Nat.le_of_ble_eq_true rfl) dX6_reading_84) ?_
        obtain ⟨_, g9, hf⟩ := bd hf
        have g9 := gk_some g9
        refine wa_iload_n hC dX6_reading_87 rfl 2 rfl ?_
        obtain ⟨v10, h10, hf⟩ := bd hf
        refine wa_calli (rest := []) (wr_V hC (kX3_isGood l G g9 h10) (cwV 1 hC.1.2.2.2.2 gX6_reading_X3_isGood rfl rfl rfl (by decide +kernel) ⟨Nat.le_of_ble_eq_true rfl, Nat.le_of_ble_eq_true rfl⟩) g9 (by decide) (ce3 g9) rfl rfl rfl rfl (Nat.le_of_ble_eq_true rfl) dX6_reading_88) ?_
        refine wa_if_eq hC 98 dX6_reading_91 (by decide) (fun c11 => ?_) (fun c11 => ?_)
        · have hf := ite_t hf c11
          refine wa_iconst (v := 0) hC dX6_reading_98 (by decide) ?_
          exact wa_iret hC hlk hr (congrArg Prod.fst (so_inj hf)) (congrArg Prod.snd (so_inj hf)) dX6_reading_99
        · have hf := ite_f hf c11
          refine wa_iconst (v := 1) hC dX6_reading_94 (by decide) ?_
          refine wa_goto hC 99 dX6_reading_95 (by decide) ?_
          exact wa_iret hC hlk hr (congrArg Prod.fst (so_inj hf)) (congrArg Prod.snd (so_inj hf)) dX6_reading_99
      · skip
        refine wa_lookup (off := 61) hC 100 dX6_reading_39 (by decide) ((lv_osw c2 (by decide)).trans ((lv_osw c7 (by decide)).trans (rfl))) (by decide) ?_
        refine wa_aload_n hC dX6_reading_100 rfl 0 rfl ?_
        refine rg6_0 hC fiX6_reading_6 mbX6_reading_10 dX6_reading_101 ?_
        refine wa_iload_n hC dX6_reading_104 rfl 1 rfl ?_
        obtain ⟨v12, h12, hf⟩ := bd hf
        refine wa_callr (rest := []) (wr_V hC (kX2_track l G (show kd 1 = 2 from rfl) h12) (cwV 1 hC.1.2.2.2.2 gX6_reading_X2_track rfl rfl rfl (by decide +kernel) ⟨Nat.le_of_ble_eq_true rfl, Nat.le_of_ble_eq_true rfl⟩) (show kd 1 = 2 from rfl) (by decide) (ce2 (show kd 1 = 2 from rfl)) rfl rfl rfl rfl (Nat.le_of_ble_eq_true rfl) dX6_reading_105) ?_
        obtain ⟨_, g13, hf⟩ := bd hf
        have g13 := gk_some g13
        refine wa_iload_n hC dX6_reading_108 rfl 2 rfl ?_
        refine wa_iload_n hC dX6_reading_109 rfl 3 rfl ?_
        obtain ⟨v14, h14, hf⟩ := bd hf
        refine wa_calli (rest := []) (wr_V hC (kX5_value l G g13 h14) (cwV 2 hC.1.2.2.2.2 gX6_reading_X5_value rfl rfl rfl (by decide +kernel) ⟨Nat.le_of_ble_eq_true rfl, Nat.le_of_ble_eq_true rfl⟩) g13 (by decide) (ce5 g13) rfl rfl rfl rfl (Nat.le_of_ble_eq_true rfl) dX6_reading_110) ?_
        exact wa_iret hC hlk hr (congrArg Prod.fst (so_inj hf)) (congrArg Prod.snd (so_inj hf)) dX6_reading_113
  unfold fX6_reading at hf
  refine wa_aload_n hC dX6_reading_0 rfl 0 rfl ?_
  refine wa_iload_n hC dX6_reading_1 rfl 1 rfl ?_
  refine wa_iload_n hC dX6_reading_2 rfl 2 rfl ?_
  obtain ⟨v15, h15, hf⟩ := bd hf
  refine wa_calli (rest := []) (wr_V hC (kX6_isReadingOf l G h15) (cwV 2 hC.1.2.2.2.2 gX6_reading_X6_isReadingOf rfl rfl rfl (by decide +kernel) ⟨Nat.le_of_ble_eq_true rfl, Nat.le_of_ble_eq_true rfl⟩) (show kd 0 = 6 from rfl) (by decide) (ce6 (show kd 0 = 6 from rfl)) rfl rfl rfl rfl (Nat.le_of_ble_eq_true rfl) dX6_reading_3) ?_
  refine wa_if_eq hC 18 dX6_reading_6 (by decide) (fun c16 => ?_) (fun c16 => ?_)
  · have hf := ite_t hf c16
    refine wa_ldc hC mbX6_reading_61 dX6_reading_18 ?_
    exact wa_iret hC hlk hr (congrArg Prod.fst (so_inj hf)) (congrArg Prod.snd (so_inj hf)) dX6_reading_20
  · have hf := ite_f hf c16
    refine wa_iload_n hC dX6_reading_9 rfl 3 rfl ?_
    refine wa_iconst (v := 0) hC dX6_reading_10 (by decide) ?_
    refine wa_iconst (v := 5) hC dX6_reading_11 (by decide) ?_
    obtain ⟨v17, h17, hf⟩ := bd hf
    refine wa_calli (rest := []) (wr_S hC (kX6_within l G h17) (va_cwS 3 hC.1.2.2.2.2 gX6_reading_X6_within rfl rfl rfl (by decide +kernel) ⟨Nat.le_of_ble_eq_true rfl, Nat.le_of_ble_eq_true rfl⟩) rfl rfl (Nat.le_of_ble_eq_true rfl) dX6_reading_12) ?_
    refine wa_if_ne hC 21 dX6_reading_15 (by decide) (fun c18 => ?_) (fun c18 => ?_)
    · have hf := ite_f hf c18
      refine wa_iload_n hC dX6_reading_21 rfl 1 rfl ?_
      refine wa_iconst (v := -1) hC dX6_reading_22 (by decide) ?_
      refine wa_icmp_ne hC 34 dX6_reading_23 (by decide) (fun c19 => ?_) (fun c19 => ?_)
      · have hf := ite_f hf c19
        exact wa_sub [0, 1, 2, 3] rfl (hJ34   _ hf)
      · have hf := ite_t hf c19
        refine wa_iload_n hC dX6_reading_26 rfl 3 rfl ?_
        refine wa_iconst (v := 3) hC dX6_reading_27 (by decide) ?_
        refine wa_icmp_lt hC 34 dX6_reading_28 (by decide) (fun c20 => ?_) (fun c20 => ?_)
        · have hf := ite_t hf c20
          exact wa_sub [0, 1, 2, 3] rfl (hJ34   _ hf)
        · have hf := ite_f hf c20
          refine wa_ldc hC mbX6_reading_108 dX6_reading_31 ?_
          exact wa_iret hC hlk hr (congrArg Prod.fst (so_inj hf)) (congrArg Prod.snd (so_inj hf)) dX6_reading_33
    · have hf := ite_t hf c18
      refine wa_ldc hC mbX6_reading_61 dX6_reading_18 ?_
      exact wa_iret hC hlk hr (congrArg Prod.fst (so_inj hf)) (congrArg Prod.snd (so_inj hf)) dX6_reading_20
abbrev rmX6_gather : Room := { frames := 4, cells := 0, slots := 0, locals := 87 }
theorem fiX6_gather_6 : ∀ w ∈ u_ws RX6 TX6 9, w ∈ wsX6_gather := by decide +kernel
theorem mbX6_gather_42 : Cond.fieldLink RX6 42 "BaroRuns" "pointSum" "LBaroRuns$PointSum;" ∈ wsX6_gather := by decide +kernel
set_option maxHeartbeats 4000000 in
set_option maxRecDepth 100000 in
theorem kX6_gather (l : Launch) (G : wG) {x1 : Int32} {M0 M1 : wM} (hf : fX6_gather x1 M0 = some M1) : mV l yX6_gather wsX6_gather rmX6_gather G [.ref (ga G (0)), .int (x1)] M0 M1 := by
  refine mV.of (cc := cX6_gather) (nL := 3) (ret := none) (own := RX6) (lv := [(0, .ref (ga G (0))), (1, .int (x1))]) (plainFor_of_name (by decide +kernel)) rfl rfl (Nat.le_of_ble_eq_true rfl) rfl ?_
  intro p e s m args below meth c hC hr hlk
  have hB9 : ∀ (bk9 : Int32 → wM → Option wM) (hbk9 : (∀ (x2 : Int32) (M0 : wM), bk9 x2 M0 = some M1 → wAt p l e rmX6_gather s m args below meth c (qV below args s G M1) 3 G M0 9 [(0, .ref (ga G (0))), (1, .int (x1)), (2, .int (x2))] [])) (x2 : Int32) (M0 : wM), fX6_gather_B9 x1 bk9 x2 M0 = some M1 → wAt p l e rmX6_gather s m args below meth c (qV below args s G M1) 3 G M0 9 [(0, .ref (ga G (0))), (1, .int (x1)), (2, .int (x2))] [] := by
    intro bk9 hbk9 x2 M0 hf
    unfold fX6_gather_B9 at hf
    refine wa_iload_n hC dX6_gather_9 rfl 2 rfl ?_
    refine wa_iconst (v := 3) hC dX6_gather_10 (by decide) ?_
    refine wa_icmp_ge hC 33 dX6_gather_11 (by decide) (fun c1 => ?_) (fun c1 => ?_)
    · have hf := ite_t hf c1
      exact wa_vret hC hlk hr (so_inj hf) dX6_gather_33
    · have hf := ite_f hf c1
      refine wa_aload_n hC dX6_gather_14 rfl 0 rfl ?_
      refine wa_iload_n hC dX6_gather_15 rfl 2 rfl ?_
      obtain ⟨v2, h2, hf⟩ := bd hf
      refine wa_callr (rest := []) (wr_V hC (kX6_surveyOf l G h2) (cwV 1 hC.1.2.2.2.2 gX6_gather_X6_surveyOf rfl rfl rfl (by decide +kernel) ⟨Nat.le_of_ble_eq_true rfl, Nat.le_of_ble_eq_true rfl⟩) (show kd 0 = 6 from rfl) (by decide) (ce6 (show kd 0 = 6 from rfl)) rfl rfl rfl rfl (Nat.le_of_ble_eq_true rfl) dX6_gather_16) ?_
      obtain ⟨_, g3, hf⟩ := bd hf
      have g3 := gk_some g3
      refine wa_aload_n hC dX6_gather_19 rfl 0 rfl ?_
      refine rg6_6 hC fiX6_gather_6 mbX6_gather_42 dX6_gather_20 ?_
      refine wa_iload_n hC dX6_gather_23 rfl 1 rfl ?_
      obtain ⟨M4, h4, hf⟩ := bd hf
      refine wa_callv (rest := []) (wr_V hC (kX3_addTo l G g3 (show kd 93 = 1 from rfl) h4) (cwV 2 hC.1.2.2.2.2 gX6_gather_X3_addTo rfl rfl rfl (by decide +kernel) ⟨Nat.le_of_ble_eq_true rfl, Nat.le_of_ble_eq_true rfl⟩) g3 (by decide) (ce3 g3) rfl rfl rfl rfl (Nat.le_of_ble_eq_true rfl) dX6_gather_24) ?_
      refine wa_iinc (v := _ + 1) (lv' := [(2, .int _), (0, .ref _), (1, .int _)]) hC dX6_gather_27 (t := 2) rfl rfl (by decide) rfl ?_
      refine wa_goto hC 9 dX6_gather_30 (by decide) ?_
      exact wa_sub [1, 2, 0] rfl (hbk9 _ _ hf)
  have hL9 : ∀ (n : Nat) (x2 : Int32) (M0 : wM), fX6_gather_L9 x1  n x2 M0 = some M1 → wAt p l e rmX6_gather s m args below meth c (qV below args s G M1) 3 G M0 9 [(0, .ref (ga G (0))), (1, .int (x1)), (2, .int (x2))] [] := by
    intro  n
    induction n with
    | zero =>
      intro x2 M0 hf
      exact absurd hf (by simp [fX6_gather_L9])
    | succ n ih =>
      intro x2 M0 hf
      exact hB9  (fX6_gather_L9 x1  n) ih x2 M0 hf
  unfold fX6_gather at hf
  refine wa_aload_n hC dX6_gather_0 rfl 0 rfl ?_
  refine rg6_6 hC fiX6_gather_6 mbX6_gather_42 dX6_gather_1 ?_
  obtain ⟨M5, h5, hf⟩ := bd hf
  refine wa_callv (rest := []) (wr_V hC (kX1_clear l G (show kd 93 = 1 from rfl) h5) (cwV 0 hC.1.2.2.2.2 gX6_gather_X1_clear rfl rfl rfl (by decide +kernel) ⟨Nat.le_of_ble_eq_true rfl, Nat.le_of_ble_eq_true rfl⟩) (show kd 93 = 1 from rfl) (by decide) (ce1 (show kd 93 = 1 from rfl)) rfl rfl rfl rfl (Nat.le_of_ble_eq_true rfl) dX6_gather_4) ?_
  refine wa_iconst (v := 0) hC dX6_gather_7 (by decide) ?_
  refine wa_istore_n (lv' := [(2, .int _), (0, .ref _), (1, .int _)]) hC dX6_gather_8 rfl (by decide) rfl ?_
  exact wa_sub [1, 2, 0] rfl (hL9 FU _ _ hf)
abbrev rmX6_pointsWithHeight : Room := { frames := 5, cells := 0, slots := 0, locals := 109 }
theorem fiX6_pointsWithHeight_1 : ∀ w ∈ u_ws RX1 TX1 4, w ∈ wsX6_pointsWithHeight := by decide +kernel
theorem fiX6_pointsWithHeight_6 : ∀ w ∈ u_ws RX6 TX6 9, w ∈ wsX6_pointsWithHeight := by decide +kernel
theorem mbX6_pointsWithHeight_42 : Cond.fieldLink RX6 42 "BaroRuns" "pointSum" "LBaroRuns$PointSum;" ∈ wsX6_pointsWithHeight := by decide +kernel
set_option maxHeartbeats 4000000 in
set_option maxRecDepth 100000 in
theorem kX6_pointsWithHeight (l : Launch) (G : wG)  {M0 M1 : wM} {r : Int32} (hf : fX6_pointsWithHeight  M0 = some (r, M1)) : mI l yX6_pointsWithHeight wsX6_pointsWithHeight rmX6_pointsWithHeight G [.ref (ga G (0))] M0 r M1 := by
  refine mI.of (cc := cX6_pointsWithHeight) (nL := 3) (ret := (some .int)) (own := RX6) (lv := [(0, .ref (ga G (0)))]) (plainFor_of_name (by decide +kernel)) rfl rfl (Nat.le_of_ble_eq_true rfl) rfl ?_
  intro p e s m args below meth c hC hr hlk
  have hB4 : ∀ (bk4 : Int32 → Int32 → wM → Option (Int32 × wM)) (hbk4 : (∀ (x1 : Int32) (x2 : Int32) (M0 : wM), bk4 x1 x2 M0 = some (r, M1) → wAt p l e rmX6_pointsWithHeight s m args below meth c (qI below args s G r M1) 3 G M0 4 [(0, .ref (ga G (0))), (1, .int (x1)), (2, .int (x2))] [])) (x1 : Int32) (x2 : Int32) (M0 : wM), fX6_pointsWithHeight_B4  bk4 x1 x2 M0 = some (r, M1) → wAt p l e rmX6_pointsWithHeight s m args below meth c (qI below args s G r M1) 3 G M0 4 [(0, .ref (ga G (0))), (1, .int (x1)), (2, .int (x2))] [] := by
    intro bk4 hbk4 x1 x2 M0 hf
    unfold fX6_pointsWithHeight_B4 at hf
    refine wa_iload_n hC dX6_pointsWithHeight_4 rfl 2 rfl ?_
    refine wa_bipush (v := 10) hC dX6_pointsWithHeight_5 (by decide) ?_
    refine wa_icmp_ge hC 39 dX6_pointsWithHeight_7 (by decide) (fun c1 => ?_) (fun c1 => ?_)
    · have hf := ite_t hf c1
      refine wa_iload_n hC dX6_pointsWithHeight_39 rfl 1 rfl ?_
      exact wa_iret hC hlk hr (congrArg Prod.fst (so_inj hf)) (congrArg Prod.snd (so_inj hf)) dX6_pointsWithHeight_40
    · have hf := ite_f hf c1
      refine wa_aload_n hC dX6_pointsWithHeight_10 rfl 0 rfl ?_
      refine wa_iload_n hC dX6_pointsWithHeight_11 rfl 2 rfl ?_
      obtain ⟨M2, h2, hf⟩ := bd hf
      refine wa_callv (rest := []) (wr_V hC (kX6_gather l G h2) (cwV 1 hC.1.2.2.2.2 gX6_pointsWithHeight_X6_gather rfl rfl rfl (by decide +kernel) ⟨Nat.le_of_ble_eq_true rfl, Nat.le_of_ble_eq_true rfl⟩) (show kd 0 = 6 from rfl) (by decide) (ce6 (show kd 0 = 6 from rfl)) rfl rfl rfl rfl (Nat.le_of_ble_eq_true rfl) dX6_pointsWithHeight_12) ?_
      refine wa_iload_n hC dX6_pointsWithHeight_15 rfl 1 rfl ?_
      refine wa_aload_n hC dX6_pointsWithHeight_16 rfl 0 rfl ?_
      refine rg6_6 hC fiX6_pointsWithHeight_6 mbX6_pointsWithHeight_42 dX6_pointsWithHeight_17 ?_
      refine rgn1_1 hC fiX6_pointsWithHeight_1 (show kd 93 = 1 from rfl) (nwf_BaroRuns_200 hC.2.2.2) dX6_pointsWithHeight_20 ?_
      refine wa_if_le hC 30 dX6_pointsWithHeight_23 (by decide) (fun c3 => ?_) (fun c3 => ?_)
      · have hf := ite_t hf c3
        refine wa_iconst (v := 0) hC dX6_pointsWithHeight_30 (by decide) ?_
        refine wa_iadd hC dX6_pointsWithHeight_31 ?_
        refine wa_istore_n (lv' := [(1, .int _), (0, .ref _), (2, .int _)]) hC dX6_pointsWithHeight_32 rfl (by decide) rfl ?_
        refine wa_iinc (v := _ + 1) (lv' := [(2, .int _), (1, .int _), (0, .ref _)]) hC dX6_pointsWithHeight_33 (t := 2) rfl rfl (by decide) rfl ?_
        refine wa_goto hC 4 dX6_pointsWithHeight_36 (by decide) ?_
        exact wa_sub [2, 1, 0] rfl (hbk4 _ _ _ hf)
      · have hf := ite_f hf c3
        refine wa_iconst (v := 1) hC dX6_pointsWithHeight_26 (by decide) ?_
        refine wa_goto hC 31 dX6_pointsWithHeight_27 (by decide) ?_
        refine wa_iadd hC dX6_pointsWithHeight_31 ?_
        refine wa_istore_n (lv' := [(1, .int _), (0, .ref _), (2, .int _)]) hC dX6_pointsWithHeight_32 rfl (by decide) rfl ?_
        refine wa_iinc (v := _ + 1) (lv' := [(2, .int _), (1, .int _), (0, .ref _)]) hC dX6_pointsWithHeight_33 (t := 2) rfl rfl (by decide) rfl ?_
        refine wa_goto hC 4 dX6_pointsWithHeight_36 (by decide) ?_
        exact wa_sub [2, 1, 0] rfl (hbk4 _ _ _ hf)
  have hL4 : ∀ (n : Nat) (x1 : Int32) (x2 : Int32) (M0 : wM), fX6_pointsWithHeight_L4   n x1 x2 M0 = some (r, M1) → wAt p l e rmX6_pointsWithHeight s m args below meth c (qI below args s G r M1) 3 G M0 4 [(0, .ref (ga G (0))), (1, .int (x1)), (2, .int (x2))] [] := by
    intro  n
    induction n with
    | zero =>
      intro x1 x2 M0 hf
      exact absurd hf (by simp [fX6_pointsWithHeight_L4])
    | succ n ih =>
      intro x1 x2 M0 hf
      exact hB4  (fX6_pointsWithHeight_L4   n) ih x1 x2 M0 hf
  unfold fX6_pointsWithHeight at hf
  refine wa_iconst (v := 0) hC dX6_pointsWithHeight_0 (by decide) ?_
  refine wa_istore_n (lv' := [(1, .int _), (0, .ref _)]) hC dX6_pointsWithHeight_1 rfl (by decide) rfl ?_
  refine wa_iconst (v := 0) hC dX6_pointsWithHeight_2 (by decide) ?_
  refine wa_istore_n (lv' := [(2, .int _), (1, .int _), (0, .ref _)]) hC dX6_pointsWithHeight_3 rfl (by decide) rfl ?_
  exact wa_sub [2, 1, 0] rfl (hL4 FU _ _ _ hf)
abbrev rmX6_count : Room := { frames := 6, cells := 0, slots := 0, locals := 155 }
theorem fiX6_count_0 : ∀ w ∈ u_ws RX0 TX0 3, w ∈ wsX6_count := by decide +kernel
theorem fiX6_count_3 : ∀ w ∈ u_ws RX3 TX3 12, w ∈ wsX6_count := by decide +kernel
theorem fiX6_count_4 : ∀ w ∈ u_ws RX4 TX4 11, w ∈ wsX6_count := by decide +kernel
theorem fiX6_count_5 : ∀ w ∈ u_ws RX5 TX5 3, w ∈ wsX6_count := by decide +kernel
theorem fiX6_count_6 : ∀ w ∈ u_ws RX6 TX6 9, w ∈ wsX6_count := by decide +kernel
theorem mbX6_count_10 : Cond.fieldLink RX6 10 "BaroRuns" "now" "LBaroRuns$State;" ∈ wsX6_count := by decide +kernel
theorem mbX6_count_29 : Cond.fieldLink RX6 29 "BaroRuns" "firstSurvey" "LBaroRuns$Survey;" ∈ wsX6_count := by decide +kernel
theorem mbX6_count_33 : Cond.fieldLink RX6 33 "BaroRuns" "secondSurvey" "LBaroRuns$Survey;" ∈ wsX6_count := by decide +kernel
theorem mbX6_count_36 : Cond.fieldLink RX6 36 "BaroRuns" "thirdSurvey" "LBaroRuns$Survey;" ∈ wsX6_count := by decide +kernel
theorem mbX6_count_22 : Cond.fieldLink RX6 22 "BaroRuns" "history" "LBaroRuns$History;" ∈ wsX6_count := by decide +kernel
theorem mbX6_count_49 : Cond.fieldLink RX6 49 "BaroRuns" "text" "LBaroRuns$Text;" ∈ wsX6_count := by decide +kernel
theorem mbX6_count_61 : Cond.constant RX6 61 (-2000000001) ∈ wsX6_count := by decide +kernel
set_option maxHeartbeats 4000000 in
set_option maxRecDepth 100000 in
theorem kX6_count (l : Launch) (G : wG) {x1 : Int32} {M0 M1 : wM} {r : Int32} (hf : fX6_count x1 M0 = some (r, M1)) : mI l yX6_count wsX6_count rmX6_count G [.ref (ga G (0)), .int (x1)] M0 r M1 := by
  refine mI.of (cc := cX6_count) (nL := 2) (ret := (some .int)) (own := RX6) (lv := [(0, .ref (ga G (0))), (1, .int (x1))]) (plainFor_of_name (by decide +kernel)) rfl rfl (Nat.le_of_ble_eq_true rfl) rfl ?_
  intro p e s m args below meth c hC hr hlk
  have hJ167 : ∀ (M0 : wM), fX6_count_J167 x1   M0 = some (r, M1) → wAt p l e rmX6_count s m args below meth c (qI below args s G r M1) 2 G M0 167 [(0, .ref (ga G (0))), (1, .int (x1))] [] := by
    intro   M0 hf
    unfold fX6_count_J167 at hf
    refine wa_aload_n hC dX6_count_167 rfl 0 rfl ?_
    refine rg6_0 hC fiX6_count_6 mbX6_count_10 dX6_count_168 ?_
    refine wa_iload_n hC dX6_count_171 rfl 1 rfl ?_
    refine wa_bipush (v := 10) hC dX6_count_172 (by decide) ?_
    refine wa_isub hC dX6_count_174 ?_
    obtain ⟨v1, h1, hf⟩ := bd hf
    refine wa_calli (rest := []) (wr_V hC (kX2_setting l G (show kd 1 = 2 from rfl) h1) (cwV 1 hC.1.2.2.2.2 gX6_count_X2_setting rfl rfl rfl (by decide +kernel) ⟨Nat.le_of_ble_eq_true rfl, Nat.le_of_ble_eq_true rfl⟩) (show kd 1 = 2 from rfl) (by decide) (ce2 (show kd 1 = 2 from rfl)) rfl rfl rfl rfl (Nat.le_of_ble_eq_true rfl) dX6_count_175) ?_
    exact wa_iret hC hlk hr (congrArg Prod.fst (so_inj hf)) (congrArg Prod.snd (so_inj hf)) dX6_count_178
  have hJ76 : ∀ (M0 : wM), fX6_count_J76 x1   M0 = some (r, M1) → wAt p l e rmX6_count s m args below meth c (qI below args s G r M1) 2 G M0 76 [(0, .ref (ga G (0))), (1, .int (x1))] [] := by
    intro   M0 hf
    unfold fX6_count_J76 at hf
    refine wa_aload_n hC dX6_count_76 rfl 0 rfl ?_
    refine rg6_0 hC fiX6_count_6 mbX6_count_10 dX6_count_77 ?_
    refine wa_iload_n hC dX6_count_80 rfl 1 rfl ?_
    refine wa_iconst (v := 1) hC dX6_count_81 (by decide) ?_
    refine wa_isub hC dX6_count_82 ?_
    obtain ⟨v2, h2, hf⟩ := bd hf
    refine wa_callr (rest := []) (wr_V hC (kX2_track l G (show kd 1 = 2 from rfl) h2) (cwV 1 hC.1.2.2.2.2 gX6_count_X2_track rfl rfl rfl (by decide +kernel) ⟨Nat.le_of_ble_eq_true rfl, Nat.le_of_ble_eq_true rfl⟩) (show kd 1 = 2 from rfl) (by decide) (ce2 (show kd 1 = 2 from rfl)) rfl rfl rfl rfl (Nat.le_of_ble_eq_true rfl) dX6_count_83) ?_
    obtain ⟨_, g3, hf⟩ := bd hf
    have g3 := gk_some g3
    refine rgn5_2 hC fiX6_count_5 g3 (nwf_BaroRuns_101 hC.2.2.2) dX6_count_86 ?_
    exact wa_iret hC hlk hr (congrArg Prod.fst (so_inj hf)) (congrArg Prod.snd (so_inj hf)) dX6_count_89
  unfold fX6_count at hf
  refine wa_aload_n hC dX6_count_0 rfl 0 rfl ?_
  obtain ⟨M4, h4, hf⟩ := bd hf
  refine wa_callv (rest := []) (wr_V hC (kX6_refresh l G h4) (cwV 0 hC.1.2.2.2.2 gX6_count_X6_refresh rfl rfl rfl (by decide +kernel) ⟨Nat.le_of_ble_eq_true rfl, Nat.le_of_ble_eq_true rfl⟩) (show kd 0 = 6 from rfl) (by decide) (ce6 (show kd 0 = 6 from rfl)) rfl rfl rfl rfl (Nat.le_of_ble_eq_true rfl) dX6_count_1) ?_
  refine wa_iload_n hC dX6_count_4 rfl 1 rfl ?_
  refine ite_e hf (fun c5 hf => ?_) (fun c5 hf => ?_)
  · skip
    refine wa_tableIn (off := 71) hC 76 dX6_count_5 (by rw [c5]; decide) (by rw [c5]; decide) (by rw [c5] <;> decide) (by decide) ?_
    exact wa_sub [0, 1] rfl (hJ76   _ hf)
  · skip
    refine ite_e hf (fun c6 hf => ?_) (fun c6 hf => ?_)
    · skip
      refine wa_tableIn (off := 71) hC 76 dX6_count_5 (by rw [c6]; decide) (by rw [c6]; decide) (by rw [c6] <;> decide) (by decide) ?_
      exact wa_sub [0, 1] rfl (hJ76   _ hf)
    · skip
      refine ite_e hf (fun c7 hf => ?_) (fun c7 hf => ?_)
      · skip
        refine wa_tableIn (off := 71) hC 76 dX6_count_5 (by rw [c7]; decide) (by rw [c7]; decide) (by rw [c7] <;> decide) (by decide) ?_
        exact wa_sub [0, 1] rfl (hJ76   _ hf)
      · skip
        refine ite_e hf (fun c8 hf => ?_) (fun c8 hf => ?_)
        · skip
          refine wa_tableIn (off := 71) hC 76 dX6_count_5 (by rw [c8]; decide) (by rw [c8]; decide) (by rw [c8] <;> decide) (by decide) ?_
          exact wa_sub [0, 1] rfl (hJ76   _ hf)
        · skip
          refine ite_e hf (fun c9 hf => ?_) (fun c9 hf => ?_)
          · skip
            refine wa_tableIn (off := 85) hC 90 dX6_count_5 (by rw [c9]; decide) (by rw [c9]; decide) (by rw [c9] <;> decide) (by decide) ?_
            refine wa_aload_n hC dX6_count_90 rfl 0 rfl ?_
            refine rg6_3 hC fiX6_count_6 mbX6_count_29 dX6_count_91 ?_
            refine rgn3_9 hC fiX6_count_3 (show kd 66 = 3 from rfl) (nwf_BaroRuns_126 hC.2.2.2) dX6_count_94 ?_
            refine wa_aload_n hC dX6_count_97 rfl 0 rfl ?_
            refine rg6_4 hC fiX6_count_6 mbX6_count_33 dX6_count_98 ?_
            refine rgn3_9 hC fiX6_count_3 (show kd 75 = 3 from rfl) (nwf_BaroRuns_126 hC.2.2.2) dX6_count_101 ?_
            refine wa_iadd hC dX6_count_104 ?_
            refine wa_aload_n hC dX6_count_105 rfl 0 rfl ?_
            refine rg6_5 hC fiX6_count_6 mbX6_count_36 dX6_count_106 ?_
            refine rgn3_9 hC fiX6_count_3 (show kd 84 = 3 from rfl) (nwf_BaroRuns_126 hC.2.2.2) dX6_count_109 ?_
            refine wa_iadd hC dX6_count_112 ?_
            exact wa_iret hC hlk hr (congrArg Prod.fst (so_inj hf)) (congrArg Prod.snd (so_inj hf)) dX6_count_113
          · skip
            refine ite_e hf (fun c10 hf => ?_) (fun c10 hf => ?_)
            · skip
              refine wa_tableIn (off := 109) hC 114 dX6_count_5 (by rw [c10]; decide) (by rw [c10]; decide) (by rw [c10] <;> decide) (by decide) ?_
              refine wa_aload_n hC dX6_count_114 rfl 0 rfl ?_
              refine rg6_3 hC fiX6_count_6 mbX6_count_29 dX6_count_115 ?_
              refine rgn3_11 hC fiX6_count_3 (show kd 66 = 3 from rfl) (nwf_BaroRuns_129 hC.2.2.2) dX6_count_118 ?_
              refine wa_aload_n hC dX6_count_121 rfl 0 rfl ?_
              refine rg6_4 hC fiX6_count_6 mbX6_count_33 dX6_count_122 ?_
              refine rgn3_11 hC fiX6_count_3 (show kd 75 = 3 from rfl) (nwf_BaroRuns_129 hC.2.2.2) dX6_count_125 ?_
              refine wa_iadd hC dX6_count_128 ?_
              refine wa_aload_n hC dX6_count_129 rfl 0 rfl ?_
              refine rg6_5 hC fiX6_count_6 mbX6_count_36 dX6_count_130 ?_
              refine rgn3_11 hC fiX6_count_3 (show kd 84 = 3 from rfl) (nwf_BaroRuns_129 hC.2.2.2) dX6_count_133 ?_
              refine wa_iadd hC dX6_count_136 ?_
              exact wa_iret hC hlk hr (congrArg Prod.fst (so_inj hf)) (congrArg Prod.snd (so_inj hf)) dX6_count_137
            · skip
              refine ite_e hf (fun c11 hf => ?_) (fun c11 hf => ?_)
              · skip
                refine wa_tableIn (off := 133) hC 138 dX6_count_5 (by rw [c11]; decide) (by rw [c11]; decide) (by rw [c11] <;> decide) (by decide) ?_
                refine wa_aload_n hC dX6_count_138 rfl 0 rfl ?_
                refine rg6_0 hC fiX6_count_6 mbX6_count_10 dX6_count_139 ?_
                obtain ⟨v12, h12, hf⟩ := bd hf
                refine wa_calli (rest := []) (wr_V hC (kX2_steps l G (show kd 1 = 2 from rfl) h12) (cwV 0 hC.1.2.2.2.2 gX6_count_X2_steps rfl rfl rfl (by decide +kernel) ⟨Nat.le_of_ble_eq_true rfl, Nat.le_of_ble_eq_true rfl⟩) (show kd 1 = 2 from rfl) (by decide) (ce2 (show kd 1 = 2 from rfl)) rfl rfl rfl rfl (Nat.le_of_ble_eq_true rfl) dX6_count_142) ?_
                exact wa_iret hC hlk hr (congrArg Prod.fst (so_inj hf)) (congrArg Prod.snd (so_inj hf)) dX6_count_145
              · skip
                refine ite_e hf (fun c13 hf => ?_) (fun c13 hf => ?_)
                · skip
                  refine wa_tableIn (off := 141) hC 146 dX6_count_5 (by rw [c13]; decide) (by rw [c13]; decide) (by rw [c13] <;> decide) (by decide) ?_
                  refine wa_aload_n hC dX6_count_146 rfl 0 rfl ?_
                  obtain ⟨⟨v14, M14⟩, h14, hf⟩ := bd hf
                  dsimp only at hf
                  refine wa_calli (rest := []) (wr_V hC (kX6_pointsWithHeight l G h14) (cwV 0 hC.1.2.2.2.2 gX6_count_X6_pointsWithHeight rfl rfl rfl (by decide +kernel) ⟨Nat.le_of_ble_eq_true rfl, Nat.le_of_ble_eq_true rfl⟩) (show kd 0 = 6 from rfl) (by decide) (ce6 (show kd 0 = 6 from rfl)) rfl rfl rfl rfl (Nat.le_of_ble_eq_true rfl) dX6_count_147) ?_
                  exact wa_iret hC hlk hr (congrArg Prod.fst (so_inj hf)) (congrArg Prod.snd (so_inj hf)) dX6_count_150
                · skip
                  refine ite_e hf (fun c15 hf => ?_) (fun c15 hf => ?_)
                  · skip
                    refine wa_tableIn (off := 146) hC 151 dX6_count_5 (by rw [c15]; decide) (by rw [c15]; decide) (by rw [c15] <;> decide) (by decide) ?_
                    refine wa_aload_n hC dX6_count_151 rfl 0 rfl ?_
                    refine rg6_2 hC fiX6_count_6 mbX6_count_22 dX6_count_152 ?_
                    refine rgn0_2 hC fiX6_count_0 (show kd 19 = 0 from rfl) (nwf_BaroRuns_139 hC.2.2.2) dX6_count_155 ?_
                    exact wa_iret hC hlk hr (congrArg Prod.fst (so_inj hf)) (congrArg Prod.snd (so_inj hf)) dX6_count_158
                  · skip
                    refine ite_e hf (fun c16 hf => ?_) (fun c16 hf => ?_)
                    · skip
                      refine wa_tableIn (off := 154) hC 159 dX6_count_5 (by rw [c16]; decide) (by rw [c16]; decide) (by rw [c16] <;> decide) (by decide) ?_
                      refine wa_aload_n hC dX6_count_159 rfl 0 rfl ?_
                      refine rg6_7 hC fiX6_count_6 mbX6_count_49 dX6_count_160 ?_
                      refine rgn4_1 hC fiX6_count_4 (show kd 94 = 4 from rfl) (nwf_BaroRuns_140 hC.2.2.2) dX6_count_163 ?_
                      exact wa_iret hC hlk hr (congrArg Prod.fst (so_inj hf)) (congrArg Prod.snd (so_inj hf)) dX6_count_166
                    · skip
                      refine ite_e hf (fun c17 hf => ?_) (fun c17 hf => ?_)
                      · skip
                        refine wa_tableIn (off := 162) hC 167 dX6_count_5 (by rw [c17]; decide) (by rw [c17]; decide) (by rw [c17] <;> decide) (by decide) ?_
                        exact wa_sub [0, 1] rfl (hJ167   _ hf)
                      · skip
                        refine ite_e hf (fun c18 hf => ?_) (fun c18 hf => ?_)
                        · skip
                          refine wa_tableIn (off := 162) hC 167 dX6_count_5 (by rw [c18]; decide) (by rw [c18]; decide) (by rw [c18] <;> decide) (by decide) ?_
                          exact wa_sub [0, 1] rfl (hJ167   _ hf)
                        · skip
                          refine ite_e hf (fun c19 hf => ?_) (fun c19 hf => ?_)
                          · skip
                            refine wa_tableIn (off := 162) hC 167 dX6_count_5 (by rw [c19]; decide) (by rw [c19]; decide) (by rw [c19] <;> decide) (by decide) ?_
                            exact wa_sub [0, 1] rfl (hJ167   _ hf)
                          · skip
                            refine ite_e hf (fun c20 hf => ?_) (fun c20 hf => ?_)
                            · skip
                              refine wa_tableIn (off := 174) hC 179 dX6_count_5 (by rw [c20]; decide) (by rw [c20]; decide) (by rw [c20] <;> decide) (by decide) ?_
                              refine wa_aload_n hC dX6_count_179 rfl 0 rfl ?_
                              refine rg6_3 hC fiX6_count_6 mbX6_count_29 dX6_count_180 ?_
                              refine rgn3_10 hC fiX6_count_3 (show kd 66 = 3 from rfl) (nwf_BaroRuns_143 hC.2.2.2) dX6_count_183 ?_
                              refine wa_aload_n hC dX6_count_186 rfl 0 rfl ?_
                              refine rg6_4 hC fiX6_count_6 mbX6_count_33 dX6_count_187 ?_
                              refine rgn3_10 hC fiX6_count_3 (show kd 75 = 3 from rfl) (nwf_BaroRuns_143 hC.2.2.2) dX6_count_190 ?_
                              refine wa_iadd hC dX6_count_193 ?_
                              refine wa_aload_n hC dX6_count_194 rfl 0 rfl ?_
                              refine rg6_5 hC fiX6_count_6 mbX6_count_36 dX6_count_195 ?_
                              refine rgn3_10 hC fiX6_count_3 (show kd 84 = 3 from rfl) (nwf_BaroRuns_143 hC.2.2.2) dX6_count_198 ?_
                              refine wa_iadd hC dX6_count_201 ?_
                              exact wa_iret hC hlk hr (congrArg Prod.fst (so_inj hf)) (congrArg Prod.snd (so_inj hf)) dX6_count_202
                            · skip
                              have n5 := ti_ne c5 (a := 0) (by decide)
                              have n6 := ti_ne c6 (a := 1) (by decide)
                              have n7 := ti_ne c7 (a := 2) (by decide)
                              have n8 := ti_ne c8 (a := 3) (by decide)
                              have n9 := ti_ne c9 (a := 4) (by decide)
                              have n10 := ti_ne c10 (a := 5) (by decide)
                              have n11 := ti_ne c11 (a := 6) (by decide)
                              have n13 := ti_ne c13 (a := 7) (by decide)
                              have n15 := ti_ne c15 (a := 8) (by decide)
                              have n16 := ti_ne c16 (a := 9) (by decide)
                              have n17 := ti_ne c17 (a := 10) (by decide)
                              have n18 := ti_ne c18 (a := 11) (by decide)
                              have n19 := ti_ne c19 (a := 12) (by decide)
                              have n20 := ti_ne c20 (a := 13) (by decide)
                              refine wa_tableOut hC 203 dX6_count_5 (by omega) (by decide) ?_
                              refine wa_ldc hC mbX6_count_61 dX6_count_203 ?_
                              exact wa_iret hC hlk hr (congrArg Prod.fst (so_inj hf)) (congrArg Prod.snd (so_inj hf)) dX6_count_205
abbrev rmX6_undo : Room := { frames := 4, cells := 0, slots := 0, locals := 124 }
theorem fiX6_undo_0 : ∀ w ∈ u_ws RX0 TX0 3, w ∈ wsX6_undo := by decide +kernel
theorem fiX6_undo_6 : ∀ w ∈ u_ws RX6 TX6 9, w ∈ wsX6_undo := by decide +kernel
theorem mbX6_undo_22 : Cond.fieldLink RX6 22 "BaroRuns" "history" "LBaroRuns$History;" ∈ wsX6_undo := by decide +kernel
theorem mbX6_undo_10 : Cond.fieldLink RX6 10 "BaroRuns" "now" "LBaroRuns$State;" ∈ wsX6_undo := by decide +kernel
theorem mbX6_undo_53 : Cond.fieldLink RX6 53 "BaroRuns" "stale" "Z" ∈ wsX6_undo := by decide +kernel
theorem mbX6_undo_146 : Cond.constant RX6 146 (-2000000002) ∈ wsX6_undo := by decide +kernel
set_option maxHeartbeats 4000000 in
set_option maxRecDepth 100000 in
theorem kX6_undo (l : Launch) (G : wG)  {M0 M1 : wM} {r : Int32} (hf : fX6_undo  M0 = some (r, M1)) : mI l yX6_undo wsX6_undo rmX6_undo G [.ref (ga G (0))] M0 r M1 := by
  refine mI.of (cc := cX6_undo) (nL := 1) (ret := (some .int)) (own := RX6) (lv := [(0, .ref (ga G (0)))]) (plainFor_of_name (by decide +kernel)) rfl rfl (Nat.le_of_ble_eq_true rfl) rfl ?_
  intro p e s m args below meth c hC hr hlk
  unfold fX6_undo at hf
  refine wa_aload_n hC dX6_undo_0 rfl 0 rfl ?_
  refine rg6_2 hC fiX6_undo_6 mbX6_undo_22 dX6_undo_1 ?_
  refine rgn0_2 hC fiX6_undo_0 (show kd 19 = 0 from rfl) (nwf_BaroRuns_139 hC.2.2.2) dX6_undo_4 ?_
  refine wa_if_ne hC 13 dX6_undo_7 (by decide) (fun c1 => ?_) (fun c1 => ?_)
  · have hf := ite_f hf c1
    refine wa_aload_n hC dX6_undo_13 rfl 0 rfl ?_
    refine rg6_2 hC fiX6_undo_6 mbX6_undo_22 dX6_undo_14 ?_
    refine wa_aload_n hC dX6_undo_17 rfl 0 rfl ?_
    refine rg6_0 hC fiX6_undo_6 mbX6_undo_10 dX6_undo_18 ?_
    obtain ⟨M2, h2, hf⟩ := bd hf
    refine wa_callv (rest := []) (wr_V hC (kX0_giveBack l G (show kd 19 = 0 from rfl) (show kd 1 = 2 from rfl) h2) (cwV 1 hC.1.2.2.2.2 gX6_undo_X0_giveBack rfl rfl rfl (by decide +kernel) ⟨Nat.le_of_ble_eq_true rfl, Nat.le_of_ble_eq_true rfl⟩) (show kd 19 = 0 from rfl) (by decide) (ce0 (show kd 19 = 0 from rfl)) rfl rfl rfl rfl (Nat.le_of_ble_eq_true rfl) dX6_undo_21) ?_
    refine wa_aload_n hC dX6_undo_24 rfl 0 rfl ?_
    refine wa_iconst (v := 1) hC dX6_undo_25 (by decide) ?_
    refine rp6_8 hC fiX6_undo_6 mbX6_undo_53 rfl rfl dX6_undo_26 ?_
    refine wa_aload_n hC dX6_undo_29 rfl 0 rfl ?_
    refine rg6_2 hC fiX6_undo_6 mbX6_undo_22 dX6_undo_30 ?_
    refine rgn0_2 hC fiX6_undo_0 (show kd 19 = 0 from rfl) (nwf_BaroRuns_139 hC.2.2.2) dX6_undo_33 ?_
    exact wa_iret hC hlk hr (congrArg Prod.fst (so_inj hf)) (congrArg Prod.snd (so_inj hf)) dX6_undo_36
  · have hf := ite_t hf c1
    refine wa_ldc hC mbX6_undo_146 dX6_undo_10 ?_
    exact wa_iret hC hlk hr (congrArg Prod.fst (so_inj hf)) (congrArg Prod.snd (so_inj hf)) dX6_undo_12

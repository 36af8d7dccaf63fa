abbrev rmX6_baseAt : Room := { frames := 3, cells := 0, slots := 0, locals := 77 }
theorem fiX6_baseAt_6 : ∀ w ∈ u_ws RX6 TX6 9, w ∈ wsX6_baseAt := by decide +kernel
theorem mbX6_baseAt_61 : Cond.constant RX6 61 (-2000000001) ∈ wsX6_baseAt := by decide +kernel
theorem mbX6_baseAt_10 : Cond.fieldLink RX6 10 "BaroRuns" "now" "LBaroRuns$State;" ∈ wsX6_baseAt := by decide +kernel
set_option maxHeartbeats 4000000 in
set_option maxRecDepth 100000 in
theorem kX6_baseAt (l : Launch) (G : wG) {x1 : Int32} {x2 : Int32} {M0 : wM} {r : Int32} (hf : fX6_baseAt x1 x2 M0 = some r) : mI l yX6_baseAt wsX6_baseAt rmX6_baseAt G [.ref (ga G (0)), .int (x1), .int (x2)] M0 r M0 := by
  refine mI.of (cc := cX6_baseAt) (nL := 3) (ret := (some .int)) (own := RX6) (lv := [(0, .ref (ga G (0))), (1, .int (x1)), (2, .int (x2))]) (plainFor_of_name (by decide +kernel)) rfl rfl (Nat.le_of_ble_eq_true rfl) rfl ?_
  intro p e s m args below meth c hC hr hlk
  have hJ33 : ∀ (s1 : Int32) (s2 : Int32), fX6_baseAt_J33 x1 x2 M0  s1 s2 = some r → wAt p l e rmX6_baseAt s m args below meth c (qI below args s G r M0) 3 G M0 33 [] [.int (s2), .int (s1), .ref (ga G (1))] := by
    intro  s1 s2 hf
    unfold fX6_baseAt_J33 at hf
    obtain ⟨v1, h1, hf⟩ := bd hf
    refine wa_calli (rest := []) (wr_V hC (kX2_baseValue l G (show kd 1 = 2 from rfl) h1) (cwV 2 hC.1.2.2.2.2 gX6_baseAt_X2_baseValue rfl rfl rfl (by decide +kernel) ⟨Nat.le_of_ble_eq_true rfl, Nat.le_of_ble_eq_true rfl⟩) (show kd 1 = 2 from rfl) (by decide) (ce2 (show kd 1 = 2 from rfl)) rfl rfl rfl rfl (Nat.le_of_ble_eq_true rfl) dX6_baseAt_33) ?_
    exact wa_iret hC hlk hr (so_inj hf) rfl dX6_baseAt_36
  unfold fX6_baseAt at hf
  refine wa_iload_n hC dX6_baseAt_0 rfl 1 rfl ?_
  obtain ⟨v2, h2, hf⟩ := bd hf
  refine wa_calli (rest := []) (wr_S hC (kX6_isTime l G h2) (va_cwS 1 hC.1.2.2.2.2 gX6_baseAt_X6_isTime rfl rfl rfl (by decide +kernel) ⟨Nat.le_of_ble_eq_true rfl, Nat.le_of_ble_eq_true rfl⟩) rfl rfl (Nat.le_of_ble_eq_true rfl) dX6_baseAt_1) ?_
  refine wa_if_eq hC 16 dX6_baseAt_4 (by decide) (fun c3 => ?_) (fun c3 => ?_)
  · have hf := ite_t hf c3
    refine wa_ldc hC mbX6_baseAt_61 dX6_baseAt_16 ?_
    exact wa_iret hC hlk hr (so_inj hf) rfl dX6_baseAt_18
  · have hf := ite_f hf c3
    refine wa_iload_n hC dX6_baseAt_7 rfl 2 rfl ?_
    refine wa_iconst (v := 0) hC dX6_baseAt_8 (by decide) ?_
    refine wa_iconst (v := 1) hC dX6_baseAt_9 (by decide) ?_
    obtain ⟨v4, h4, hf⟩ := bd hf
    refine wa_calli (rest := []) (wr_S hC (kX6_within l G h4) (va_cwS 3 hC.1.2.2.2.2 gX6_baseAt_X6_within rfl rfl rfl (by decide +kernel) ⟨Nat.le_of_ble_eq_true rfl, Nat.le_of_ble_eq_true rfl⟩) rfl rfl (Nat.le_of_ble_eq_true rfl) dX6_baseAt_10) ?_
    refine wa_if_ne hC 19 dX6_baseAt_13 (by decide) (fun c5 => ?_) (fun c5 => ?_)
    · have hf := ite_f hf c5
      refine wa_aload_n hC dX6_baseAt_19 rfl 0 rfl ?_
      refine rg6_0 hC fiX6_baseAt_6 mbX6_baseAt_10 dX6_baseAt_20 ?_
      refine wa_iload_n hC dX6_baseAt_23 rfl 1 rfl ?_
      refine wa_iload_n hC dX6_baseAt_24 rfl 2 rfl ?_
      refine wa_if_ne hC 32 dX6_baseAt_25 (by decide) (fun c6 => ?_) (fun c6 => ?_)
      · have hf := ite_f hf c6
        refine wa_iconst (v := 2) hC dX6_baseAt_32 (by decide) ?_
        exact wa_sub [] rfl (hJ33  _ _ hf)
      · have hf := ite_t hf c6
        refine wa_iconst (v := 1) hC dX6_baseAt_28 (by decide) ?_
        refine wa_goto hC 33 dX6_baseAt_29 (by decide) ?_
        exact wa_sub [] rfl (hJ33  _ _ hf)
    · have hf := ite_t hf c5
      refine wa_ldc hC mbX6_baseAt_61 dX6_baseAt_16 ?_
      exact wa_iret hC hlk hr (so_inj hf) rfl dX6_baseAt_18
abbrev rmX6_step : Room := { frames := 4, cells := 0, slots := 0, locals := 88 }
theorem fiX6_step_6 : ∀ w ∈ u_ws RX6 TX6 9, w ∈ wsX6_step := by decide +kernel
theorem mbX6_step_10 : Cond.fieldLink RX6 10 "BaroRuns" "now" "LBaroRuns$State;" ∈ wsX6_step := by decide +kernel
theorem mbX6_step_61 : Cond.constant RX6 61 (-2000000001) ∈ wsX6_step := by decide +kernel
set_option maxHeartbeats 4000000 in
set_option maxRecDepth 100000 in
theorem kX6_step (l : Launch) (G : wG) {x1 : Int32} {M0 : wM} {r : Int32} (hf : fX6_step x1 M0 = some r) : mI l yX6_step wsX6_step rmX6_step G [.ref (ga G (0)), .int (x1)] M0 r M0 := by
  refine mI.of (cc := cX6_step) (nL := 3) (ret := (some .int)) (own := RX6) (lv := [(0, .ref (ga G (0))), (1, .int (x1))]) (plainFor_of_name (by decide +kernel)) rfl rfl (Nat.le_of_ble_eq_true rfl) rfl ?_
  intro p e s m args below meth c hC hr hlk
  unfold fX6_step at hf
  refine wa_aload_n hC dX6_step_0 rfl 0 rfl ?_
  refine rg6_0 hC fiX6_step_6 mbX6_step_10 dX6_step_1 ?_
  refine wa_iload_n hC dX6_step_4 rfl 1 rfl ?_
  obtain ⟨v1, h1, hf⟩ := bd hf
  refine wa_calli (rest := []) (wr_V hC (kX2_stepEnd l G (show kd 1 = 2 from rfl) h1) (cwV 1 hC.1.2.2.2.2 gX6_step_X2_stepEnd rfl rfl rfl (by decide +kernel) ⟨Nat.le_of_ble_eq_true rfl, Nat.le_of_ble_eq_true rfl⟩) (show kd 1 = 2 from rfl) (by decide) (ce2 (show kd 1 = 2 from rfl)) rfl rfl rfl rfl (Nat.le_of_ble_eq_true rfl) dX6_step_5) ?_
  refine wa_istore_n (lv' := [(2, .int _), (0, .ref _), (1, .int _)]) hC dX6_step_8 rfl (by decide) rfl ?_
  refine wa_iload_n hC dX6_step_9 rfl 0 rfl ?_
  refine wa_iconst (v := -1) hC dX6_step_10 (by decide) ?_
  refine wa_icmp_ne hC 19 dX6_step_11 (by decide) (fun c2 => ?_) (fun c2 => ?_)
  · have hf := ite_f hf c2
    refine wa_iload_n hC dX6_step_19 rfl 0 rfl ?_
    exact wa_iret hC hlk hr (so_inj hf) rfl dX6_step_20
  · have hf := ite_t hf c2
    refine wa_ldc hC mbX6_step_61 dX6_step_14 ?_
    refine wa_goto hC 20 dX6_step_16 (by decide) ?_
    exact wa_iret hC hlk hr (so_inj hf) rfl dX6_step_20
abbrev rmX6_raw : Room := { frames := 6, cells := 0, slots := 0, locals := 155 }
theorem mbX6_raw_61 : Cond.constant RX6 61 (-2000000001) ∈ wsX6_raw := by decide +kernel
set_option maxHeartbeats 4000000 in
set_option maxRecDepth 100000 in
theorem kX6_raw (l : Launch) (G : wG) {x1 : Int32} {x2 : Int32} {M0 M1 : wM} {r : Int32} (hf : fX6_raw x1 x2 M0 = some (r, M1)) : mI l yX6_raw wsX6_raw rmX6_raw G [.ref (ga G (0)), .int (x1), .int (x2)] M0 r M1 := by
  refine mI.of (cc := cX6_raw) (nL := 3) (ret := (some .int)) (own := RX6) (lv := [(0, .ref (ga G (0))), (1, .int (x1)), (2, .int (x2))]) (plainFor_of_name (by decide +kernel)) rfl rfl (Nat.le_of_ble_eq_true rfl) rfl ?_
  intro p e s m args below meth c hC hr hlk
  unfold fX6_raw at hf
  refine wa_iload_n hC dX6_raw_0 rfl 1 rfl ?_
  obtain ⟨v1, h1, hf⟩ := bd hf
  refine wa_calli (rest := []) (wr_S hC (kX6_isCell l G h1) (va_cwS 1 hC.1.2.2.2.2 gX6_raw_X6_isCell rfl rfl rfl (by decide +kernel) ⟨Nat.le_of_ble_eq_true rfl, Nat.le_of_ble_eq_true rfl⟩) rfl rfl (Nat.le_of_ble_eq_true rfl) dX6_raw_1) ?_
  refine wa_if_eq hC 16 dX6_raw_4 (by decide) (fun c2 => ?_) (fun c2 => ?_)
  · have hf := ite_t hf c2
    refine wa_ldc hC mbX6_raw_61 dX6_raw_16 ?_
    exact wa_iret hC hlk hr (congrArg Prod.fst (so_inj hf)) (congrArg Prod.snd (so_inj hf)) dX6_raw_18
  · have hf := ite_f hf c2
    refine wa_aload_n hC dX6_raw_7 rfl 0 rfl ?_
    refine wa_iload_n hC dX6_raw_8 rfl 1 rfl ?_
    refine wa_iload_n hC dX6_raw_9 rfl 2 rfl ?_
    obtain ⟨v3, h3, hf⟩ := bd hf
    refine wa_calli (rest := []) (wr_V hC (kX6_isReadingOf l G h3) (cwV 2 hC.1.2.2.2.2 gX6_raw_X6_isReadingOf rfl rfl rfl (by decide +kernel) ⟨Nat.le_of_ble_eq_true rfl, Nat.le_of_ble_eq_true rfl⟩) (show kd 0 = 6 from rfl) (by decide) (ce6 (show kd 0 = 6 from rfl)) rfl rfl rfl rfl (Nat.le_of_ble_eq_true rfl) dX6_raw_10) ?_
    refine wa_if_ne hC 19 dX6_raw_13 (by decide) (fun c4 => ?_) (fun c4 => ?_)
    · have hf := ite_f hf c4
      refine wa_aload_n hC dX6_raw_19 rfl 0 rfl ?_
      obtain ⟨M5, h5, hf⟩ := bd hf
      refine wa_callv (rest := []) (wr_V hC (kX6_refresh l G h5) (cwV 0 hC.1.2.2.2.2 gX6_raw_X6_refresh rfl rfl rfl (by decide +kernel) ⟨Nat.le_of_ble_eq_true rfl, Nat.le_of_ble_eq_true rfl⟩) (show kd 0 = 6 from rfl) (by decide) (ce6 (show kd 0 = 6 from rfl)) rfl rfl rfl rfl (Nat.le_of_ble_eq_true rfl) dX6_raw_20) ?_
      refine wa_aload_n hC dX6_raw_23 rfl 0 rfl ?_
      refine wa_iload_n hC dX6_raw_24 rfl 1 rfl ?_
      obtain ⟨v6, h6, hf⟩ := bd hf
      refine wa_callr (rest := []) (wr_V hC (kX6_surveyOf l G h6) (cwV 1 hC.1.2.2.2.2 gX6_raw_X6_surveyOf rfl rfl rfl (by decide +kernel) ⟨Nat.le_of_ble_eq_true rfl, Nat.le_of_ble_eq_true rfl⟩) (show kd 0 = 6 from rfl) (by decide) (ce6 (show kd 0 = 6 from rfl)) rfl rfl rfl rfl (Nat.le_of_ble_eq_true rfl) dX6_raw_25) ?_
      obtain ⟨_, g7, hf⟩ := bd hf
      have g7 := gk_some g7
      refine wa_iload_n hC dX6_raw_28 rfl 2 rfl ?_
      obtain ⟨v8, h8, hf⟩ := bd hf
      refine wa_calli (rest := []) (wr_V hC (kX3_rawHeight l G g7 h8) (cwV 1 hC.1.2.2.2.2 gX6_raw_X3_rawHeight rfl rfl rfl (by decide +kernel) ⟨Nat.le_of_ble_eq_true rfl, Nat.le_of_ble_eq_true rfl⟩) g7 (by decide) (ce3 g7) rfl rfl rfl rfl (Nat.le_of_ble_eq_true rfl) dX6_raw_29) ?_
      exact wa_iret hC hlk hr (congrArg Prod.fst (so_inj hf)) (congrArg Prod.snd (so_inj hf)) dX6_raw_32
    · have hf := ite_t hf c4
      refine wa_ldc hC mbX6_raw_61 dX6_raw_16 ?_
      exact wa_iret hC hlk hr (congrArg Prod.fst (so_inj hf)) (congrArg Prod.snd (so_inj hf)) dX6_raw_18
abbrev rmX6_would : Room := { frames := 4, cells := 0, slots := 0, locals := 108 }
theorem fiX6_would_6 : ∀ w ∈ u_ws RX6 TX6 9, w ∈ wsX6_would := by decide +kernel
theorem mbX6_would_10 : Cond.fieldLink RX6 10 "BaroRuns" "now" "LBaroRuns$State;" ∈ wsX6_would := by decide +kernel
theorem mbX6_would_61 : Cond.constant RX6 61 (-2000000001) ∈ wsX6_would := by decide +kernel
set_option maxHeartbeats 4000000 in
set_option maxRecDepth 100000 in
theorem kX6_would (l : Launch) (G : wG) {x1 : Int32} {x2 : Int32} {x3 : Int32} {M0 : wM} {r : Int32} (hf : fX6_would x1 x2 x3 M0 = some r) : mI l yX6_would wsX6_would rmX6_would G [.ref (ga G (0)), .int (x1), .int (x2), .int (x3)] M0 r M0 := by
  refine mI.of (cc := cX6_would) (nL := 4) (ret := (some .int)) (own := RX6) (lv := [(0, .ref (ga G (0))), (1, .int (x1)), (2, .int (x2)), (3, .int (x3))]) (plainFor_of_name (by decide +kernel)) rfl rfl (Nat.le_of_ble_eq_true rfl) rfl ?_
  intro p e s m args below meth c hC hr hlk
  unfold fX6_would at hf
  refine wa_iload_n hC dX6_would_0 rfl 1 rfl ?_
  refine wa_iload_n hC dX6_would_1 rfl 2 rfl ?_
  refine wa_iload_n hC dX6_would_2 rfl 3 rfl ?_
  obtain ⟨v1, h1, hf⟩ := bd hf
  refine wa_calli (rest := []) (wr_S hC (kX6_isReading l G h1) (va_cwS 3 hC.1.2.2.2.2 gX6_would_X6_isReading rfl rfl rfl (by decide +kernel) ⟨Nat.le_of_ble_eq_true rfl, Nat.le_of_ble_eq_true rfl⟩) rfl rfl (Nat.le_of_ble_eq_true rfl) dX6_would_3) ?_
  refine wa_if_ne hC 12 dX6_would_6 (by decide) (fun c2 => ?_) (fun c2 => ?_)
  · have hf := ite_f hf c2
    refine wa_aload_n hC dX6_would_12 rfl 0 rfl ?_
    refine rg6_0 hC fiX6_would_6 mbX6_would_10 dX6_would_13 ?_
    refine wa_iload_n hC dX6_would_16 rfl 1 rfl ?_
    refine wa_iload_n hC dX6_would_17 rfl 2 rfl ?_
    refine wa_iload_n hC dX6_would_18 rfl 3 rfl ?_
    obtain ⟨v3, h3, hf⟩ := bd hf
    refine wa_calli (rest := []) (wr_V hC (kX2_heightAt l G (show kd 1 = 2 from rfl) h3) (cwV 3 hC.1.2.2.2.2 gX6_would_X2_heightAt rfl rfl rfl (by decide +kernel) ⟨Nat.le_of_ble_eq_true rfl, Nat.le_of_ble_eq_true rfl⟩) (show kd 1 = 2 from rfl) (by decide) (ce2 (show kd 1 = 2 from rfl)) rfl rfl rfl rfl (Nat.le_of_ble_eq_true rfl) dX6_would_19) ?_
    exact wa_iret hC hlk hr (so_inj hf) rfl dX6_would_22
  · have hf := ite_t hf c2
    refine wa_ldc hC mbX6_would_61 dX6_would_9 ?_
    exact wa_iret hC hlk hr (so_inj hf) rfl dX6_would_11
abbrev rmX6_greatestPressure : Room := { frames := 4, cells := 0, slots := 0, locals := 108 }
theorem fiX6_greatestPressure_6 : ∀ w ∈ u_ws RX6 TX6 9, w ∈ wsX6_greatestPressure := by decide +kernel
theorem mbX6_greatestPressure_10 : Cond.fieldLink RX6 10 "BaroRuns" "now" "LBaroRuns$State;" ∈ wsX6_greatestPressure := by decide +kernel
theorem mbX6_greatestPressure_172 : Cond.constant RX6 172 (50000) ∈ wsX6_greatestPressure := by decide +kernel
theorem mbX6_greatestPressure_235 : Cond.constant RX6 235 (110000) ∈ wsX6_greatestPressure := by decide +kernel
set_option maxHeartbeats 4000000 in
set_option maxRecDepth 100000 in
theorem kX6_greatestPressure (l : Launch) (G : wG) {x1 : Int32} {x2 : Int32} {x3 : Int32} {M0 : wM} {r : Int32} (hf : fX6_greatestPressure x1 x2 x3 M0 = some r) : mI l yX6_greatestPressure wsX6_greatestPressure rmX6_greatestPressure G [.ref (ga G (0)), .int (x1), .int (x2), .int (x3)] M0 r M0 := by
  refine mI.of (cc := cX6_greatestPressure) (nL := 8) (ret := (some .int)) (own := RX6) (lv := [(0, .ref (ga G (0))), (1, .int (x1)), (2, .int (x2)), (3, .int (x3))]) (plainFor_of_name (by decide +kernel)) rfl rfl (Nat.le_of_ble_eq_true rfl) rfl ?_
  intro p e s m args below meth c hC hr hlk
  have hB11 : ∀ (bk11 : Int32 → Int32 → Int32 → Option Int32) (hbk11 : (∀ (x4 : Int32) (x5 : Int32) (x6 : Int32), bk11 x4 x5 x6 = some r → wAt p l e rmX6_greatestPressure s m args below meth c (qI below args s G r M0) 8 G M0 11 [(0, .ref (ga G (0))), (1, .int (x1)), (2, .int (x2)), (3, .int (x3)), (4, .int (x4)), (5, .int (x5)), (6, .int (x6))] [])) (x4 : Int32) (x5 : Int32) (x6 : Int32), fX6_greatestPressure_B11 x1 x2 x3 M0 bk11 x4 x5 x6 = some r → wAt p l e rmX6_greatestPressure s m args below meth c (qI below args s G r M0) 8 G M0 11 [(0, .ref (ga G (0))), (1, .int (x1)), (2, .int (x2)), (3, .int (x3)), (4, .int (x4)), (5, .int (x5)), (6, .int (x6))] [] := by
    intro bk11 hbk11 x4 x5 x6 hf
    unfold fX6_greatestPressure_B11 at hf
    refine wa_iload hC dX6_greatestPressure_11 6 rfl ?_
    refine wa_bipush (v := 32) hC dX6_greatestPressure_13 (by decide) ?_
    refine wa_icmp_ge hC 73 dX6_greatestPressure_15 (by decide) (fun c1 => ?_) (fun c1 => ?_)
    · have hf := ite_t hf c1
      refine wa_iload hC dX6_greatestPressure_73 4 rfl ?_
      exact wa_iret hC hlk hr (so_inj hf) rfl dX6_greatestPressure_75
    · have hf := ite_f hf c1
      refine wa_iload hC dX6_greatestPressure_18 4 rfl ?_
      refine wa_iload hC dX6_greatestPressure_20 5 rfl ?_
      refine wa_icmp_ge hC 73 dX6_greatestPressure_22 (by decide) (fun c2 => ?_) (fun c2 => ?_)
      · have hf := ite_t hf c2
        refine wa_iload hC dX6_greatestPressure_73 4 rfl ?_
        exact wa_iret hC hlk hr (so_inj hf) rfl dX6_greatestPressure_75
      · have hf := ite_f hf c2
        refine wa_iload hC dX6_greatestPressure_25 4 rfl ?_
        refine wa_iload hC dX6_greatestPressure_27 5 rfl ?_
        refine wa_iload hC dX6_greatestPressure_29 4 rfl ?_
        refine wa_isub hC dX6_greatestPressure_31 ?_
        refine wa_iconst (v := 1) hC dX6_greatestPressure_32 (by decide) ?_
        refine wa_iadd hC dX6_greatestPressure_33 ?_
        refine wa_iconst (v := 2) hC dX6_greatestPressure_34 (by decide) ?_
        obtain ⟨v3, h3, hf⟩ := bd hf
        obtain ⟨hz3, rfl⟩ := dvI_some h3
        refine wa_idiv hC dX6_greatestPressure_35 hz3 ?_
        refine wa_iadd hC dX6_greatestPressure_36 ?_
        refine wa_istore (lv' := [(7, .int _), (0, .ref _), (1, .int _), (2, .int _), (3, .int _), (4, .int _), (5, .int _), (6, .int _)]) hC dX6_greatestPressure_37 (by decide) rfl ?_
        refine wa_aload_n hC dX6_greatestPressure_39 rfl 1 rfl ?_
        refine rg6_0 hC fiX6_greatestPressure_6 mbX6_greatestPressure_10 dX6_greatestPressure_40 ?_
        refine wa_iload_n hC dX6_greatestPressure_43 rfl 2 rfl ?_
        refine wa_iload hC dX6_greatestPressure_44 0 rfl ?_
        refine wa_iload_n hC dX6_greatestPressure_46 rfl 3 rfl ?_
        obtain ⟨v4, h4, hf⟩ := bd hf
        refine wa_calli (rest := []) (wr_V hC (kX2_heightAt l G (show kd 1 = 2 from rfl) h4) (cwV 3 hC.1.2.2.2.2 gX6_greatestPressure_X2_heightAt rfl rfl rfl (by decide +kernel) ⟨Nat.le_of_ble_eq_true rfl, Nat.le_of_ble_eq_true rfl⟩) (show kd 1 = 2 from rfl) (by decide) (ce2 (show kd 1 = 2 from rfl)) rfl rfl rfl rfl (Nat.le_of_ble_eq_true rfl) dX6_greatestPressure_47) ?_
        refine wa_iload_n hC dX6_greatestPressure_50 rfl 4 rfl ?_
        refine wa_icmp_lt hC 61 dX6_greatestPressure_51 (by decide) (fun c5 => ?_) (fun c5 => ?_)
        · have hf := ite_t hf c5
          refine wa_iload hC dX6_greatestPressure_61 0 rfl ?_
          refine wa_iconst (v := 1) hC dX6_greatestPressure_63 (by decide) ?_
          refine wa_isub hC dX6_greatestPressure_64 ?_
          refine wa_istore (lv' := [(5, .int _), (7, .int _), (0, .ref _), (1, .int _), (2, .int _), (3, .int _), (4, .int _), (6, .int _)]) hC dX6_greatestPressure_65 (by decide) rfl ?_
          refine wa_iinc (v := _ + 1) (lv' := [(6, .int _), (5, .int _), (7, .int _), (0, .ref _), (1, .int _), (2, .int _), (3, .int _), (4, .int _)]) hC dX6_greatestPressure_67 (t := 7) rfl rfl (by decide) rfl ?_
          refine wa_goto hC 11 dX6_greatestPressure_70 (by decide) ?_
          exact wa_sub [3, 4, 5, 6, 7, 1, 0] rfl (hbk11 _ _ _ hf)
        · have hf := ite_f hf c5
          refine wa_iload hC dX6_greatestPressure_54 0 rfl ?_
          refine wa_istore (lv' := [(4, .int _), (7, .int _), (0, .ref _), (1, .int _), (2, .int _), (3, .int _), (5, .int _), (6, .int _)]) hC dX6_greatestPressure_56 (by decide) rfl ?_
          refine wa_goto hC 67 dX6_greatestPressure_58 (by decide) ?_
          refine wa_iinc (v := _ + 1) (lv' := [(6, .int _), (4, .int _), (7, .int _), (0, .ref _), (1, .int _), (2, .int _), (3, .int _), (5, .int _)]) hC dX6_greatestPressure_67 (t := 7) rfl rfl (by decide) rfl ?_
          refine wa_goto hC 11 dX6_greatestPressure_70 (by decide) ?_
          exact wa_sub [3, 4, 5, 6, 1, 7, 0] rfl (hbk11 _ _ _ hf)
  have hL11 : ∀ (n : Nat) (x4 : Int32) (x5 : Int32) (x6 : Int32), fX6_greatestPressure_L11 x1 x2 x3 M0  n x4 x5 x6 = some r → wAt p l e rmX6_greatestPressure s m args below meth c (qI below args s G r M0) 8 G M0 11 [(0, .ref (ga G (0))), (1, .int (x1)), (2, .int (x2)), (3, .int (x3)), (4, .int (x4)), (5, .int (x5)), (6, .int (x6))] [] := by
    intro  n
    induction n with
    | zero =>
      intro x4 x5 x6 hf
      exact absurd hf (by simp [fX6_greatestPressure_L11])
    | succ n ih =>
      intro x4 x5 x6 hf
      exact hB11  (fX6_greatestPressure_L11 x1 x2 x3 M0  n) ih x4 x5 x6 hf
  unfold fX6_greatestPressure at hf
  refine wa_ldc hC mbX6_greatestPressure_172 dX6_greatestPressure_0 ?_
  refine wa_istore (lv' := [(4, .int _), (0, .ref _), (1, .int _), (2, .int _), (3, .int _)]) hC dX6_greatestPressure_2 (by decide) rfl ?_
  refine wa_ldc hC mbX6_greatestPressure_235 dX6_greatestPressure_4 ?_
  refine wa_istore (lv' := [(5, .int _), (4, .int _), (0, .ref _), (1, .int _), (2, .int _), (3, .int _)]) hC dX6_greatestPressure_6 (by decide) rfl ?_
  refine wa_iconst (v := 0) hC dX6_greatestPressure_8 (by decide) ?_
  refine wa_istore (lv' := [(6, .int _), (5, .int _), (4, .int _), (0, .ref _), (1, .int _), (2, .int _), (3, .int _)]) hC dX6_greatestPressure_9 (by decide) rfl ?_
  exact wa_sub [3, 4, 5, 6, 2, 1, 0] rfl (hL11 FU _ _ _ hf)
abbrev rmX6_pressureFor : Room := { frames := 5, cells := 0, slots := 0, locals := 135 }
theorem fiX6_pressureFor_6 : ∀ w ∈ u_ws RX6 TX6 9, w ∈ wsX6_pressureFor := by decide +kernel
theorem mbX6_pressureFor_10 : Cond.fieldLink RX6 10 "BaroRuns" "now" "LBaroRuns$State;" ∈ wsX6_pressureFor := by decide +kernel
theorem mbX6_pressureFor_172 : Cond.constant RX6 172 (50000) ∈ wsX6_pressureFor := by decide +kernel
theorem mbX6_pressureFor_108 : Cond.constant RX6 108 (-2000000004) ∈ wsX6_pressureFor := by decide +kernel
theorem mbX6_pressureFor_61 : Cond.constant RX6 61 (-2000000001) ∈ wsX6_pressureFor := by decide +kernel
theorem mbX6_pressureFor_170 : Cond.constant RX6 170 (-1000000) ∈ wsX6_pressureFor := by decide +kernel
theorem mbX6_pressureFor_171 : Cond.constant RX6 171 (10000000) ∈ wsX6_pressureFor := by decide +kernel
set_option maxHeartbeats 4000000 in
set_option maxRecDepth 100000 in
theorem kX6_pressureFor (l : Launch) (G : wG) {x1 : Int32} {x2 : Int32} {x3 : Int32} {M0 : wM} {r : Int32} (hf : fX6_pressureFor x1 x2 x3 M0 = some r) : mI l yX6_pressureFor wsX6_pressureFor rmX6_pressureFor G [.ref (ga G (0)), .int (x1), .int (x2), .int (x3)] M0 r M0 := by
  refine mI.of (cc := cX6_pressureFor) (nL := 6) (ret := (some .int)) (own := RX6) (lv := [(0, .ref (ga G (0))), (1, .int (x1)), (2, .int (x2)), (3, .int (x3))]) (plainFor_of_name (by decide +kernel)) rfl rfl (Nat.le_of_ble_eq_true rfl) rfl ?_
  intro p e s m args below meth c hC hr hlk
  have hJ30 : ∀ (s0 : Int32), fX6_pressureFor_J30 x1 x2 x3 M0  s0 = some r → wAt p l e rmX6_pressureFor s m args below meth c (qI below args s G r M0) 6 G M0 30 [(0, .ref (ga G (0))), (1, .int (x1)), (2, .int (x2)), (3, .int (x3))] [.int (s0)] := by
    intro  s0 hf
    unfold fX6_pressureFor_J30 at hf
    refine wa_istore (lv' := [(4, .int _), (0, .ref _), (1, .int _), (2, .int _), (3, .int _)]) hC dX6_pressureFor_30 (by decide) rfl ?_
    refine wa_iload hC dX6_pressureFor_32 0 rfl ?_
    refine wa_if_ne hC 40 dX6_pressureFor_34 (by decide) (fun c1 => ?_) (fun c1 => ?_)
    · have hf := ite_f hf c1
      refine wa_aload_n hC dX6_pressureFor_40 rfl 1 rfl ?_
      refine rg6_0 hC fiX6_pressureFor_6 mbX6_pressureFor_10 dX6_pressureFor_41 ?_
      refine wa_iload_n hC dX6_pressureFor_44 rfl 2 rfl ?_
      refine wa_ldc hC mbX6_pressureFor_172 dX6_pressureFor_45 ?_
      refine wa_iload_n hC dX6_pressureFor_47 rfl 3 rfl ?_
      obtain ⟨v2, h2, hf⟩ := bd hf
      refine wa_calli (rest := []) (wr_V hC (kX2_heightAt l G (show kd 1 = 2 from rfl) h2) (cwV 3 hC.1.2.2.2.2 gX6_pressureFor_X2_heightAt rfl rfl rfl (by decide +kernel) ⟨Nat.le_of_ble_eq_true rfl, Nat.le_of_ble_eq_true rfl⟩) (show kd 1 = 2 from rfl) (by decide) (ce2 (show kd 1 = 2 from rfl)) rfl rfl rfl rfl (Nat.le_of_ble_eq_true rfl) dX6_pressureFor_48) ?_
      refine wa_istore (lv' := [(5, .int _), (4, .int _), (0, .ref _), (1, .int _), (2, .int _), (3, .int _)]) hC dX6_pressureFor_51 (by decide) rfl ?_
      refine wa_iload hC dX6_pressureFor_53 0 rfl ?_
      refine wa_ldc hC mbX6_pressureFor_108 dX6_pressureFor_55 ?_
      refine wa_icmp_eq hC 66 dX6_pressureFor_57 (by decide) (fun c3 => ?_) (fun c3 => ?_)
      · have hf := ite_t hf c3
        refine wa_ldc hC mbX6_pressureFor_108 dX6_pressureFor_66 ?_
        exact wa_iret hC hlk hr (so_inj hf) rfl dX6_pressureFor_68
      · have hf := ite_f hf c3
        refine wa_iload hC dX6_pressureFor_60 0 rfl ?_
        refine wa_iload_n hC dX6_pressureFor_62 rfl 5 rfl ?_
        refine wa_icmp_ge hC 69 dX6_pressureFor_63 (by decide) (fun c4 => ?_) (fun c4 => ?_)
        · have hf := ite_t hf c4
          refine wa_aload_n hC dX6_pressureFor_69 rfl 2 rfl ?_
          refine wa_iload_n hC dX6_pressureFor_70 rfl 3 rfl ?_
          refine wa_iload_n hC dX6_pressureFor_71 rfl 4 rfl ?_
          refine wa_iload_n hC dX6_pressureFor_72 rfl 5 rfl ?_
          obtain ⟨v5, h5, hf⟩ := bd hf
          refine wa_calli (rest := []) (wr_V hC (kX6_greatestPressure l G h5) (cwV 3 hC.1.2.2.2.2 gX6_pressureFor_X6_greatestPressure rfl rfl rfl (by decide +kernel) ⟨Nat.le_of_ble_eq_true rfl, Nat.le_of_ble_eq_true rfl⟩) (show kd 0 = 6 from rfl) (by decide) (ce6 (show kd 0 = 6 from rfl)) rfl rfl rfl rfl (Nat.le_of_ble_eq_true rfl) dX6_pressureFor_73) ?_
          exact wa_iret hC hlk hr (so_inj hf) rfl dX6_pressureFor_76
        · have hf := ite_f hf c4
          refine wa_ldc hC mbX6_pressureFor_108 dX6_pressureFor_66 ?_
          exact wa_iret hC hlk hr (so_inj hf) rfl dX6_pressureFor_68
    · have hf := ite_t hf c1
      refine wa_ldc hC mbX6_pressureFor_61 dX6_pressureFor_37 ?_
      exact wa_iret hC hlk hr (so_inj hf) rfl dX6_pressureFor_39
  unfold fX6_pressureFor at hf
  refine wa_iload_n hC dX6_pressureFor_0 rfl 1 rfl ?_
  obtain ⟨v6, h6, hf⟩ := bd hf
  refine wa_calli (rest := []) (wr_S hC (kX6_isTime l G h6) (va_cwS 1 hC.1.2.2.2.2 gX6_pressureFor_X6_isTime rfl rfl rfl (by decide +kernel) ⟨Nat.le_of_ble_eq_true rfl, Nat.le_of_ble_eq_true rfl⟩) rfl rfl (Nat.le_of_ble_eq_true rfl) dX6_pressureFor_1) ?_
  refine wa_if_eq hC 29 dX6_pressureFor_4 (by decide) (fun c7 => ?_) (fun c7 => ?_)
  · have hf := ite_t hf c7
    refine wa_iconst (v := 0) hC dX6_pressureFor_29 (by decide) ?_
    exact wa_sub [0, 1, 2, 3] rfl (hJ30  _ hf)
  · have hf := ite_f hf c7
    refine wa_iload_n hC dX6_pressureFor_7 rfl 2 rfl ?_
    obtain ⟨v8, h8, hf⟩ := bd hf
    refine wa_calli (rest := []) (wr_S hC (kX6_isTemperature l G h8) (va_cwS 1 hC.1.2.2.2.2 gX6_pressureFor_X6_isTemperature rfl rfl rfl (by decide +kernel) ⟨Nat.le_of_ble_eq_true rfl, Nat.le_of_ble_eq_true rfl⟩) rfl rfl (Nat.le_of_ble_eq_true rfl) dX6_pressureFor_8) ?_
    refine wa_if_eq hC 29 dX6_pressureFor_11 (by decide) (fun c9 => ?_) (fun c9 => ?_)
    · have hf := ite_t hf c9
      refine wa_iconst (v := 0) hC dX6_pressureFor_29 (by decide) ?_
      exact wa_sub [0, 1, 2, 3] rfl (hJ30  _ hf)
    · have hf := ite_f hf c9
      refine wa_iload_n hC dX6_pressureFor_14 rfl 3 rfl ?_
      refine wa_ldc hC mbX6_pressureFor_170 dX6_pressureFor_15 ?_
      refine wa_ldc hC mbX6_pressureFor_171 dX6_pressureFor_17 ?_
      obtain ⟨v10, h10, hf⟩ := bd hf
      refine wa_calli (rest := []) (wr_S hC (kX6_within l G h10) (va_cwS 3 hC.1.2.2.2.2 gX6_pressureFor_X6_within rfl rfl rfl (by decide +kernel) ⟨Nat.le_of_ble_eq_true rfl, Nat.le_of_ble_eq_true rfl⟩) rfl rfl (Nat.le_of_ble_eq_true rfl) dX6_pressureFor_19) ?_
      refine wa_if_eq hC 29 dX6_pressureFor_22 (by decide) (fun c11 => ?_) (fun c11 => ?_)
      · have hf := ite_t hf c11
        refine wa_iconst (v := 0) hC dX6_pressureFor_29 (by decide) ?_
        exact wa_sub [0, 1, 2, 3] rfl (hJ30  _ hf)
      · have hf := ite_f hf c11
        refine wa_iconst (v := 1) hC dX6_pressureFor_25 (by decide) ?_
        refine wa_goto hC 30 dX6_pressureFor_26 (by decide) ?_
        exact wa_sub [0, 1, 2, 3] rfl (hJ30  _ hf)
abbrev rmX6_loops : Room := { frames := 6, cells := 0, slots := 0, locals := 155 }
theorem fiX6_loops_3 : ∀ w ∈ u_ws RX3 TX3 12, w ∈ wsX6_loops := by decide +kernel
theorem mbX6_loops_61 : Cond.constant RX6 61 (-2000000001) ∈ wsX6_loops := by decide +kernel
set_option maxHeartbeats 4000000 in
set_option maxRecDepth 100000 in
theorem kX6_loops (l : Launch) (G : wG) {x1 : Int32} {M0 M1 : wM} {r : Int32} (hf : fX6_loops x1 M0 = some (r, M1)) : mI l yX6_loops wsX6_loops rmX6_loops G [.ref (ga G (0)), .int (x1)] M0 r M1 := by
  refine mI.of (cc := cX6_loops) (nL := 2) (ret := (some .int)) (own := RX6) (lv := [(0, .ref (ga G (0))), (1, .int (x1))]) (plainFor_of_name (by decide +kernel)) rfl rfl (Nat.le_of_ble_eq_true rfl) rfl ?_
  intro p e s m args below meth c hC hr hlk
  unfold fX6_loops at hf
  refine wa_iload_n hC dX6_loops_0 rfl 1 rfl ?_
  obtain ⟨v1, h1, hf⟩ := bd hf
  refine wa_calli (rest := []) (wr_S hC (kX6_isCell l G h1) (va_cwS 1 hC.1.2.2.2.2 gX6_loops_X6_isCell rfl rfl rfl (by decide +kernel) ⟨Nat.le_of_ble_eq_true rfl, Nat.le_of_ble_eq_true rfl⟩) rfl rfl (Nat.le_of_ble_eq_true rfl) dX6_loops_1) ?_
  refine wa_if_ne hC 10 dX6_loops_4 (by decide) (fun c2 => ?_) (fun c2 => ?_)
  · have hf := ite_f hf c2
    refine wa_aload_n hC dX6_loops_10 rfl 0 rfl ?_
    obtain ⟨M3, h3, hf⟩ := bd hf
    refine wa_callv (rest := []) (wr_V hC (kX6_refresh l G h3) (cwV 0 hC.1.2.2.2.2 gX6_loops_X6_refresh rfl rfl rfl (by decide +kernel) ⟨Nat.le_of_ble_eq_true rfl, Nat.le_of_ble_eq_true rfl⟩) (show kd 0 = 6 from rfl) (by decide) (ce6 (show kd 0 = 6 from rfl)) rfl rfl rfl rfl (Nat.le_of_ble_eq_true rfl) dX6_loops_11) ?_
    refine wa_aload_n hC dX6_loops_14 rfl 0 rfl ?_
    refine wa_iload_n hC dX6_loops_15 rfl 1 rfl ?_
    obtain ⟨v4, h4, hf⟩ := bd hf
    refine wa_callr (rest := []) (wr_V hC (kX6_surveyOf l G h4) (cwV 1 hC.1.2.2.2.2 gX6_loops_X6_surveyOf rfl rfl rfl (by decide +kernel) ⟨Nat.le_of_ble_eq_true rfl, Nat.le_of_ble_eq_true rfl⟩) (show kd 0 = 6 from rfl) (by decide) (ce6 (show kd 0 = 6 from rfl)) rfl rfl rfl rfl (Nat.le_of_ble_eq_true rfl) dX6_loops_16) ?_
    obtain ⟨_, g5, hf⟩ := bd hf
    have g5 := gk_some g5
    refine rgn3_11 hC fiX6_loops_3 g5 (nwf_BaroRuns_129 hC.2.2.2) dX6_loops_19 ?_
    exact wa_iret hC hlk hr (congrArg Prod.fst (so_inj hf)) (congrArg Prod.snd (so_inj hf)) dX6_loops_22
  · have hf := ite_t hf c2
    refine wa_ldc hC mbX6_loops_61 dX6_loops_7 ?_
    exact wa_iret hC hlk hr (congrArg Prod.fst (so_inj hf)) (congrArg Prod.snd (so_inj hf)) dX6_loops_9
abbrev rmX6_loop : Room := { frames := 6, cells := 0, slots := 0, locals := 155 }
theorem fiX6_loop_3 : ∀ w ∈ u_ws RX3 TX3 12, w ∈ wsX6_loop := by decide +kernel
theorem mbX6_loop_61 : Cond.constant RX6 61 (-2000000001) ∈ wsX6_loop := by decide +kernel
set_option maxHeartbeats 4000000 in
set_option maxRecDepth 100000 in
theorem kX6_loop (l : Launch) (G : wG) {x1 : Int32} {x2 : Int32} {x3 : Int32} {M0 M1 : wM} {r : Int32} (hf : fX6_loop x1 x2 x3 M0 = some (r, M1)) : mI l yX6_loop wsX6_loop rmX6_loop G [.ref (ga G (0)), .int (x1), .int (x2), .int (x3)] M0 r M1 := by
  refine mI.of (cc := cX6_loop) (nL := 5) (ret := (some .int)) (own := RX6) (lv := [(0, .ref (ga G (0))), (1, .int (x1)), (2, .int (x2)), (3, .int (x3))]) (plainFor_of_name (by decide +kernel)) rfl rfl (Nat.le_of_ble_eq_true rfl) rfl ?_
  intro p e s m args below meth c hC hr hlk
  unfold fX6_loop at hf
  refine wa_iload_n hC dX6_loop_0 rfl 1 rfl ?_
  obtain ⟨v1, h1, hf⟩ := bd hf
  refine wa_calli (rest := []) (wr_S hC (kX6_isCell l G h1) (va_cwS 1 hC.1.2.2.2.2 gX6_loop_X6_isCell rfl rfl rfl (by decide +kernel) ⟨Nat.le_of_ble_eq_true rfl, Nat.le_of_ble_eq_true rfl⟩) rfl rfl (Nat.le_of_ble_eq_true rfl) dX6_loop_1) ?_
  refine wa_if_ne hC 10 dX6_loop_4 (by decide) (fun c2 => ?_) (fun c2 => ?_)
  · have hf := ite_f hf c2
    refine wa_aload_n hC dX6_loop_10 rfl 0 rfl ?_
    obtain ⟨M3, h3, hf⟩ := bd hf
    refine wa_callv (rest := []) (wr_V hC (kX6_refresh l G h3) (cwV 0 hC.1.2.2.2.2 gX6_loop_X6_refresh rfl rfl rfl (by decide +kernel) ⟨Nat.le_of_ble_eq_true rfl, Nat.le_of_ble_eq_true rfl⟩) (show kd 0 = 6 from rfl) (by decide) (ce6 (show kd 0 = 6 from rfl)) rfl rfl rfl rfl (Nat.le_of_ble_eq_true rfl) dX6_loop_11) ?_
    refine wa_aload_n hC dX6_loop_14 rfl 0 rfl ?_
    refine wa_iload_n hC dX6_loop_15 rfl 1 rfl ?_
    obtain ⟨v4, h4, hf⟩ := bd hf
    refine wa_callr (rest := []) (wr_V hC (kX6_surveyOf l G h4) (cwV 1 hC.1.2.2.2.2 gX6_loop_X6_surveyOf rfl rfl rfl (by decide +kernel) ⟨Nat.le_of_ble_eq_true rfl, Nat.le_of_ble_eq_true rfl⟩) (show kd 0 = 6 from rfl) (by decide) (ce6 (show kd 0 = 6 from rfl)) rfl rfl rfl rfl (Nat.le_of_ble_eq_true rfl) dX6_loop_16) ?_
    obtain ⟨_, g5, hf⟩ := bd hf
    have g5 := gk_some g5
    refine wa_astore (lv' := [(4, .ref _), (0, .ref _), (1, .int _), (2, .int _), (3, .int _)]) hC dX6_loop_19 (by decide) rfl ?_
    refine wa_iload_n hC dX6_loop_21 rfl 3 rfl ?_
    refine wa_iconst (v := 0) hC dX6_loop_22 (by decide) ?_
    refine wa_aload hC dX6_loop_23 0 rfl ?_
    refine rgn3_11 hC fiX6_loop_3 g5 (nwf_BaroRuns_129 hC.2.2.2) dX6_loop_25 ?_
    refine wa_iconst (v := 1) hC dX6_loop_28 (by decide) ?_
    refine wa_isub hC dX6_loop_29 ?_
    obtain ⟨v6, h6, hf⟩ := bd hf
    refine wa_calli (rest := []) (wr_S hC (kX6_within l G h6) (va_cwS 3 hC.1.2.2.2.2 gX6_loop_X6_within rfl rfl rfl (by decide +kernel) ⟨Nat.le_of_ble_eq_true rfl, Nat.le_of_ble_eq_true rfl⟩) rfl rfl (Nat.le_of_ble_eq_true rfl) dX6_loop_30) ?_
    refine wa_if_ne hC 39 dX6_loop_33 (by decide) (fun c7 => ?_) (fun c7 => ?_)
    · have hf := ite_f hf c7
      refine wa_iload_n hC dX6_loop_39 rfl 4 rfl ?_
      refine ite_e hf (fun c8 hf => ?_) (fun c8 hf => ?_)
      · skip
        refine wa_tableIn (off := 36) hC 76 dX6_loop_40 (by rw [c8]; decide) (by rw [c8]; decide) (by rw [c8] <;> decide) (by decide) ?_
        refine wa_aload hC dX6_loop_76 0 rfl ?_
        refine wa_iload_n hC dX6_loop_78 rfl 3 rfl ?_
        obtain ⟨v9, h9, hf⟩ := bd hf
        refine wa_calli (rest := []) (wr_V hC (kX3_begin l G g5 h9) (cwV 1 hC.1.2.2.2.2 gX6_loop_X3_begin rfl rfl rfl (by decide +kernel) ⟨Nat.le_of_ble_eq_true rfl, Nat.le_of_ble_eq_true rfl⟩) g5 (by decide) (ce3 g5) rfl rfl rfl rfl (Nat.le_of_ble_eq_true rfl) dX6_loop_79) ?_
        exact wa_iret hC hlk hr (congrArg Prod.fst (so_inj hf)) (congrArg Prod.snd (so_inj hf)) dX6_loop_82
      · skip
        refine ite_e hf (fun c10 hf => ?_) (fun c10 hf => ?_)
        · skip
          refine wa_tableIn (off := 43) hC 83 dX6_loop_40 (by rw [c10]; decide) (by rw [c10]; decide) (by rw [c10] <;> decide) (by decide) ?_
          refine wa_aload hC dX6_loop_83 0 rfl ?_
          refine wa_iload_n hC dX6_loop_85 rfl 3 rfl ?_
          obtain ⟨v11, h11, hf⟩ := bd hf
          refine wa_calli (rest := []) (wr_V hC (kX3_end l G g5 h11) (cwV 1 hC.1.2.2.2.2 gX6_loop_X3_end rfl rfl rfl (by decide +kernel) ⟨Nat.le_of_ble_eq_true rfl, Nat.le_of_ble_eq_true rfl⟩) g5 (by decide) (ce3 g5) rfl rfl rfl rfl (Nat.le_of_ble_eq_true rfl) dX6_loop_86) ?_
          exact wa_iret hC hlk hr (congrArg Prod.fst (so_inj hf)) (congrArg Prod.snd (so_inj hf)) dX6_loop_89
        · skip
          refine ite_e hf (fun c12 hf => ?_) (fun c12 hf => ?_)
          · skip
            refine wa_tableIn (off := 50) hC 90 dX6_loop_40 (by rw [c12]; decide) (by rw [c12]; decide) (by rw [c12] <;> decide) (by decide) ?_
            refine wa_aload hC dX6_loop_90 0 rfl ?_
            refine wa_iload_n hC dX6_loop_92 rfl 3 rfl ?_
            obtain ⟨v13, h13, hf⟩ := bd hf
            refine wa_calli (rest := []) (wr_V hC (kX3_misclosure l G g5 h13) (cwV 1 hC.1.2.2.2.2 gX6_loop_X3_misclosure rfl rfl rfl (by decide +kernel) ⟨Nat.le_of_ble_eq_true rfl, Nat.le_of_ble_eq_true rfl⟩) g5 (by decide) (ce3 g5) rfl rfl rfl rfl (Nat.le_of_ble_eq_true rfl) dX6_loop_93) ?_
            exact wa_iret hC hlk hr (congrArg Prod.fst (so_inj hf)) (congrArg Prod.snd (so_inj hf)) dX6_loop_96
          · skip
            refine ite_e hf (fun c14 hf => ?_) (fun c14 hf => ?_)
            · skip
              refine wa_tableIn (off := 57) hC 97 dX6_loop_40 (by rw [c14]; decide) (by rw [c14]; decide) (by rw [c14] <;> decide) (by decide) ?_
              refine wa_aload hC dX6_loop_97 0 rfl ?_
              refine wa_iload_n hC dX6_loop_99 rfl 3 rfl ?_
              obtain ⟨v15, h15, hf⟩ := bd hf
              refine wa_calli (rest := []) (wr_V hC (kX3_misclosureBySteps l G g5 h15) (cwV 1 hC.1.2.2.2.2 gX6_loop_X3_misclosureBySteps rfl rfl rfl (by decide +kernel) ⟨Nat.le_of_ble_eq_true rfl, Nat.le_of_ble_eq_true rfl⟩) g5 (by decide) (ce3 g5) rfl rfl rfl rfl (Nat.le_of_ble_eq_true rfl) dX6_loop_100) ?_
              exact wa_iret hC hlk hr (congrArg Prod.fst (so_inj hf)) (congrArg Prod.snd (so_inj hf)) dX6_loop_103
            · skip
              refine ite_e hf (fun c16 hf => ?_) (fun c16 hf => ?_)
              · skip
                refine wa_tableIn (off := 64) hC 104 dX6_loop_40 (by rw [c16]; decide) (by rw [c16]; decide) (by rw [c16] <;> decide) (by decide) ?_
                refine wa_aload hC dX6_loop_104 0 rfl ?_
                refine wa_iload_n hC dX6_loop_106 rfl 3 rfl ?_
                obtain ⟨v17, h17, hf⟩ := bd hf
                refine wa_calli (rest := []) (wr_V hC (kX3_minutes l G g5 h17) (cwV 1 hC.1.2.2.2.2 gX6_loop_X3_minutes rfl rfl rfl (by decide +kernel) ⟨Nat.le_of_ble_eq_true rfl, Nat.le_of_ble_eq_true rfl⟩) g5 (by decide) (ce3 g5) rfl rfl rfl rfl (Nat.le_of_ble_eq_true rfl) dX6_loop_107) ?_
                exact wa_iret hC hlk hr (congrArg Prod.fst (so_inj hf)) (congrArg Prod.snd (so_inj hf)) dX6_loop_110
              · skip
                have n8 := ti_ne c8 (a := 0) (by decide)
                have n10 := ti_ne c10 (a := 1) (by decide)
                have n12 := ti_ne c12 (a := 2) (by decide)
                have n14 := ti_ne c14 (a := 3) (by decide)
                have n16 := ti_ne c16 (a := 4) (by decide)
                refine wa_tableOut hC 111 dX6_loop_40 (by omega) (by decide) ?_
                refine wa_ldc hC mbX6_loop_61 dX6_loop_111 ?_
                exact wa_iret hC hlk hr (congrArg Prod.fst (so_inj hf)) (congrArg Prod.snd (so_inj hf)) dX6_loop_113
    · have hf := ite_t hf c7
      refine wa_ldc hC mbX6_loop_61 dX6_loop_36 ?_
      exact wa_iret hC hlk hr (congrArg Prod.fst (so_inj hf)) (congrArg Prod.snd (so_inj hf)) dX6_loop_38
  · have hf := ite_t hf c2
    refine wa_ldc hC mbX6_loop_61 dX6_loop_7 ?_
    exact wa_iret hC hlk hr (congrArg Prod.fst (so_inj hf)) (congrArg Prod.snd (so_inj hf)) dX6_loop_9
abbrev rmX6_openLoop : Room := { frames := 6, cells := 0, slots := 0, locals := 155 }
theorem mbX6_openLoop_61 : Cond.constant RX6 61 (-2000000001) ∈ wsX6_openLoop := by decide +kernel
theorem mbX6_openLoop_108 : Cond.constant RX6 108 (-2000000004) ∈ wsX6_openLoop := by decide +kernel
set_option maxHeartbeats 4000000 in
set_option maxRecDepth 100000 in
theorem kX6_openLoop (l : Launch) (G : wG) {x1 : Int32} {x2 : Int32} {M0 M1 : wM} {r : Int32} (hf : fX6_openLoop x1 x2 M0 = some (r, M1)) : mI l yX6_openLoop wsX6_openLoop rmX6_openLoop G [.ref (ga G (0)), .int (x1), .int (x2)] M0 r M1 := by
  refine mI.of (cc := cX6_openLoop) (nL := 4) (ret := (some .int)) (own := RX6) (lv := [(0, .ref (ga G (0))), (1, .int (x1)), (2, .int (x2))]) (plainFor_of_name (by decide +kernel)) rfl rfl (Nat.le_of_ble_eq_true rfl) rfl ?_
  intro p e s m args below meth c hC hr hlk
  unfold fX6_openLoop at hf
  refine wa_iload_n hC dX6_openLoop_0 rfl 1 rfl ?_
  obtain ⟨v1, h1, hf⟩ := bd hf
  refine wa_calli (rest := []) (wr_S hC (kX6_isCell l G h1) (va_cwS 1 hC.1.2.2.2.2 gX6_openLoop_X6_isCell rfl rfl rfl (by decide +kernel) ⟨Nat.le_of_ble_eq_true rfl, Nat.le_of_ble_eq_true rfl⟩) rfl rfl (Nat.le_of_ble_eq_true rfl) dX6_openLoop_1) ?_
  refine wa_if_eq hC 16 dX6_openLoop_4 (by decide) (fun c2 => ?_) (fun c2 => ?_)
  · have hf := ite_t hf c2
    refine wa_ldc hC mbX6_openLoop_61 dX6_openLoop_16 ?_
    exact wa_iret hC hlk hr (congrArg Prod.fst (so_inj hf)) (congrArg Prod.snd (so_inj hf)) dX6_openLoop_18
  · have hf := ite_f hf c2
    refine wa_aload_n hC dX6_openLoop_7 rfl 0 rfl ?_
    refine wa_iload_n hC dX6_openLoop_8 rfl 1 rfl ?_
    refine wa_iload_n hC dX6_openLoop_9 rfl 2 rfl ?_
    obtain ⟨v3, h3, hf⟩ := bd hf
    refine wa_calli (rest := []) (wr_V hC (kX6_isReadingOf l G h3) (cwV 2 hC.1.2.2.2.2 gX6_openLoop_X6_isReadingOf rfl rfl rfl (by decide +kernel) ⟨Nat.le_of_ble_eq_true rfl, Nat.le_of_ble_eq_true rfl⟩) (show kd 0 = 6 from rfl) (by decide) (ce6 (show kd 0 = 6 from rfl)) rfl rfl rfl rfl (Nat.le_of_ble_eq_true rfl) dX6_openLoop_10) ?_
    refine wa_if_ne hC 19 dX6_openLoop_13 (by decide) (fun c4 => ?_) (fun c4 => ?_)
    · have hf := ite_f hf c4
      refine wa_aload_n hC dX6_openLoop_19 rfl 0 rfl ?_
      obtain ⟨M5, h5, hf⟩ := bd hf
      refine wa_callv (rest := []) (wr_V hC (kX6_refresh l G h5) (cwV 0 hC.1.2.2.2.2 gX6_openLoop_X6_refresh rfl rfl rfl (by decide +kernel) ⟨Nat.le_of_ble_eq_true rfl, Nat.le_of_ble_eq_true rfl⟩) (show kd 0 = 6 from rfl) (by decide) (ce6 (show kd 0 = 6 from rfl)) rfl rfl rfl rfl (Nat.le_of_ble_eq_true rfl) dX6_openLoop_20) ?_
      refine wa_aload_n hC dX6_openLoop_23 rfl 0 rfl ?_
      refine wa_iload_n hC dX6_openLoop_24 rfl 1 rfl ?_
      obtain ⟨v6, h6, hf⟩ := bd hf
      refine wa_callr (rest := []) (wr_V hC (kX6_surveyOf l G h6) (cwV 1 hC.1.2.2.2.2 gX6_openLoop_X6_surveyOf rfl rfl rfl (by decide +kernel) ⟨Nat.le_of_ble_eq_true rfl, Nat.le_of_ble_eq_true rfl⟩) (show kd 0 = 6 from rfl) (by decide) (ce6 (show kd 0 = 6 from rfl)) rfl rfl rfl rfl (Nat.le_of_ble_eq_true rfl) dX6_openLoop_25) ?_
      obtain ⟨_, g7, hf⟩ := bd hf
      have g7 := gk_some g7
      refine wa_iload_n hC dX6_openLoop_28 rfl 2 rfl ?_
      obtain ⟨v8, h8, hf⟩ := bd hf
      refine wa_calli (rest := []) (wr_V hC (kX3_openLoopOf l G g7 h8) (cwV 1 hC.1.2.2.2.2 gX6_openLoop_X3_openLoopOf rfl rfl rfl (by decide +kernel) ⟨Nat.le_of_ble_eq_true rfl, Nat.le_of_ble_eq_true rfl⟩) g7 (by decide) (ce3 g7) rfl rfl rfl rfl (Nat.le_of_ble_eq_true rfl) dX6_openLoop_29) ?_
      refine wa_istore_n (lv' := [(3, .int _), (0, .ref _), (1, .int _), (2, .int _)]) hC dX6_openLoop_32 rfl (by decide) rfl ?_
      refine wa_iload_n hC dX6_openLoop_33 rfl 0 rfl ?_
      refine wa_iconst (v := -1) hC dX6_openLoop_34 (by decide) ?_
      refine wa_icmp_ne hC 43 dX6_openLoop_35 (by decide) (fun c9 => ?_) (fun c9 => ?_)
      · have hf := ite_f hf c9
        refine wa_iload_n hC dX6_openLoop_43 rfl 0 rfl ?_
        exact wa_iret hC hlk hr (congrArg Prod.fst (so_inj hf)) (congrArg Prod.snd (so_inj hf)) dX6_openLoop_44
      · have hf := ite_t hf c9
        refine wa_ldc hC mbX6_openLoop_108 dX6_openLoop_38 ?_
        refine wa_goto hC 44 dX6_openLoop_40 (by decide) ?_
        exact wa_iret hC hlk hr (congrArg Prod.fst (so_inj hf)) (congrArg Prod.snd (so_inj hf)) dX6_openLoop_44
    · have hf := ite_t hf c4
      refine wa_ldc hC mbX6_openLoop_61 dX6_openLoop_16 ?_
      exact wa_iret hC hlk hr (congrArg Prod.fst (so_inj hf)) (congrArg Prod.snd (so_inj hf)) dX6_openLoop_18
abbrev rmX6_corrected : Room := { frames := 6, cells := 0, slots := 0, locals := 155 }
theorem mbX6_corrected_61 : Cond.constant RX6 61 (-2000000001) ∈ wsX6_corrected := by decide +kernel
set_option maxHeartbeats 4000000 in
set_option maxRecDepth 100000 in
theorem kX6_corrected (l : Launch) (G : wG) {x1 : Int32} {x2 : Int32} {M0 M1 : wM} {r : Int32} (hf : fX6_corrected x1 x2 M0 = some (r, M1)) : mI l yX6_corrected wsX6_corrected rmX6_corrected G [.ref (ga G (0)), .int (x1), .int (x2)] M0 r M1 := by
  refine mI.of (cc := cX6_corrected) (nL := 3) (ret := (some .int)) (own := RX6) (lv := [(0, .ref (ga G (0))), (1, .int (x1)), (2, .int (x2))]) (plainFor_of_name (by decide +kernel)) rfl rfl (Nat.le_of_ble_eq_true rfl) rfl ?_
  intro p e s m args below meth c hC hr hlk
  unfold fX6_corrected at hf
  refine wa_iload_n hC dX6_corrected_0 rfl 1 rfl ?_
  obtain ⟨v1, h1, hf⟩ := bd hf
  refine wa_calli (rest := []) (wr_S hC (kX6_isCell l G h1) (va_cwS 1 hC.1.2.2.2.2 gX6_corrected_X6_isCell rfl rfl rfl (by decide +kernel) ⟨Nat.le_of_ble_eq_true rfl, Nat.le_of_ble_eq_true rfl⟩) rfl rfl (Nat.le_of_ble_eq_true rfl) dX6_corrected_1) ?_
  refine wa_if_eq hC 16 dX6_corrected_4 (by decide) (fun c2 => ?_) (fun c2 => ?_)
  · have hf := ite_t hf c2
    refine wa_ldc hC mbX6_corrected_61 dX6_corrected_16 ?_
    exact wa_iret hC hlk hr (congrArg Prod.fst (so_inj hf)) (congrArg Prod.snd (so_inj hf)) dX6_corrected_18
  · have hf := ite_f hf c2
    refine wa_aload_n hC dX6_corrected_7 rfl 0 rfl ?_
    refine wa_iload_n hC dX6_corrected_8 rfl 1 rfl ?_
    refine wa_iload_n hC dX6_corrected_9 rfl 2 rfl ?_
    obtain ⟨v3, h3, hf⟩ := bd hf
    refine wa_calli (rest := []) (wr_V hC (kX6_isReadingOf l G h3) (cwV 2 hC.1.2.2.2.2 gX6_corrected_X6_isReadingOf rfl rfl rfl (by decide +kernel) ⟨Nat.le_of_ble_eq_true rfl, Nat.le_of_ble_eq_true rfl⟩) (show kd 0 = 6 from rfl) (by decide) (ce6 (show kd 0 = 6 from rfl)) rfl rfl rfl rfl (Nat.le_of_ble_eq_true rfl) dX6_corrected_10) ?_
    refine wa_if_ne hC 19 dX6_corrected_13 (by decide) (fun c4 => ?_) (fun c4 => ?_)
    · have hf := ite_f hf c4
      refine wa_aload_n hC dX6_corrected_19 rfl 0 rfl ?_
      obtain ⟨M5, h5, hf⟩ := bd hf
      refine wa_callv (rest := []) (wr_V hC (kX6_refresh l G h5) (cwV 0 hC.1.2.2.2.2 gX6_corrected_X6_refresh rfl rfl rfl (by decide +kernel) ⟨Nat.le_of_ble_eq_true rfl, Nat.le_of_ble_eq_true rfl⟩) (show kd 0 = 6 from rfl) (by decide) (ce6 (show kd 0 = 6 from rfl)) rfl rfl rfl rfl (Nat.le_of_ble_eq_true rfl) dX6_corrected_20) ?_
      refine wa_aload_n hC dX6_corrected_23 rfl 0 rfl ?_
      refine wa_iload_n hC dX6_corrected_24 rfl 1 rfl ?_
      obtain ⟨v6, h6, hf⟩ := bd hf
      refine wa_callr (rest := []) (wr_V hC (kX6_surveyOf l G h6) (cwV 1 hC.1.2.2.2.2 gX6_corrected_X6_surveyOf rfl rfl rfl (by decide +kernel) ⟨Nat.le_of_ble_eq_true rfl, Nat.le_of_ble_eq_true rfl⟩) (show kd 0 = 6 from rfl) (by decide) (ce6 (show kd 0 = 6 from rfl)) rfl rfl rfl rfl (Nat.le_of_ble_eq_true rfl) dX6_corrected_25) ?_
      obtain ⟨_, g7, hf⟩ := bd hf
      have g7 := gk_some g7
      refine wa_iload_n hC dX6_corrected_28 rfl 2 rfl ?_
      obtain ⟨v8, h8, hf⟩ := bd hf
      refine wa_calli (rest := []) (wr_V hC (kX3_correctedHeight l G g7 h8) (cwV 1 hC.1.2.2.2.2 gX6_corrected_X3_correctedHeight rfl rfl rfl (by decide +kernel) ⟨Nat.le_of_ble_eq_true rfl, Nat.le_of_ble_eq_true rfl⟩) g7 (by decide) (ce3 g7) rfl rfl rfl rfl (Nat.le_of_ble_eq_true rfl) dX6_corrected_29) ?_
      exact wa_iret hC hlk hr (congrArg Prod.fst (so_inj hf)) (congrArg Prod.snd (so_inj hf)) dX6_corrected_32
    · have hf := ite_t hf c4
      refine wa_ldc hC mbX6_corrected_61 dX6_corrected_16 ?_
      exact wa_iret hC hlk hr (congrArg Prod.fst (so_inj hf)) (congrArg Prod.snd (so_inj hf)) dX6_corrected_18
abbrev rmX6_point : Room := { frames := 6, cells := 0, slots := 0, locals := 155 }
theorem fiX6_point_1 : ∀ w ∈ u_ws RX1 TX1 4, w ∈ wsX6_point := by decide +kernel
theorem fiX6_point_6 : ∀ w ∈ u_ws RX6 TX6 9, w ∈ wsX6_point := by decide +kernel
theorem mbX6_point_61 : Cond.constant RX6 61 (-2000000001) ∈ wsX6_point := by decide +kernel
theorem mbX6_point_42 : Cond.fieldLink RX6 42 "BaroRuns" "pointSum" "LBaroRuns$PointSum;" ∈ wsX6_point := by decide +kernel
theorem mbX6_point_108 : Cond.constant RX6 108 (-2000000004) ∈ wsX6_point := by decide +kernel
set_option maxHeartbeats 4000000 in
set_option maxRecDepth 100000 in
theorem kX6_point (l : Launch) (G : wG) {x1 : Int32} {x2 : Int32} {M0 M1 : wM} {r : Int32} (hf : fX6_point x1 x2 M0 = some (r, M1)) : mI l yX6_point wsX6_point rmX6_point G [.ref (ga G (0)), .int (x1), .int (x2)] M0 r M1 := by
  refine mI.of (cc := cX6_point) (nL := 3) (ret := (some .int)) (own := RX6) (lv := [(0, .ref (ga G (0))), (1, .int (x1)), (2, .int (x2))]) (plainFor_of_name (by decide +kernel)) rfl rfl (Nat.le_of_ble_eq_true rfl) rfl ?_
  intro p e s m args below meth c hC hr hlk
  unfold fX6_point at hf
  refine wa_iload_n hC dX6_point_0 rfl 1 rfl ?_
  obtain ⟨v1, h1, hf⟩ := bd hf
  refine wa_calli (rest := []) (wr_S hC (kX6_isPoint l G h1) (va_cwS 1 hC.1.2.2.2.2 gX6_point_X6_isPoint rfl rfl rfl (by decide +kernel) ⟨Nat.le_of_ble_eq_true rfl, Nat.le_of_ble_eq_true rfl⟩) rfl rfl (Nat.le_of_ble_eq_true rfl) dX6_point_1) ?_
  refine wa_if_eq hC 16 dX6_point_4 (by decide) (fun c2 => ?_) (fun c2 => ?_)
  · have hf := ite_t hf c2
    refine wa_ldc hC mbX6_point_61 dX6_point_16 ?_
    exact wa_iret hC hlk hr (congrArg Prod.fst (so_inj hf)) (congrArg Prod.snd (so_inj hf)) dX6_point_18
  · have hf := ite_f hf c2
    refine wa_iload_n hC dX6_point_7 rfl 2 rfl ?_
    refine wa_iconst (v := 0) hC dX6_point_8 (by decide) ?_
    refine wa_iconst (v := 2) hC dX6_point_9 (by decide) ?_
    obtain ⟨v3, h3, hf⟩ := bd hf
    refine wa_calli (rest := []) (wr_S hC (kX6_within l G h3) (va_cwS 3 hC.1.2.2.2.2 gX6_point_X6_within rfl rfl rfl (by decide +kernel) ⟨Nat.le_of_ble_eq_true rfl, Nat.le_of_ble_eq_true rfl⟩) rfl rfl (Nat.le_of_ble_eq_true rfl) dX6_point_10) ?_
    refine wa_if_ne hC 19 dX6_point_13 (by decide) (fun c4 => ?_) (fun c4 => ?_)
    · have hf := ite_f hf c4
      refine wa_aload_n hC dX6_point_19 rfl 0 rfl ?_
      obtain ⟨M5, h5, hf⟩ := bd hf
      refine wa_callv (rest := []) (wr_V hC (kX6_refresh l G h5) (cwV 0 hC.1.2.2.2.2 gX6_point_X6_refresh rfl rfl rfl (by decide +kernel) ⟨Nat.le_of_ble_eq_true rfl, Nat.le_of_ble_eq_true rfl⟩) (show kd 0 = 6 from rfl) (by decide) (ce6 (show kd 0 = 6 from rfl)) rfl rfl rfl rfl (Nat.le_of_ble_eq_true rfl) dX6_point_20) ?_
      refine wa_aload_n hC dX6_point_23 rfl 0 rfl ?_
      refine wa_iload_n hC dX6_point_24 rfl 1 rfl ?_
      obtain ⟨M6, h6, hf⟩ := bd hf
      refine wa_callv (rest := []) (wr_V hC (kX6_gather l G h6) (cwV 1 hC.1.2.2.2.2 gX6_point_X6_gather rfl rfl rfl (by decide +kernel) ⟨Nat.le_of_ble_eq_true rfl, Nat.le_of_ble_eq_true rfl⟩) (show kd 0 = 6 from rfl) (by decide) (ce6 (show kd 0 = 6 from rfl)) rfl rfl rfl rfl (Nat.le_of_ble_eq_true rfl) dX6_point_25) ?_
      refine wa_iload_n hC dX6_point_28 rfl 2 rfl ?_
      refine wa_iconst (v := 2) hC dX6_point_29 (by decide) ?_
      refine wa_icmp_ne hC 41 dX6_point_30 (by decide) (fun c7 => ?_) (fun c7 => ?_)
      · have hf := ite_f hf c7
        refine wa_aload_n hC dX6_point_41 rfl 0 rfl ?_
        refine rg6_6 hC fiX6_point_6 mbX6_point_42 dX6_point_42 ?_
        refine rgn1_1 hC fiX6_point_1 (show kd 93 = 1 from rfl) (nwf_BaroRuns_200 hC.2.2.2) dX6_point_45 ?_
        refine wa_if_ne hC 54 dX6_point_48 (by decide) (fun c8 => ?_) (fun c8 => ?_)
        · have hf := ite_f hf c8
          refine wa_iload_n hC dX6_point_54 rfl 2 rfl ?_
          refine wa_if_ne hC 68 dX6_point_55 (by decide) (fun c9 => ?_) (fun c9 => ?_)
          · have hf := ite_f hf c9
            refine wa_aload_n hC dX6_point_68 rfl 0 rfl ?_
            refine rg6_6 hC fiX6_point_6 mbX6_point_42 dX6_point_69 ?_
            obtain ⟨v10, h10, hf⟩ := bd hf
            refine wa_calli (rest := []) (wr_V hC (kX1_spread l G (show kd 93 = 1 from rfl) h10) (cwV 0 hC.1.2.2.2.2 gX6_point_X1_spread rfl rfl rfl (by decide +kernel) ⟨Nat.le_of_ble_eq_true rfl, Nat.le_of_ble_eq_true rfl⟩) (show kd 93 = 1 from rfl) (by decide) (ce1 (show kd 93 = 1 from rfl)) rfl rfl rfl rfl (Nat.le_of_ble_eq_true rfl) dX6_point_72) ?_
            exact wa_iret hC hlk hr (congrArg Prod.fst (so_inj hf)) (congrArg Prod.snd (so_inj hf)) dX6_point_75
          · have hf := ite_t hf c9
            refine wa_aload_n hC dX6_point_58 rfl 0 rfl ?_
            refine rg6_6 hC fiX6_point_6 mbX6_point_42 dX6_point_59 ?_
            obtain ⟨v11, h11, hf⟩ := bd hf
            refine wa_calli (rest := []) (wr_V hC (kX1_height l G (show kd 93 = 1 from rfl) h11) (cwV 0 hC.1.2.2.2.2 gX6_point_X1_height rfl rfl rfl (by decide +kernel) ⟨Nat.le_of_ble_eq_true rfl, Nat.le_of_ble_eq_true rfl⟩) (show kd 93 = 1 from rfl) (by decide) (ce1 (show kd 93 = 1 from rfl)) rfl rfl rfl rfl (Nat.le_of_ble_eq_true rfl) dX6_point_62) ?_
            refine wa_goto hC 75 dX6_point_65 (by decide) ?_
            exact wa_iret hC hlk hr (congrArg Prod.fst (so_inj hf)) (congrArg Prod.snd (so_inj hf)) dX6_point_75
        · have hf := ite_t hf c8
          refine wa_ldc hC mbX6_point_108 dX6_point_51 ?_
          exact wa_iret hC hlk hr (congrArg Prod.fst (so_inj hf)) (congrArg Prod.snd (so_inj hf)) dX6_point_53
      · have hf := ite_t hf c7
        refine wa_aload_n hC dX6_point_33 rfl 0 rfl ?_
        refine rg6_6 hC fiX6_point_6 mbX6_point_42 dX6_point_34 ?_
        refine rgn1_1 hC fiX6_point_1 (show kd 93 = 1 from rfl) (nwf_BaroRuns_200 hC.2.2.2) dX6_point_37 ?_
        exact wa_iret hC hlk hr (congrArg Prod.fst (so_inj hf)) (congrArg Prod.snd (so_inj hf)) dX6_point_40
    · have hf := ite_t hf c4
      refine wa_ldc hC mbX6_point_61 dX6_point_16 ?_
      exact wa_iret hC hlk hr (congrArg Prod.fst (so_inj hf)) (congrArg Prod.snd (so_inj hf)) dX6_point_18
abbrev rmX6_worst : Room := { frames := 6, cells := 0, slots := 0, locals := 155 }
theorem fiX6_worst_3 : ∀ w ∈ u_ws RX3 TX3 12, w ∈ wsX6_worst := by decide +kernel
theorem mbX6_worst_209 : Cond.methodLink RX6 209 Lib.Math.abs.name ∈ wsX6_worst := by decide +kernel
theorem mbX6_worst_st_abs : Cond.static Lib.Math.abs.name ∈ wsX6_worst := by decide +kernel
theorem mbX6_worst_ini_Math : Cond.initialized "java/lang/Math" ∈ wsX6_worst := by decide +kernel
theorem mbX6_worst_code_abs : Cond.code Lib.Math.abs.name Lib.Math.abs.code 1 (some .int) ∈ wsX6_worst := by decide +kernel
theorem mbX6_worst_108 : Cond.constant RX6 108 (-2000000004) ∈ wsX6_worst := by decide +kernel
theorem mbX6_worst_61 : Cond.constant RX6 61 (-2000000001) ∈ wsX6_worst := by decide +kernel
set_option maxHeartbeats 4000000 in
set_option maxRecDepth 100000 in
theorem kX6_worst (l : Launch) (G : wG) {x1 : Int32} {M0 M1 : wM} {r : Int32} (hf : fX6_worst x1 M0 = some (r, M1)) : mI l yX6_worst wsX6_worst rmX6_worst G [.ref (ga G (0)), .int (x1)] M0 r M1 := by
  refine mI.of (cc := cX6_worst) (nL := 9) (ret := (some .int)) (own := RX6) (lv := [(0, .ref (ga G (0))), (1, .int (x1))]) (plainFor_of_name (by decide +kernel)) rfl rfl (Nat.le_of_ble_eq_true rfl) rfl ?_
  intro p e s m args below meth c hC hr hlk
  have hB45 : ∀ (bk28 : Int32 → Int32 → Int32 → Int32 → wM → Option (Int32 × wM)) (hbk28 : (∀ (x2 : Int32) (x3 : Int32) (x4 : Int32) (x5 : Int32) (M0 : wM), bk28 x2 x3 x4 x5 M0 = some (r, M1) → wAt p l e rmX6_worst s m args below meth c (qI below args s G r M1) 9 G M0 28 [(0, .ref (ga G (0))), (1, .int (x1)), (2, .int (x2)), (3, .int (x3)), (4, .int (x4)), (5, .int (x5))] [])) (bk45 : Int32 → Int32 → Int32 → Int32 → Nat → Int32 → wM → Option (Int32 × wM)) (hbk45 : (∀ (x2 : Int32) (x3 : Int32) (x4 : Int32) (x5 : Int32) (j6 : Nat) (hj6 : kd j6 = 3) (x7 : Int32) (M0 : wM), bk45 x2 x3 x4 x5 j6 x7 M0 = some (r, M1) → wAt p l e rmX6_worst s m args below meth c (qI below args s G r M1) 9 G M0 45 [(0, .ref (ga G (0))), (1, .int (x1)), (2, .int (x2)), (3, .int (x3)), (4, .int (x4)), (5, .int (x5)), (6, .ref (ga G (j6))), (7, .int (x7))] [])) (x2 : Int32) (x3 : Int32) (x4 : Int32) (x5 : Int32) (j6 : Nat) (hj6 : kd j6 = 3) (x7 : Int32) (M0 : wM), fX6_worst_B45 x1 bk28 bk45 x2 x3 x4 x5 j6 x7 M0 = some (r, M1) → wAt p l e rmX6_worst s m args below meth c (qI below args s G r M1) 9 G M0 45 [(0, .ref (ga G (0))), (1, .int (x1)), (2, .int (x2)), (3, .int (x3)), (4, .int (x4)), (5, .int (x5)), (6, .ref (ga G (j6))), (7, .int (x7))] [] := by
    intro bk28 hbk28 bk45 hbk45 x2 x3 x4 x5 j6 hj6 x7 M0 hf
    unfold fX6_worst_B45 at hf
    refine wa_iload hC dX6_worst_45 7 rfl ?_
    refine wa_aload hC dX6_worst_47 6 rfl ?_
    refine rgn3_11 hC fiX6_worst_3 hj6 (nwf_BaroRuns_129 hC.2.2.2) dX6_worst_49 ?_
    refine wa_icmp_ge hC 89 dX6_worst_52 (by decide) (fun c1 => ?_) (fun c1 => ?_)
    · have hf := ite_t hf c1
      refine wa_iinc (v := _ + 1) (lv' := [(5, .int _), (0, .ref _), (1, .int _), (2, .int _), (3, .int _), (4, .int _), (6, .ref _), (7, .int _)]) hC dX6_worst_89 (t := 5) rfl rfl (by decide) rfl ?_
      refine wa_goto hC 28 dX6_worst_92 (by decide) ?_
      exact wa_sub [1, 2, 3, 4, 5, 0] rfl (hbk28 _ _ _ _ _ hf)
    · have hf := ite_f hf c1
      refine wa_aload hC dX6_worst_55 6 rfl ?_
      refine wa_iload hC dX6_worst_57 7 rfl ?_
      obtain ⟨v2, h2, hf⟩ := bd hf
      refine wa_calli (rest := []) (wr_V hC (kX3_misclosure l G hj6 h2) (cwV 1 hC.1.2.2.2.2 gX6_worst_X3_misclosure rfl rfl rfl (by decide +kernel) ⟨Nat.le_of_ble_eq_true rfl, Nat.le_of_ble_eq_true rfl⟩) hj6 (by decide) (ce3 hj6) rfl rfl rfl rfl (Nat.le_of_ble_eq_true rfl) dX6_worst_59) ?_
      refine wa_abs hC mbX6_worst_209 mbX6_worst_st_abs mbX6_worst_ini_Math mbX6_worst_code_abs (Nat.le_of_ble_eq_true rfl) (Nat.le_of_ble_eq_true rfl) dX6_worst_62 ?_
      refine wa_istore (lv' := [(8, .int _), (0, .ref _), (1, .int _), (2, .int _), (3, .int _), (4, .int _), (5, .int _), (6, .ref _), (7, .int _)]) hC dX6_worst_65 (by decide) rfl ?_
      refine wa_iload hC dX6_worst_67 0 rfl ?_
      refine wa_iload_n hC dX6_worst_69 rfl 3 rfl ?_
      refine wa_icmp_le hC 83 dX6_worst_70 (by decide) (fun c3 => ?_) (fun c3 => ?_)
      · have hf := ite_t hf c3
        refine wa_iinc (v := _ + 1) (lv' := [(7, .int _), (8, .int _), (0, .ref _), (1, .int _), (2, .int _), (3, .int _), (4, .int _), (5, .int _), (6, .ref _)]) hC dX6_worst_83 (t := 8) rfl rfl (by decide) rfl ?_
        refine wa_goto hC 45 dX6_worst_86 (by decide) ?_
        exact wa_sub [2, 3, 4, 5, 6, 7, 8, 0] rfl (hbk45 _ _ _ _ _ hj6 _ _ hf)
      · have hf := ite_f hf c3
        refine wa_iload hC dX6_worst_73 0 rfl ?_
        refine wa_istore_n (lv' := [(2, .int _), (8, .int _), (0, .ref _), (1, .int _), (3, .int _), (4, .int _), (5, .int _), (6, .ref _), (7, .int _)]) hC dX6_worst_75 rfl (by decide) rfl ?_
        refine wa_iload hC dX6_worst_76 6 rfl ?_
        refine wa_istore_n (lv' := [(3, .int _), (2, .int _), (8, .int _), (0, .ref _), (1, .int _), (4, .int _), (5, .int _), (6, .ref _), (7, .int _)]) hC dX6_worst_78 rfl (by decide) rfl ?_
        refine wa_iload hC dX6_worst_79 8 rfl ?_
        refine wa_istore (lv' := [(4, .int _), (3, .int _), (2, .int _), (8, .int _), (0, .ref _), (1, .int _), (5, .int _), (6, .ref _), (7, .int _)]) hC dX6_worst_81 (by decide) rfl ?_
        refine wa_iinc (v := _ + 1) (lv' := [(7, .int _), (4, .int _), (3, .int _), (2, .int _), (8, .int _), (0, .ref _), (1, .int _), (5, .int _), (6, .ref _)]) hC dX6_worst_83 (t := 8) rfl rfl (by decide) rfl ?_
        refine wa_goto hC 45 dX6_worst_86 (by decide) ?_
        exact wa_sub [5, 6, 3, 2, 1, 7, 8, 0] rfl (hbk45 _ _ _ _ _ hj6 _ _ hf)
  have hL45 : ∀ (bk28 : Int32 → Int32 → Int32 → Int32 → wM → Option (Int32 × wM)) (hbk28 : (∀ (x2 : Int32) (x3 : Int32) (x4 : Int32) (x5 : Int32) (M0 : wM), bk28 x2 x3 x4 x5 M0 = some (r, M1) → wAt p l e rmX6_worst s m args below meth c (qI below args s G r M1) 9 G M0 28 [(0, .ref (ga G (0))), (1, .int (x1)), (2, .int (x2)), (3, .int (x3)), (4, .int (x4)), (5, .int (x5))] [])) (n : Nat) (x2 : Int32) (x3 : Int32) (x4 : Int32) (x5 : Int32) (j6 : Nat) (hj6 : kd j6 = 3) (x7 : Int32) (M0 : wM), fX6_worst_L45 x1 bk28 n x2 x3 x4 x5 j6 x7 M0 = some (r, M1) → wAt p l e rmX6_worst s m args below meth c (qI below args s G r M1) 9 G M0 45 [(0, .ref (ga G (0))), (1, .int (x1)), (2, .int (x2)), (3, .int (x3)), (4, .int (x4)), (5, .int (x5)), (6, .ref (ga G (j6))), (7, .int (x7))] [] := by
    intro bk28 hbk28 n
    induction n with
    | zero =>
      intro x2 x3 x4 x5 j6 hj6 x7 M0 hf
      exact absurd hf (by simp [fX6_worst_L45])
    | succ n ih =>
      intro x2 x3 x4 x5 j6 hj6 x7 M0 hf
      exact hB45 bk28 hbk28 (fX6_worst_L45 x1 bk28 n) ih x2 x3 x4 x5 j6 hj6 x7 M0 hf
  have hB28 : ∀ (bk28 : Int32 → Int32 → Int32 → Int32 → wM → Option (Int32 × wM)) (hbk28 : (∀ (x2 : Int32) (x3 : Int32) (x4 : Int32) (x5 : Int32) (M0 : wM), bk28 x2 x3 x4 x5 M0 = some (r, M1) → wAt p l e rmX6_worst s m args below meth c (qI below args s G r M1) 9 G M0 28 [(0, .ref (ga G (0))), (1, .int (x1)), (2, .int (x2)), (3, .int (x3)), (4, .int (x4)), (5, .int (x5))] [])) (x2 : Int32) (x3 : Int32) (x4 : Int32) (x5 : Int32) (M0 : wM), fX6_worst_B28 x1 bk28 x2 x3 x4 x5 M0 = some (r, M1) → wAt p l e rmX6_worst s m args below meth c (qI below args s G r M1) 9 G M0 28 [(0, .ref (ga G (0))), (1, .int (x1)), (2, .int (x2)), (3, .int (x3)), (4, .int (x4)), (5, .int (x5))] [] := by
    intro bk28 hbk28 x2 x3 x4 x5 M0 hf
    unfold fX6_worst_B28 at hf
    refine wa_iload hC dX6_worst_28 5 rfl ?_
    refine wa_iconst (v := 3) hC dX6_worst_30 (by decide) ?_
    refine wa_icmp_ge hC 95 dX6_worst_31 (by decide) (fun c4 => ?_) (fun c4 => ?_)
    · have hf := ite_t hf c4
      refine wa_iload_n hC dX6_worst_95 rfl 1 rfl ?_
      refine wa_if_ne hC 103 dX6_worst_96 (by decide) (fun c5 => ?_) (fun c5 => ?_)
      · have hf := ite_f hf c5
        refine wa_iload hC dX6_worst_103 4 rfl ?_
        exact wa_iret hC hlk hr (congrArg Prod.fst (so_inj hf)) (congrArg Prod.snd (so_inj hf)) dX6_worst_105
      · have hf := ite_t hf c5
        refine wa_iload_n hC dX6_worst_99 rfl 3 rfl ?_
        refine wa_goto hC 105 dX6_worst_100 (by decide) ?_
        exact wa_iret hC hlk hr (congrArg Prod.fst (so_inj hf)) (congrArg Prod.snd (so_inj hf)) dX6_worst_105
    · have hf := ite_f hf c4
      refine wa_aload_n hC dX6_worst_34 rfl 0 rfl ?_
      refine wa_iload hC dX6_worst_35 5 rfl ?_
      obtain ⟨v6, h6, hf⟩ := bd hf
      refine wa_callr (rest := []) (wr_V hC (kX6_surveyOf l G h6) (cwV 1 hC.1.2.2.2.2 gX6_worst_X6_surveyOf rfl rfl rfl (by decide +kernel) ⟨Nat.le_of_ble_eq_true rfl, Nat.le_of_ble_eq_true rfl⟩) (show kd 0 = 6 from rfl) (by decide) (ce6 (show kd 0 = 6 from rfl)) rfl rfl rfl rfl (Nat.le_of_ble_eq_true rfl) dX6_worst_37) ?_
      obtain ⟨_, g7, hf⟩ := bd hf
      have g7 := gk_some g7
      refine wa_astore (lv' := [(6, .ref _), (0, .ref _), (1, .int _), (2, .int _), (3, .int _), (4, .int _), (5, .int _)]) hC dX6_worst_40 (by decide) rfl ?_
      refine wa_iconst (v := 0) hC dX6_worst_42 (by decide) ?_
      refine wa_istore (lv' := [(7, .int _), (6, .ref _), (0, .ref _), (1, .int _), (2, .int _), (3, .int _), (4, .int _), (5, .int _)]) hC dX6_worst_43 (by decide) rfl ?_
      exact wa_sub [2, 3, 4, 5, 6, 7, 1, 0] rfl (hL45 bk28 hbk28 FU _ _ _ _ _ g7 _ _ hf)
  have hL28 : ∀ (n : Nat) (x2 : Int32) (x3 : Int32) (x4 : Int32) (x5 : Int32) (M0 : wM), fX6_worst_L28 x1  n x2 x3 x4 x5 M0 = some (r, M1) → wAt p l e rmX6_worst s m args below meth c (qI below args s G r M1) 9 G M0 28 [(0, .ref (ga G (0))), (1, .int (x1)), (2, .int (x2)), (3, .int (x3)), (4, .int (x4)), (5, .int (x5))] [] := by
    intro  n
    induction n with
    | zero =>
      intro x2 x3 x4 x5 M0 hf
      exact absurd hf (by simp [fX6_worst_L28])
    | succ n ih =>
      intro x2 x3 x4 x5 M0 hf
      exact hB28  (fX6_worst_L28 x1  n) ih x2 x3 x4 x5 M0 hf
  unfold fX6_worst at hf
  refine wa_iload_n hC dX6_worst_0 rfl 1 rfl ?_
  refine wa_iconst (v := 0) hC dX6_worst_1 (by decide) ?_
  refine wa_iconst (v := 1) hC dX6_worst_2 (by decide) ?_
  obtain ⟨v8, h8, hf⟩ := bd hf
  refine wa_calli (rest := []) (wr_S hC (kX6_within l G h8) (va_cwS 3 hC.1.2.2.2.2 gX6_worst_X6_within rfl rfl rfl (by decide +kernel) ⟨Nat.le_of_ble_eq_true rfl, Nat.le_of_ble_eq_true rfl⟩) rfl rfl (Nat.le_of_ble_eq_true rfl) dX6_worst_3) ?_
  refine wa_if_ne hC 12 dX6_worst_6 (by decide) (fun c9 => ?_) (fun c9 => ?_)
  · have hf := ite_f hf c9
    refine wa_aload_n hC dX6_worst_12 rfl 0 rfl ?_
    obtain ⟨M10, h10, hf⟩ := bd hf
    refine wa_callv (rest := []) (wr_V hC (kX6_refresh l G h10) (cwV 0 hC.1.2.2.2.2 gX6_worst_X6_refresh rfl rfl rfl (by decide +kernel) ⟨Nat.le_of_ble_eq_true rfl, Nat.le_of_ble_eq_true rfl⟩) (show kd 0 = 6 from rfl) (by decide) (ce6 (show kd 0 = 6 from rfl)) rfl rfl rfl rfl (Nat.le_of_ble_eq_true rfl) dX6_worst_13) ?_
    refine wa_iconst (v := -1) hC dX6_worst_16 (by decide) ?_
    refine wa_istore_n (lv' := [(2, .int _), (0, .ref _), (1, .int _)]) hC dX6_worst_17 rfl (by decide) rfl ?_
    refine wa_ldc hC mbX6_worst_108 dX6_worst_18 ?_
    refine wa_istore_n (lv' := [(3, .int _), (2, .int _), (0, .ref _), (1, .int _)]) hC dX6_worst_20 rfl (by decide) rfl ?_
    refine wa_ldc hC mbX6_worst_108 dX6_worst_21 ?_
    refine wa_istore (lv' := [(4, .int _), (3, .int _), (2, .int _), (0, .ref _), (1, .int _)]) hC dX6_worst_23 (by decide) rfl ?_
    refine wa_iconst (v := 0) hC dX6_worst_25 (by decide) ?_
    refine wa_istore (lv' := [(5, .int _), (4, .int _), (3, .int _), (2, .int _), (0, .ref _), (1, .int _)]) hC dX6_worst_26 (by decide) rfl ?_
    exact wa_sub [4, 5, 3, 2, 1, 0] rfl (hL28 FU _ _ _ _ _ hf)
  · have hf := ite_t hf c9
    refine wa_ldc hC mbX6_worst_61 dX6_worst_9 ?_
    exact wa_iret hC hlk hr (congrArg Prod.fst (so_inj hf)) (congrArg Prod.snd (so_inj hf)) dX6_worst_11
abbrev rmX6_type : Room := { frames := 2, cells := 0, slots := 0, locals := 43 }
theorem fiX6_type_4 : ∀ w ∈ u_ws RX4 TX4 11, w ∈ wsX6_type := by decide +kernel
theorem fiX6_type_6 : ∀ w ∈ u_ws RX6 TX6 9, w ∈ wsX6_type := by decide +kernel
theorem mbX6_type_49 : Cond.fieldLink RX6 49 "BaroRuns" "text" "LBaroRuns$Text;" ∈ wsX6_type := by decide +kernel
theorem mbX6_type_214 : Cond.constant RX6 214 (-2000000003) ∈ wsX6_type := by decide +kernel
theorem mbX6_type_61 : Cond.constant RX6 61 (-2000000001) ∈ wsX6_type := by decide +kernel
set_option maxHeartbeats 4000000 in
set_option maxRecDepth 100000 in
theorem kX6_type (l : Launch) (G : wG) {x1 : Int32} {M0 M1 : wM} {r : Int32} (hf : fX6_type x1 M0 = some (r, M1)) : mI l yX6_type wsX6_type rmX6_type G [.ref (ga G (0)), .int (x1)] M0 r M1 := by
  refine mI.of (cc := cX6_type) (nL := 2) (ret := (some .int)) (own := RX6) (lv := [(0, .ref (ga G (0))), (1, .int (x1))]) (plainFor_of_name (by decide +kernel)) rfl rfl (Nat.le_of_ble_eq_true rfl) rfl ?_
  intro p e s m args below meth c hC hr hlk
  unfold fX6_type at hf
  refine wa_iload_n hC dX6_type_0 rfl 1 rfl ?_
  refine wa_bipush (v := 32) hC dX6_type_1 (by decide) ?_
  refine wa_bipush (v := 126) hC dX6_type_3 (by decide) ?_
  obtain ⟨v1, h1, hf⟩ := bd hf
  refine wa_calli (rest := []) (wr_S hC (kX6_within l G h1) (va_cwS 3 hC.1.2.2.2.2 gX6_type_X6_within rfl rfl rfl (by decide +kernel) ⟨Nat.le_of_ble_eq_true rfl, Nat.le_of_ble_eq_true rfl⟩) rfl rfl (Nat.le_of_ble_eq_true rfl) dX6_type_5) ?_
  refine wa_if_ne hC 14 dX6_type_8 (by decide) (fun c2 => ?_) (fun c2 => ?_)
  · have hf := ite_f hf c2
    refine wa_aload_n hC dX6_type_14 rfl 0 rfl ?_
    refine rg6_7 hC fiX6_type_6 mbX6_type_49 dX6_type_15 ?_
    refine rgn4_1 hC fiX6_type_4 (show kd 94 = 4 from rfl) (nwf_BaroRuns_140 hC.2.2.2) dX6_type_18 ?_
    refine wa_bipush (v := 100) hC dX6_type_21 (by decide) ?_
    refine wa_icmp_lt hC 29 dX6_type_23 (by decide) (fun c3 => ?_) (fun c3 => ?_)
    · have hf := ite_t hf c3
      refine wa_aload_n hC dX6_type_29 rfl 0 rfl ?_
      refine rg6_7 hC fiX6_type_6 mbX6_type_49 dX6_type_30 ?_
      refine wa_iload_n hC dX6_type_33 rfl 1 rfl ?_
      obtain ⟨M4, h4, hf⟩ := bd hf
      refine wa_callv (rest := []) (wr_V hC (kX4_append l G (show kd 94 = 4 from rfl) h4) (cwV 1 hC.1.2.2.2.2 gX6_type_X4_append rfl rfl rfl (by decide +kernel) ⟨Nat.le_of_ble_eq_true rfl, Nat.le_of_ble_eq_true rfl⟩) (show kd 94 = 4 from rfl) (by decide) (ce4 (show kd 94 = 4 from rfl)) rfl rfl rfl rfl (Nat.le_of_ble_eq_true rfl) dX6_type_34) ?_
      refine wa_aload_n hC dX6_type_37 rfl 0 rfl ?_
      refine rg6_7 hC fiX6_type_6 mbX6_type_49 dX6_type_38 ?_
      refine rgn4_1 hC fiX6_type_4 (show kd 94 = 4 from rfl) (nwf_BaroRuns_140 hC.2.2.2) dX6_type_41 ?_
      exact wa_iret hC hlk hr (congrArg Prod.fst (so_inj hf)) (congrArg Prod.snd (so_inj hf)) dX6_type_44
    · have hf := ite_f hf c3
      refine wa_ldc hC mbX6_type_214 dX6_type_26 ?_
      exact wa_iret hC hlk hr (congrArg Prod.fst (so_inj hf)) (congrArg Prod.snd (so_inj hf)) dX6_type_28
  · have hf := ite_t hf c2
    refine wa_ldc hC mbX6_type_61 dX6_type_11 ?_
    exact wa_iret hC hlk hr (congrArg Prod.fst (so_inj hf)) (congrArg Prod.snd (so_inj hf)) dX6_type_13
abbrev rmX6_clearText : Room := { frames := 0, cells := 0, slots := 0, locals := 0 }
theorem fiX6_clearText_4 : ∀ w ∈ u_ws RX4 TX4 11, w ∈ wsX6_clearText := by decide +kernel
theorem fiX6_clearText_6 : ∀ w ∈ u_ws RX6 TX6 9, w ∈ wsX6_clearText := by decide +kernel
theorem mbX6_clearText_49 : Cond.fieldLink RX6 49 "BaroRuns" "text" "LBaroRuns$Text;" ∈ wsX6_clearText := by decide +kernel
set_option maxHeartbeats 4000000 in
set_option maxRecDepth 100000 in
theorem kX6_clearText (l : Launch) (G : wG)  {M0 M1 : wM} {r : Int32} (hf : fX6_clearText  M0 = some (r, M1)) : mI l yX6_clearText wsX6_clearText rmX6_clearText G [.ref (ga G (0))] M0 r M1 := by
  refine mI.of (cc := cX6_clearText) (nL := 2) (ret := (some .int)) (own := RX6) (lv := [(0, .ref (ga G (0)))]) (plainFor_of_name (by decide +kernel)) rfl rfl (Nat.le_of_ble_eq_true rfl) rfl ?_
  intro p e s m args below meth c hC hr hlk
  unfold fX6_clearText at hf
  refine wa_aload_n hC dX6_clearText_0 rfl 0 rfl ?_
  refine rg6_7 hC fiX6_clearText_6 mbX6_clearText_49 dX6_clearText_1 ?_
  refine rgn4_1 hC fiX6_clearText_4 (show kd 94 = 4 from rfl) (nwf_BaroRuns_140 hC.2.2.2) dX6_clearText_4 ?_
  refine wa_istore_n (lv' := [(1, .int _), (0, .ref _)]) hC dX6_clearText_7 rfl (by decide) rfl ?_
  refine wa_aload_n hC dX6_clearText_8 rfl 1 rfl ?_
  refine rg6_7 hC fiX6_clearText_6 mbX6_clearText_49 dX6_clearText_9 ?_
  refine wa_iconst (v := 0) hC dX6_clearText_12 (by decide) ?_
  refine rpn4_1 hC fiX6_clearText_4 (show kd 94 = 4 from rfl) (nwf_BaroRuns_140 hC.2.2.2) dX6_clearText_13 ?_
  refine wa_iload_n hC dX6_clearText_16 rfl 0 rfl ?_
  exact wa_iret hC hlk hr (congrArg Prod.fst (so_inj hf)) (congrArg Prod.snd (so_inj hf)) dX6_clearText_17
abbrev rmX6_tryText : Room := { frames := 5, cells := 0, slots := 0, locals := 115 }
theorem fiX6_tryText_6 : ∀ w ∈ u_ws RX6 TX6 9, w ∈ wsX6_tryText := by decide +kernel
theorem mbX6_tryText_16 : Cond.fieldLink RX6 16 "BaroRuns" "trial" "LBaroRuns$State;" ∈ wsX6_tryText := by decide +kernel
theorem mbX6_tryText_10 : Cond.fieldLink RX6 10 "BaroRuns" "now" "LBaroRuns$State;" ∈ wsX6_tryText := by decide +kernel
theorem mbX6_tryText_49 : Cond.fieldLink RX6 49 "BaroRuns" "text" "LBaroRuns$Text;" ∈ wsX6_tryText := by decide +kernel
set_option maxHeartbeats 4000000 in
set_option maxRecDepth 100000 in
theorem kX6_tryText (l : Launch) (G : wG)  {M0 M1 : wM} (hf : fX6_tryText  M0 = some M1) : mV l yX6_tryText wsX6_tryText rmX6_tryText G [.ref (ga G (0))] M0 M1 := by
  refine mV.of (cc := cX6_tryText) (nL := 1) (ret := none) (own := RX6) (lv := [(0, .ref (ga G (0)))]) (plainFor_of_name (by decide +kernel)) rfl rfl (Nat.le_of_ble_eq_true rfl) rfl ?_
  intro p e s m args below meth c hC hr hlk
  unfold fX6_tryText at hf
  refine wa_aload_n hC dX6_tryText_0 rfl 0 rfl ?_
  refine rg6_1 hC fiX6_tryText_6 mbX6_tryText_16 dX6_tryText_1 ?_
  refine wa_aload_n hC dX6_tryText_4 rfl 0 rfl ?_
  refine rg6_0 hC fiX6_tryText_6 mbX6_tryText_10 dX6_tryText_5 ?_
  obtain ⟨M1, h1, hf⟩ := bd hf
  refine wa_callv (rest := []) (wr_V hC (kX2_copyFrom l G (show kd 10 = 2 from rfl) (show kd 1 = 2 from rfl) h1) (cwV 1 hC.1.2.2.2.2 gX6_tryText_X2_copyFrom rfl rfl rfl (by decide +kernel) ⟨Nat.le_of_ble_eq_true rfl, Nat.le_of_ble_eq_true rfl⟩) (show kd 10 = 2 from rfl) (by decide) (ce2 (show kd 10 = 2 from rfl)) rfl rfl rfl rfl (Nat.le_of_ble_eq_true rfl) dX6_tryText_8) ?_
  refine wa_aload_n hC dX6_tryText_11 rfl 0 rfl ?_
  refine rg6_7 hC fiX6_tryText_6 mbX6_tryText_49 dX6_tryText_12 ?_
  refine wa_aload_n hC dX6_tryText_15 rfl 0 rfl ?_
  refine rg6_1 hC fiX6_tryText_6 mbX6_tryText_16 dX6_tryText_16 ?_
  obtain ⟨M2, h2, hf⟩ := bd hf
  refine wa_callv (rest := []) (wr_V hC (kX4_readInto l G (show kd 94 = 4 from rfl) (show kd 10 = 2 from rfl) h2) (cwV 1 hC.1.2.2.2.2 gX6_tryText_X4_readInto rfl rfl rfl (by decide +kernel) ⟨Nat.le_of_ble_eq_true rfl, Nat.le_of_ble_eq_true rfl⟩) (show kd 94 = 4 from rfl) (by decide) (ce4 (show kd 94 = 4 from rfl)) rfl rfl rfl rfl (Nat.le_of_ble_eq_true rfl) dX6_tryText_19) ?_
  exact wa_vret hC hlk hr (so_inj hf) dX6_tryText_22
abbrev rmX6_fault : Room := { frames := 6, cells := 0, slots := 0, locals := 135 }
theorem fiX6_fault_4 : ∀ w ∈ u_ws RX4 TX4 11, w ∈ wsX6_fault := by decide +kernel
theorem fiX6_fault_6 : ∀ w ∈ u_ws RX6 TX6 9, w ∈ wsX6_fault := by decide +kernel
theorem mbX6_fault_49 : Cond.fieldLink RX6 49 "BaroRuns" "text" "LBaroRuns$Text;" ∈ wsX6_fault := by decide +kernel
theorem mbX6_fault_108 : Cond.constant RX6 108 (-2000000004) ∈ wsX6_fault := by decide +kernel
theorem mbX6_fault_61 : Cond.constant RX6 61 (-2000000001) ∈ wsX6_fault := by decide +kernel
set_option maxHeartbeats 4000000 in
set_option maxRecDepth 100000 in
theorem kX6_fault (l : Launch) (G : wG) {x1 : Int32} {M0 M1 : wM} {r : Int32} (hf : fX6_fault x1 M0 = some (r, M1)) : mI l yX6_fault wsX6_fault rmX6_fault G [.ref (ga G (0)), .int (x1)] M0 r M1 := by
  refine mI.of (cc := cX6_fault) (nL := 2) (ret := (some .int)) (own := RX6) (lv := [(0, .ref (ga G (0))), (1, .int (x1))]) (plainFor_of_name (by decide +kernel)) rfl rfl (Nat.le_of_ble_eq_true rfl) rfl ?_
  intro p e s m args below meth c hC hr hlk
  unfold fX6_fault at hf
  refine wa_iload_n hC dX6_fault_0 rfl 1 rfl ?_
  refine wa_iconst (v := 0) hC dX6_fault_1 (by decide) ?_
  refine wa_iconst (v := 1) hC dX6_fault_2 (by decide) ?_
  obtain ⟨v1, h1, hf⟩ := bd hf
  refine wa_calli (rest := []) (wr_S hC (kX6_within l G h1) (va_cwS 3 hC.1.2.2.2.2 gX6_fault_X6_within rfl rfl rfl (by decide +kernel) ⟨Nat.le_of_ble_eq_true rfl, Nat.le_of_ble_eq_true rfl⟩) rfl rfl (Nat.le_of_ble_eq_true rfl) dX6_fault_3) ?_
  refine wa_if_ne hC 12 dX6_fault_6 (by decide) (fun c2 => ?_) (fun c2 => ?_)
  · have hf := ite_f hf c2
    refine wa_aload_n hC dX6_fault_12 rfl 0 rfl ?_
    obtain ⟨M3, h3, hf⟩ := bd hf
    refine wa_callv (rest := []) (wr_V hC (kX6_tryText l G h3) (cwV 0 hC.1.2.2.2.2 gX6_fault_X6_tryText rfl rfl rfl (by decide +kernel) ⟨Nat.le_of_ble_eq_true rfl, Nat.le_of_ble_eq_true rfl⟩) (show kd 0 = 6 from rfl) (by decide) (ce6 (show kd 0 = 6 from rfl)) rfl rfl rfl rfl (Nat.le_of_ble_eq_true rfl) dX6_fault_13) ?_
    refine wa_aload_n hC dX6_fault_16 rfl 0 rfl ?_
    refine rg6_7 hC fiX6_fault_6 mbX6_fault_49 dX6_fault_17 ?_
    refine rgn4_9 hC fiX6_fault_4 (show kd 94 = 4 from rfl) (nwf_BaroRuns_221 hC.2.2.2) dX6_fault_20 ?_
    refine wa_iconst (v := -1) hC dX6_fault_23 (by decide) ?_
    refine wa_icmp_ne hC 30 dX6_fault_24 (by decide) (fun c4 => ?_) (fun c4 => ?_)
    · have hf := ite_f hf c4
      refine wa_iload_n hC dX6_fault_30 rfl 1 rfl ?_
      refine wa_if_ne hC 44 dX6_fault_31 (by decide) (fun c5 => ?_) (fun c5 => ?_)
      · have hf := ite_f hf c5
        refine wa_aload_n hC dX6_fault_44 rfl 0 rfl ?_
        refine rg6_7 hC fiX6_fault_6 mbX6_fault_49 dX6_fault_45 ?_
        refine rgn4_10 hC fiX6_fault_4 (show kd 94 = 4 from rfl) (nwf_BaroRuns_224 hC.2.2.2) dX6_fault_48 ?_
        exact wa_iret hC hlk hr (congrArg Prod.fst (so_inj hf)) (congrArg Prod.snd (so_inj hf)) dX6_fault_51
      · have hf := ite_t hf c5
        refine wa_aload_n hC dX6_fault_34 rfl 0 rfl ?_
        refine rg6_7 hC fiX6_fault_6 mbX6_fault_49 dX6_fault_35 ?_
        refine rgn4_9 hC fiX6_fault_4 (show kd 94 = 4 from rfl) (nwf_BaroRuns_221 hC.2.2.2) dX6_fault_38 ?_
        refine wa_goto hC 51 dX6_fault_41 (by decide) ?_
        exact wa_iret hC hlk hr (congrArg Prod.fst (so_inj hf)) (congrArg Prod.snd (so_inj hf)) dX6_fault_51
    · have hf := ite_t hf c4
      refine wa_ldc hC mbX6_fault_108 dX6_fault_27 ?_
      exact wa_iret hC hlk hr (congrArg Prod.fst (so_inj hf)) (congrArg Prod.snd (so_inj hf)) dX6_fault_29
  · have hf := ite_t hf c2
    refine wa_ldc hC mbX6_fault_61 dX6_fault_9 ?_
    exact wa_iret hC hlk hr (congrArg Prod.fst (so_inj hf)) (congrArg Prod.snd (so_inj hf)) dX6_fault_11
abbrev rmX6_enter : Room := { frames := 6, cells := 0, slots := 0, locals := 144 }
theorem fiX6_enter_4 : ∀ w ∈ u_ws RX4 TX4 11, w ∈ wsX6_enter := by decide +kernel
theorem fiX6_enter_6 : ∀ w ∈ u_ws RX6 TX6 9, w ∈ wsX6_enter := by decide +kernel
theorem mbX6_enter_49 : Cond.fieldLink RX6 49 "BaroRuns" "text" "LBaroRuns$Text;" ∈ wsX6_enter := by decide +kernel
theorem mbX6_enter_10 : Cond.fieldLink RX6 10 "BaroRuns" "now" "LBaroRuns$State;" ∈ wsX6_enter := by decide +kernel
theorem mbX6_enter_16 : Cond.fieldLink RX6 16 "BaroRuns" "trial" "LBaroRuns$State;" ∈ wsX6_enter := by decide +kernel
theorem mbX6_enter_146 : Cond.constant RX6 146 (-2000000002) ∈ wsX6_enter := by decide +kernel
set_option maxHeartbeats 4000000 in
set_option maxRecDepth 100000 in
theorem kX6_enter (l : Launch) (G : wG)  {M0 M1 : wM} {r : Int32} (hf : fX6_enter  M0 = some (r, M1)) : mI l yX6_enter wsX6_enter rmX6_enter G [.ref (ga G (0))] M0 r M1 := by
  refine mI.of (cc := cX6_enter) (nL := 1) (ret := (some .int)) (own := RX6) (lv := [(0, .ref (ga G (0)))]) (plainFor_of_name (by decide +kernel)) rfl rfl (Nat.le_of_ble_eq_true rfl) rfl ?_
  intro p e s m args below meth c hC hr hlk
  unfold fX6_enter at hf
  refine wa_aload_n hC dX6_enter_0 rfl 0 rfl ?_
  obtain ⟨M1, h1, hf⟩ := bd hf
  refine wa_callv (rest := []) (wr_V hC (kX6_tryText l G h1) (cwV 0 hC.1.2.2.2.2 gX6_enter_X6_tryText rfl rfl rfl (by decide +kernel) ⟨Nat.le_of_ble_eq_true rfl, Nat.le_of_ble_eq_true rfl⟩) (show kd 0 = 6 from rfl) (by decide) (ce6 (show kd 0 = 6 from rfl)) rfl rfl rfl rfl (Nat.le_of_ble_eq_true rfl) dX6_enter_1) ?_
  refine wa_aload_n hC dX6_enter_4 rfl 0 rfl ?_
  refine rg6_7 hC fiX6_enter_6 mbX6_enter_49 dX6_enter_5 ?_
  refine rgn4_9 hC fiX6_enter_4 (show kd 94 = 4 from rfl) (nwf_BaroRuns_221 hC.2.2.2) dX6_enter_8 ?_
  refine wa_iconst (v := -1) hC dX6_enter_11 (by decide) ?_
  refine wa_icmp_eq hC 18 dX6_enter_12 (by decide) (fun c2 => ?_) (fun c2 => ?_)
  · have hf := ite_t hf c2
    refine wa_aload_n hC dX6_enter_18 rfl 0 rfl ?_
    obtain ⟨M3, h3, hf⟩ := bd hf
    refine wa_callv (rest := []) (wr_V hC (kX6_record l G h3) (cwV 0 hC.1.2.2.2.2 gX6_enter_X6_record rfl rfl rfl (by decide +kernel) ⟨Nat.le_of_ble_eq_true rfl, Nat.le_of_ble_eq_true rfl⟩) (show kd 0 = 6 from rfl) (by decide) (ce6 (show kd 0 = 6 from rfl)) rfl rfl rfl rfl (Nat.le_of_ble_eq_true rfl) dX6_enter_19) ?_
    refine wa_aload_n hC dX6_enter_22 rfl 0 rfl ?_
    refine rg6_0 hC fiX6_enter_6 mbX6_enter_10 dX6_enter_23 ?_
    refine wa_aload_n hC dX6_enter_26 rfl 0 rfl ?_
    refine rg6_1 hC fiX6_enter_6 mbX6_enter_16 dX6_enter_27 ?_
    obtain ⟨M4, h4, hf⟩ := bd hf
    refine wa_callv (rest := []) (wr_V hC (kX2_copyFrom l G (show kd 1 = 2 from rfl) (show kd 10 = 2 from rfl) h4) (cwV 1 hC.1.2.2.2.2 gX6_enter_X2_copyFrom rfl rfl rfl (by decide +kernel) ⟨Nat.le_of_ble_eq_true rfl, Nat.le_of_ble_eq_true rfl⟩) (show kd 1 = 2 from rfl) (by decide) (ce2 (show kd 1 = 2 from rfl)) rfl rfl rfl rfl (Nat.le_of_ble_eq_true rfl) dX6_enter_30) ?_
    refine wa_aload_n hC dX6_enter_33 rfl 0 rfl ?_
    refine rg6_7 hC fiX6_enter_6 mbX6_enter_49 dX6_enter_34 ?_
    refine rgn4_8 hC fiX6_enter_4 (show kd 94 = 4 from rfl) (nwf_BaroRuns_230 hC.2.2.2) dX6_enter_37 ?_
    exact wa_iret hC hlk hr (congrArg Prod.fst (so_inj hf)) (congrArg Prod.snd (so_inj hf)) dX6_enter_40
  · have hf := ite_f hf c2
    refine wa_ldc hC mbX6_enter_146 dX6_enter_15 ?_
    exact wa_iret hC hlk hr (congrArg Prod.fst (so_inj hf)) (congrArg Prod.snd (so_inj hf)) dX6_enter_17

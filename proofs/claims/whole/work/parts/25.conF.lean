abbrev rmX7_in : Room := { frames := 0, cells := 0, slots := 0, locals := 0 }
set_option maxHeartbeats 4000000 in
set_option maxRecDepth 100000 in
theorem kX7_in (l : Launch) (G : wG) {x0 : Int32} {x1 : Int32} {x2 : Int32} {M0 : wM} {b : Bool} (hf : fX7_in x0 x1 x2 M0 = some b) : mI l yX7_in wsX7_in rmX7_in G [.int (x0), .int (x1), .int (x2)] M0 (b2 b) M0 := by
  refine mI.of (cc := cX7_in) (nL := 3) (ret := (some .boolean)) (own := RX7) (lv := [(0, .int (x0)), (1, .int (x1)), (2, .int (x2))]) (plainFor_of_name (by decide +kernel)) rfl rfl (Nat.le_of_ble_eq_true rfl) rfl ?_
  intro p e s m args below meth c hC hr hlk
  unfold fX7_in at hf
  refine wa_iload_n hC dX7_in_0 rfl 0 rfl ?_
  refine wa_iload_n hC dX7_in_1 rfl 1 rfl ?_
  refine wa_icmp_lt hC 14 dX7_in_2 (by decide) (fun c1 => ?_) (fun c1 => ?_)
  · have hf := ite_t hf c1
    refine wa_iconst (v := 0) hC dX7_in_14 (by decide) ?_
    exact wa_zret hC hlk hr (congrArg b2 (so_inj hf)) rfl dX7_in_15
  · have hf := ite_f hf c1
    refine wa_iload_n hC dX7_in_5 rfl 0 rfl ?_
    refine wa_iload_n hC dX7_in_6 rfl 2 rfl ?_
    refine wa_icmp_gt hC 14 dX7_in_7 (by decide) (fun c2 => ?_) (fun c2 => ?_)
    · have hf := ite_t hf c2
      refine wa_iconst (v := 0) hC dX7_in_14 (by decide) ?_
      exact wa_zret hC hlk hr (congrArg b2 (so_inj hf)) rfl dX7_in_15
    · have hf := ite_f hf c2
      refine wa_iconst (v := 1) hC dX7_in_10 (by decide) ?_
      refine wa_goto hC 15 dX7_in_11 (by decide) ?_
      exact wa_zret hC hlk hr (congrArg b2 (so_inj hf)) rfl dX7_in_15
abbrev rmX7_isCell : Room := { frames := 1, cells := 0, slots := 0, locals := 22 }
set_option maxHeartbeats 4000000 in
set_option maxRecDepth 100000 in
theorem kX7_isCell (l : Launch) (G : wG) {x0 : Int32} {M0 : wM} {b : Bool} (hf : fX7_isCell x0 M0 = some b) : mI l yX7_isCell wsX7_isCell rmX7_isCell G [.int (x0)] M0 (b2 b) M0 := by
  refine mI.of (cc := cX7_isCell) (nL := 1) (ret := (some .boolean)) (own := RX7) (lv := [(0, .int (x0))]) (plainFor_of_name (by decide +kernel)) rfl rfl (Nat.le_of_ble_eq_true rfl) rfl ?_
  intro p e s m args below meth c hC hr hlk
  unfold fX7_isCell at hf
  refine wa_iload_n hC dX7_isCell_0 rfl 0 rfl ?_
  refine wa_iconst (v := 0) hC dX7_isCell_1 (by decide) ?_
  refine wa_iconst (v := 2) hC dX7_isCell_2 (by decide) ?_
  obtain ⟨v1, h1, hf⟩ := bd hf
  refine wa_calli (rest := []) (wr_S hC (kX7_in l G h1) (va_cwS 3 hC.1.2.2.2.2 gX7_isCell_X7_in rfl rfl rfl (by decide +kernel) ⟨Nat.le_of_ble_eq_true rfl, Nat.le_of_ble_eq_true rfl⟩) rfl rfl (Nat.le_of_ble_eq_true rfl) dX7_isCell_3) ?_
  exact wa_zret hC hlk hr (congrArg b2 (so_inj hf)) rfl dX7_isCell_6
abbrev rmX7_isReading : Room := { frames := 1, cells := 0, slots := 0, locals := 22 }
theorem fiX7_isReading_7 : ∀ w ∈ u_ws RX7 TX7 21, w ∈ wsX7_isReading := by decide +kernel
theorem mbX7_isReading_7 : Cond.fieldLink RX7 7 "BaroRunsModel" "d" "[I" ∈ wsX7_isReading := by decide +kernel
set_option maxHeartbeats 4000000 in
set_option maxRecDepth 100000 in
theorem kX7_isReading (l : Launch) (G : wG) {x1 : Int32} {x2 : Int32} {M0 : wM} {b : Bool} (hf : fX7_isReading x1 x2 M0 = some b) : mI l yX7_isReading wsX7_isReading rmX7_isReading G [.ref (ga G (96)), .int (x1), .int (x2)] M0 (b2 b) M0 := by
  refine mI.of (cc := cX7_isReading) (nL := 3) (ret := (some .boolean)) (own := RX7) (lv := [(0, .ref (ga G (96))), (1, .int (x1)), (2, .int (x2))]) (plainFor_of_name (by decide +kernel)) rfl rfl (Nat.le_of_ble_eq_true rfl) rfl ?_
  intro p e s m args below meth c hC hr hlk
  unfold fX7_isReading at hf
  refine wa_iload_n hC dX7_isReading_0 rfl 1 rfl ?_
  refine wa_iconst (v := -1) hC dX7_isReading_1 (by decide) ?_
  refine wa_iconst (v := 2) hC dX7_isReading_2 (by decide) ?_
  obtain ⟨v1, h1, hf⟩ := bd hf
  refine wa_calli (rest := []) (wr_S hC (kX7_in l G h1) (va_cwS 3 hC.1.2.2.2.2 gX7_isReading_X7_in rfl rfl rfl (by decide +kernel) ⟨Nat.le_of_ble_eq_true rfl, Nat.le_of_ble_eq_true rfl⟩) rfl rfl (Nat.le_of_ble_eq_true rfl) dX7_isReading_3) ?_
  refine wa_if_eq hC 31 dX7_isReading_6 (by decide) (fun c2 => ?_) (fun c2 => ?_)
  · have hf := ite_t hf c2
    refine wa_iconst (v := 0) hC dX7_isReading_31 (by decide) ?_
    exact wa_zret hC hlk hr (congrArg b2 (so_inj hf)) rfl dX7_isReading_32
  · have hf := ite_f hf c2
    refine wa_iload_n hC dX7_isReading_9 rfl 2 rfl ?_
    refine wa_iconst (v := 0) hC dX7_isReading_10 (by decide) ?_
    refine wa_aload_n hC dX7_isReading_11 rfl 0 rfl ?_
    refine rg7_0 hC fiX7_isReading_7 mbX7_isReading_7 dX7_isReading_12 ?_
    refine wa_iconst (v := 4) hC dX7_isReading_15 (by decide) ?_
    refine wa_iload_n hC dX7_isReading_16 rfl 1 rfl ?_
    refine wa_iadd hC dX7_isReading_17 ?_
    obtain ⟨k3, h3, hf⟩ := bd hf
    obtain ⟨hv3, rfl⟩ := ix_some h3
    refine wa_iald hC (show kd 97 = 20 from rfl) hv3 dX7_isReading_18 ?_
    refine wa_iconst (v := 1) hC dX7_isReading_19 (by decide) ?_
    refine wa_isub hC dX7_isReading_20 ?_
    obtain ⟨v4, h4, hf⟩ := bd hf
    refine wa_calli (rest := []) (wr_S hC (kX7_in l G h4) (va_cwS 3 hC.1.2.2.2.2 gX7_isReading_X7_in rfl rfl rfl (by decide +kernel) ⟨Nat.le_of_ble_eq_true rfl, Nat.le_of_ble_eq_true rfl⟩) rfl rfl (Nat.le_of_ble_eq_true rfl) dX7_isReading_21) ?_
    refine wa_if_eq hC 31 dX7_isReading_24 (by decide) (fun c5 => ?_) (fun c5 => ?_)
    · have hf := ite_t hf c5
      refine wa_iconst (v := 0) hC dX7_isReading_31 (by decide) ?_
      exact wa_zret hC hlk hr (congrArg b2 (so_inj hf)) rfl dX7_isReading_32
    · have hf := ite_f hf c5
      refine wa_iconst (v := 1) hC dX7_isReading_27 (by decide) ?_
      refine wa_goto hC 32 dX7_isReading_28 (by decide) ?_
      exact wa_zret hC hlk hr (congrArg b2 (so_inj hf)) rfl dX7_isReading_32
abbrev rmX7_areValues : Room := { frames := 1, cells := 0, slots := 0, locals := 22 }
theorem mbX7_areValues_43 : Cond.constant RX7 43 (50000) ∈ wsX7_areValues := by decide +kernel
theorem mbX7_areValues_44 : Cond.constant RX7 44 (110000) ∈ wsX7_areValues := by decide +kernel
set_option maxHeartbeats 4000000 in
set_option maxRecDepth 100000 in
theorem kX7_areValues (l : Launch) (G : wG) {x0 : Int32} {x1 : Int32} {x2 : Int32} {M0 : wM} {b : Bool} (hf : fX7_areValues x0 x1 x2 M0 = some b) : mI l yX7_areValues wsX7_areValues rmX7_areValues G [.int (x0), .int (x1), .int (x2)] M0 (b2 b) M0 := by
  refine mI.of (cc := cX7_areValues) (nL := 3) (ret := (some .boolean)) (own := RX7) (lv := [(0, .int (x0)), (1, .int (x1)), (2, .int (x2))]) (plainFor_of_name (by decide +kernel)) rfl rfl (Nat.le_of_ble_eq_true rfl) rfl ?_
  intro p e s m args below meth c hC hr hlk
  unfold fX7_areValues at hf
  refine wa_iload_n hC dX7_areValues_0 rfl 0 rfl ?_
  refine wa_iconst (v := 0) hC dX7_areValues_1 (by decide) ?_
  refine wa_sipush (v := 10000) hC dX7_areValues_2 (by decide) ?_
  obtain ⟨v1, h1, hf⟩ := bd hf
  refine wa_calli (rest := []) (wr_S hC (kX7_in l G h1) (va_cwS 3 hC.1.2.2.2.2 gX7_areValues_X7_in rfl rfl rfl (by decide +kernel) ⟨Nat.le_of_ble_eq_true rfl, Nat.le_of_ble_eq_true rfl⟩) rfl rfl (Nat.le_of_ble_eq_true rfl) dX7_areValues_5) ?_
  refine wa_if_eq hC 39 dX7_areValues_8 (by decide) (fun c2 => ?_) (fun c2 => ?_)
  · have hf := ite_t hf c2
    refine wa_iconst (v := 0) hC dX7_areValues_39 (by decide) ?_
    exact wa_zret hC hlk hr (congrArg b2 (so_inj hf)) rfl dX7_areValues_40
  · have hf := ite_f hf c2
    refine wa_iload_n hC dX7_areValues_11 rfl 1 rfl ?_
    refine wa_ldc hC mbX7_areValues_43 dX7_areValues_12 ?_
    refine wa_ldc hC mbX7_areValues_44 dX7_areValues_14 ?_
    obtain ⟨v3, h3, hf⟩ := bd hf
    refine wa_calli (rest := []) (wr_S hC (kX7_in l G h3) (va_cwS 3 hC.1.2.2.2.2 gX7_areValues_X7_in rfl rfl rfl (by decide +kernel) ⟨Nat.le_of_ble_eq_true rfl, Nat.le_of_ble_eq_true rfl⟩) rfl rfl (Nat.le_of_ble_eq_true rfl) dX7_areValues_16) ?_
    refine wa_if_eq hC 39 dX7_areValues_19 (by decide) (fun c4 => ?_) (fun c4 => ?_)
    · have hf := ite_t hf c4
      refine wa_iconst (v := 0) hC dX7_areValues_39 (by decide) ?_
      exact wa_zret hC hlk hr (congrArg b2 (so_inj hf)) rfl dX7_areValues_40
    · have hf := ite_f hf c4
      refine wa_iload_n hC dX7_areValues_22 rfl 2 rfl ?_
      refine wa_sipush (v := -300) hC dX7_areValues_23 (by decide) ?_
      refine wa_sipush (v := 500) hC dX7_areValues_26 (by decide) ?_
      obtain ⟨v5, h5, hf⟩ := bd hf
      refine wa_calli (rest := []) (wr_S hC (kX7_in l G h5) (va_cwS 3 hC.1.2.2.2.2 gX7_areValues_X7_in rfl rfl rfl (by decide +kernel) ⟨Nat.le_of_ble_eq_true rfl, Nat.le_of_ble_eq_true rfl⟩) rfl rfl (Nat.le_of_ble_eq_true rfl) dX7_areValues_29) ?_
      refine wa_if_eq hC 39 dX7_areValues_32 (by decide) (fun c6 => ?_) (fun c6 => ?_)
      · have hf := ite_t hf c6
        refine wa_iconst (v := 0) hC dX7_areValues_39 (by decide) ?_
        exact wa_zret hC hlk hr (congrArg b2 (so_inj hf)) rfl dX7_areValues_40
      · have hf := ite_f hf c6
        refine wa_iconst (v := 1) hC dX7_areValues_35 (by decide) ?_
        refine wa_goto hC 40 dX7_areValues_36 (by decide) ?_
        exact wa_zret hC hlk hr (congrArg b2 (so_inj hf)) rfl dX7_areValues_40
abbrev rmX7_of : Room := { frames := 0, cells := 0, slots := 0, locals := 0 }
theorem fiX7_of_7 : ∀ w ∈ u_ws RX7 TX7 21, w ∈ wsX7_of := by decide +kernel
theorem mbX7_of_7 : Cond.fieldLink RX7 7 "BaroRunsModel" "d" "[I" ∈ wsX7_of := by decide +kernel
set_option maxHeartbeats 4000000 in
set_option maxRecDepth 100000 in
theorem kX7_of (l : Launch) (G : wG) {x1 : Int32} {x2 : Int32} {x3 : Int32} {M0 : wM} {r : Int32} (hf : fX7_of x1 x2 x3 M0 = some r) : mI l yX7_of wsX7_of rmX7_of G [.ref (ga G (96)), .int (x1), .int (x2), .int (x3)] M0 r M0 := by
  refine mI.of (cc := cX7_of) (nL := 4) (ret := (some .int)) (own := RX7) (lv := [(0, .ref (ga G (96))), (1, .int (x1)), (2, .int (x2)), (3, .int (x3))]) (plainFor_of_name (by decide +kernel)) rfl rfl (Nat.le_of_ble_eq_true rfl) rfl ?_
  intro p e s m args below meth c hC hr hlk
  unfold fX7_of at hf
  refine wa_aload_n hC dX7_of_0 rfl 0 rfl ?_
  refine rg7_0 hC fiX7_of_7 mbX7_of_7 dX7_of_1 ?_
  refine wa_bipush (v := 7) hC dX7_of_4 (by decide) ?_
  refine wa_bipush (v := 80) hC dX7_of_6 (by decide) ?_
  refine wa_iload_n hC dX7_of_8 rfl 1 rfl ?_
  refine wa_imul hC dX7_of_9 ?_
  refine wa_iadd hC dX7_of_10 ?_
  refine wa_iload_n hC dX7_of_11 rfl 2 rfl ?_
  refine wa_iadd hC dX7_of_12 ?_
  refine wa_iload_n hC dX7_of_13 rfl 3 rfl ?_
  refine wa_iadd hC dX7_of_14 ?_
  obtain ⟨k1, h1, hf⟩ := bd hf
  obtain ⟨hv1, rfl⟩ := ix_some h1
  refine wa_iald hC (show kd 97 = 20 from rfl) hv1 dX7_of_15 ?_
  exact wa_iret hC hlk hr (so_inj hf) rfl dX7_of_16
abbrev rmX7_down : Room := { frames := 0, cells := 0, slots := 0, locals := 0 }
set_option maxHeartbeats 4000000 in
set_option maxRecDepth 100000 in
theorem kX7_down (l : Launch) (G : wG) {x0 : Int64} {x2 : Int64} {M0 : wM} {r : Int64} (hf : fX7_down x0 x2 M0 = some r) : mL l yX7_down wsX7_down rmX7_down G [.long (x0), .long (x2)] M0 r M0 := by
  refine mL.of (cc := cX7_down) (nL := 6) (ret := (some .long)) (own := RX7) (lv := [(0, .long (x0)), (2, .long (x2))]) (plainFor_of_name (by decide +kernel)) rfl rfl (Nat.le_of_ble_eq_true rfl) rfl ?_
  intro p e s m args below meth c hC hr hlk
  have hJ45 : ∀ (x4 : Int64), fX7_down_J45 x0 x2 M0  x4 = some r → wAt p l e rmX7_down s m args below meth c (qL below args s G r M0) 6 G M0 45 [(4, .long (x4))] [] := by
    intro  x4 hf
    unfold fX7_down_J45 at hf
    refine wa_lload hC dX7_down_45 0 rfl ?_
    exact wa_lret hC hlk hr (so_inj hf) rfl dX7_down_47
  have hJ35 : ∀ (x4 : Int64) (s0 : Int32) (s1 : Int32), fX7_down_J35 x0 x2 M0  x4 s0 s1 = some r → wAt p l e rmX7_down s m args below meth c (qL below args s G r M0) 6 G M0 35 [(4, .long (x4))] [.int (s1), .int (s0)] := by
    intro  x4 s0 s1 hf
    unfold fX7_down_J35 at hf
    refine wa_icmp_eq hC 45 dX7_down_35 (by decide) (fun c1 => ?_) (fun c1 => ?_)
    · have hf := ite_t hf c1
      exact wa_sub [0] rfl (hJ45  _ hf)
    · have hf := ite_f hf c1
      refine wa_lload hC dX7_down_38 0 rfl ?_
      refine wa_lconst (v := 1) hC dX7_down_40 (by decide) ?_
      refine wa_lsub hC dX7_down_41 ?_
      refine wa_goto hC 47 dX7_down_42 (by decide) ?_
      exact wa_lret hC hlk hr (so_inj hf) rfl dX7_down_47
  have hJ24 : ∀ (x4 : Int64) (s0 : Int32), fX7_down_J24 x0 x2 M0  x4 s0 = some r → wAt p l e rmX7_down s m args below meth c (qL below args s G r M0) 6 G M0 24 [(2, .long (x2)), (4, .long (x4))] [.int (s0)] := by
    intro  x4 s0 hf
    unfold fX7_down_J24 at hf
    refine wa_lload_n hC dX7_down_24 rfl 0 rfl ?_
    refine wa_lconst (v := 0) hC dX7_down_25 (by decide) ?_
    refine wa_lcmp hC dX7_down_26 ?_
    refine wa_if_ge hC 34 dX7_down_27 (by decide) (fun c2 => ?_) (fun c2 => ?_)
    · have hf := ite_t hf c2
      refine wa_iconst (v := 0) hC dX7_down_34 (by decide) ?_
      exact wa_sub [1] rfl (hJ35  _ _ _ hf)
    · have hf := ite_f hf c2
      refine wa_iconst (v := 1) hC dX7_down_30 (by decide) ?_
      refine wa_goto hC 35 dX7_down_31 (by decide) ?_
      exact wa_sub [1] rfl (hJ35  _ _ _ hf)
  unfold fX7_down at hf
  refine wa_lload_n hC dX7_down_0 rfl 0 rfl ?_
  refine wa_lload_n hC dX7_down_1 rfl 1 rfl ?_
  obtain ⟨v3, h3, hf⟩ := bd hf
  obtain ⟨hz3, rfl⟩ := dvL_some h3
  refine wa_ldiv hC dX7_down_2 hz3 ?_
  refine wa_lstore (lv' := [(4, .long _), (0, .long _), (2, .long _)]) hC dX7_down_3 (by decide) rfl ?_
  refine wa_lload_n hC dX7_down_5 rfl 1 rfl ?_
  refine wa_lload_n hC dX7_down_6 rfl 2 rfl ?_
  obtain ⟨v4, h4, hf⟩ := bd hf
  obtain ⟨hz4, rfl⟩ := rmL_some h4
  refine wa_lrem hC dX7_down_7 hz4 ?_
  refine wa_lconst (v := 0) hC dX7_down_8 (by decide) ?_
  refine wa_lcmp hC dX7_down_9 ?_
  refine wa_if_eq hC 45 dX7_down_10 (by decide) (fun c5 => ?_) (fun c5 => ?_)
  · have hf := ite_t hf c5
    exact wa_sub [0] rfl (hJ45  _ hf)
  · have hf := ite_f hf c5
    refine wa_lload_n hC dX7_down_13 rfl 1 rfl ?_
    refine wa_lconst (v := 0) hC dX7_down_14 (by decide) ?_
    refine wa_lcmp hC dX7_down_15 ?_
    refine wa_if_ge hC 23 dX7_down_16 (by decide) (fun c6 => ?_) (fun c6 => ?_)
    · have hf := ite_t hf c6
      refine wa_iconst (v := 0) hC dX7_down_23 (by decide) ?_
      exact wa_sub [2, 0] rfl (hJ24  _ _ hf)
    · have hf := ite_f hf c6
      refine wa_iconst (v := 1) hC dX7_down_19 (by decide) ?_
      refine wa_goto hC 24 dX7_down_20 (by decide) ?_
      exact wa_sub [2, 0] rfl (hJ24  _ _ hf)
abbrev rmX7_records : Room := { frames := 0, cells := 0, slots := 0, locals := 0 }
theorem fiX7_records_7 : ∀ w ∈ u_ws RX7 TX7 21, w ∈ wsX7_records := by decide +kernel
theorem mbX7_records_45 : Cond.fieldLink RX7 45 "BaroRunsModel" "states" "I" ∈ wsX7_records := by decide +kernel
theorem mbX7_records_13 : Cond.fieldLink RX7 13 "BaroRunsModel" "was" "[I" ∈ wsX7_records := by decide +kernel
theorem mbX7_records_7 : Cond.fieldLink RX7 7 "BaroRunsModel" "d" "[I" ∈ wsX7_records := by decide +kernel
set_option maxHeartbeats 4000000 in
set_option maxRecDepth 100000 in
theorem kX7_records (l : Launch) (G : wG)  {M0 M1 : wM} (hf : fX7_records  M0 = some M1) : mV l yX7_records wsX7_records rmX7_records G [.ref (ga G (96))] M0 M1 := by
  refine mV.of (cc := cX7_records) (nL := 2) (ret := none) (own := RX7) (lv := [(0, .ref (ga G (96)))]) (plainFor_of_name (by decide +kernel)) rfl rfl (Nat.le_of_ble_eq_true rfl) rfl ?_
  intro p e s m args below meth c hC hr hlk
  have hB51 : ∀ (bk51 : Int32 → wM → Option wM) (hbk51 : (∀ (x1 : Int32) (M0 : wM), bk51 x1 M0 = some M1 → wAt p l e rmX7_records s m args below meth c (qV below args s G M1) 2 G M0 51 [(0, .ref (ga G (96))), (1, .int (x1))] [])) (x1 : Int32) (M0 : wM), fX7_records_B51  bk51 x1 M0 = some M1 → wAt p l e rmX7_records s m args below meth c (qV below args s G M1) 2 G M0 51 [(0, .ref (ga G (96))), (1, .int (x1))] [] := by
    intro bk51 hbk51 x1 M0 hf
    unfold fX7_records_B51 at hf
    refine wa_iload_n hC dX7_records_51 rfl 1 rfl ?_
    refine wa_sipush (v := 327) hC dX7_records_52 (by decide) ?_
    refine wa_icmp_ge hC 85 dX7_records_55 (by decide) (fun c1 => ?_) (fun c1 => ?_)
    · have hf := ite_t hf c1
      refine wa_aload_n hC dX7_records_85 rfl 0 rfl ?_
      refine wa_dup hC dX7_records_86 rfl ?_
      refine rg7_2 hC fiX7_records_7 mbX7_records_45 dX7_records_87 ?_
      refine wa_iconst (v := 1) hC dX7_records_90 (by decide) ?_
      refine wa_iadd hC dX7_records_91 ?_
      refine rp7_2 hC fiX7_records_7 mbX7_records_45 dX7_records_92 ?_
      exact wa_vret hC hlk hr (so_inj hf) dX7_records_95
    · have hf := ite_f hf c1
      refine wa_aload_n hC dX7_records_58 rfl 0 rfl ?_
      refine rg7_1 hC fiX7_records_7 mbX7_records_13 dX7_records_59 ?_
      refine wa_sipush (v := 327) hC dX7_records_62 (by decide) ?_
      refine wa_aload_n hC dX7_records_65 rfl 0 rfl ?_
      refine rg7_2 hC fiX7_records_7 mbX7_records_45 dX7_records_66 ?_
      refine wa_imul hC dX7_records_69 ?_
      refine wa_iload_n hC dX7_records_70 rfl 1 rfl ?_
      refine wa_iadd hC dX7_records_71 ?_
      refine wa_aload_n hC dX7_records_72 rfl 0 rfl ?_
      refine rg7_0 hC fiX7_records_7 mbX7_records_7 dX7_records_73 ?_
      refine wa_iload_n hC dX7_records_76 rfl 1 rfl ?_
      obtain ⟨k2, h2, hf⟩ := bd hf
      obtain ⟨hv2, rfl⟩ := ix_some h2
      refine wa_iald hC (show kd 97 = 20 from rfl) hv2 dX7_records_77 ?_
      obtain ⟨k3, h3, hf⟩ := bd hf
      obtain ⟨hv3, rfl⟩ := ix_some h3
      refine wa_iast hC (show kd 98 = 20 from rfl) hv3 rfl dX7_records_78 ?_
      refine wa_iinc (v := _ + 1) (lv' := [(1, .int _), (0, .ref _)]) hC dX7_records_79 (t := 1) rfl rfl (by decide) rfl ?_
      refine wa_goto hC 51 dX7_records_82 (by decide) ?_
      exact wa_sub [1, 0] rfl (hbk51 _ _ hf)
  have hL51 : ∀ (n : Nat) (x1 : Int32) (M0 : wM), fX7_records_L51   n x1 M0 = some M1 → wAt p l e rmX7_records s m args below meth c (qV below args s G M1) 2 G M0 51 [(0, .ref (ga G (96))), (1, .int (x1))] [] := by
    intro  n
    induction n with
    | zero =>
      intro x1 M0 hf
      exact absurd hf (by simp [fX7_records_L51])
    | succ n ih =>
      intro x1 M0 hf
      exact hB51  (fX7_records_L51   n) ih x1 M0 hf
  have hB10 : ∀ (bk10 : Int32 → wM → Option wM) (hbk10 : (∀ (x1 : Int32) (M0 : wM), bk10 x1 M0 = some M1 → wAt p l e rmX7_records s m args below meth c (qV below args s G M1) 2 G M0 10 [(0, .ref (ga G (96))), (1, .int (x1))] [])) (x1 : Int32) (M0 : wM), fX7_records_B10  bk10 x1 M0 = some M1 → wAt p l e rmX7_records s m args below meth c (qV below args s G M1) 2 G M0 10 [(0, .ref (ga G (96))), (1, .int (x1))] [] := by
    intro bk10 hbk10 x1 M0 hf
    unfold fX7_records_B10 at hf
    refine wa_iload_n hC dX7_records_10 rfl 1 rfl ?_
    refine wa_sipush (v := 1308) hC dX7_records_11 (by decide) ?_
    refine wa_icmp_ge hC 39 dX7_records_14 (by decide) (fun c4 => ?_) (fun c4 => ?_)
    · have hf := ite_t hf c4
      refine wa_aload_n hC dX7_records_39 rfl 0 rfl ?_
      refine wa_dup hC dX7_records_40 rfl ?_
      refine rg7_2 hC fiX7_records_7 mbX7_records_45 dX7_records_41 ?_
      refine wa_iconst (v := 1) hC dX7_records_44 (by decide) ?_
      refine wa_isub hC dX7_records_45 ?_
      refine rp7_2 hC fiX7_records_7 mbX7_records_45 dX7_records_46 ?_
      refine wa_iconst (v := 0) hC dX7_records_49 (by decide) ?_
      refine wa_istore_n (lv' := [(1, .int _), (0, .ref _)]) hC dX7_records_50 rfl (by decide) rfl ?_
      exact wa_sub [1, 0] rfl (hL51 FU _ _ hf)
    · have hf := ite_f hf c4
      refine wa_aload_n hC dX7_records_17 rfl 0 rfl ?_
      refine rg7_1 hC fiX7_records_7 mbX7_records_13 dX7_records_18 ?_
      refine wa_iload_n hC dX7_records_21 rfl 1 rfl ?_
      refine wa_aload_n hC dX7_records_22 rfl 0 rfl ?_
      refine rg7_1 hC fiX7_records_7 mbX7_records_13 dX7_records_23 ?_
      refine wa_iload_n hC dX7_records_26 rfl 1 rfl ?_
      refine wa_sipush (v := 327) hC dX7_records_27 (by decide) ?_
      refine wa_iadd hC dX7_records_30 ?_
      obtain ⟨k5, h5, hf⟩ := bd hf
      obtain ⟨hv5, rfl⟩ := ix_some h5
      refine wa_iald hC (show kd 98 = 20 from rfl) hv5 dX7_records_31 ?_
      obtain ⟨k6, h6, hf⟩ := bd hf
      obtain ⟨hv6, rfl⟩ := ix_some h6
      refine wa_iast hC (show kd 98 = 20 from rfl) hv6 rfl dX7_records_32 ?_
      refine wa_iinc (v := _ + 1) (lv' := [(1, .int _), (0, .ref _)]) hC dX7_records_33 (t := 1) rfl rfl (by decide) rfl ?_
      refine wa_goto hC 10 dX7_records_36 (by decide) ?_
      exact wa_sub [1, 0] rfl (hbk10 _ _ hf)
  have hL10 : ∀ (n : Nat) (x1 : Int32) (M0 : wM), fX7_records_L10   n x1 M0 = some M1 → wAt p l e rmX7_records s m args below meth c (qV below args s G M1) 2 G M0 10 [(0, .ref (ga G (96))), (1, .int (x1))] [] := by
    intro  n
    induction n with
    | zero =>
      intro x1 M0 hf
      exact absurd hf (by simp [fX7_records_L10])
    | succ n ih =>
      intro x1 M0 hf
      exact hB10  (fX7_records_L10   n) ih x1 M0 hf
  unfold fX7_records at hf
  refine wa_aload_n hC dX7_records_0 rfl 0 rfl ?_
  refine rg7_2 hC fiX7_records_7 mbX7_records_45 dX7_records_1 ?_
  refine wa_iconst (v := 5) hC dX7_records_4 (by decide) ?_
  refine wa_icmp_ne hC 49 dX7_records_5 (by decide) (fun c7 => ?_) (fun c7 => ?_)
  · have hf := ite_f hf c7
    refine wa_iconst (v := 0) hC dX7_records_49 (by decide) ?_
    refine wa_istore_n (lv' := [(1, .int _), (0, .ref _)]) hC dX7_records_50 rfl (by decide) rfl ?_
    exact wa_sub [1, 0] rfl (hL51 FU _ _ hf)
  · have hf := ite_t hf c7
    refine wa_iconst (v := 0) hC dX7_records_8 (by decide) ?_
    refine wa_istore_n (lv' := [(1, .int _), (0, .ref _)]) hC dX7_records_9 rfl (by decide) rfl ?_
    exact wa_sub [1, 0] rfl (hL10 FU _ _ hf)
abbrev rmX7_isSetting : Room := { frames := 1, cells := 0, slots := 0, locals := 22 }
theorem mbX7_isSetting_49 : Cond.constant RX7 49 (-500000) ∈ wsX7_isSetting := by decide +kernel
theorem mbX7_isSetting_50 : Cond.constant RX7 50 (9000000) ∈ wsX7_isSetting := by decide +kernel
set_option maxHeartbeats 4000000 in
set_option maxRecDepth 100000 in
theorem kX7_isSetting (l : Launch) (G : wG) {x0 : Int32} {x1 : Int32} {M0 : wM} {b : Bool} (hf : fX7_isSetting x0 x1 M0 = some b) : mI l yX7_isSetting wsX7_isSetting rmX7_isSetting G [.int (x0), .int (x1)] M0 (b2 b) M0 := by
  refine mI.of (cc := cX7_isSetting) (nL := 2) (ret := (some .boolean)) (own := RX7) (lv := [(0, .int (x0)), (1, .int (x1))]) (plainFor_of_name (by decide +kernel)) rfl rfl (Nat.le_of_ble_eq_true rfl) rfl ?_
  intro p e s m args below meth c hC hr hlk
  unfold fX7_isSetting at hf
  refine wa_iload_n hC dX7_isSetting_0 rfl 0 rfl ?_
  refine ite_e hf (fun c1 hf => ?_) (fun c1 hf => ?_)
  · skip
    refine wa_tableIn (off := 27) hC 28 dX7_isSetting_1 (by rw [c1]; decide) (by rw [c1]; decide) (by rw [c1] <;> decide) (by decide) ?_
    refine wa_iload_n hC dX7_isSetting_28 rfl 1 rfl ?_
    refine wa_ldc hC mbX7_isSetting_49 dX7_isSetting_29 ?_
    refine wa_ldc hC mbX7_isSetting_50 dX7_isSetting_31 ?_
    obtain ⟨v2, h2, hf⟩ := bd hf
    refine wa_calli (rest := []) (wr_S hC (kX7_in l G h2) (va_cwS 3 hC.1.2.2.2.2 gX7_isSetting_X7_in rfl rfl rfl (by decide +kernel) ⟨Nat.le_of_ble_eq_true rfl, Nat.le_of_ble_eq_true rfl⟩) rfl rfl (Nat.le_of_ble_eq_true rfl) dX7_isSetting_33) ?_
    exact wa_zret hC hlk hr (congrArg b2 (so_inj hf)) rfl dX7_isSetting_36
  · skip
    refine ite_e hf (fun c3 hf => ?_) (fun c3 hf => ?_)
    · skip
      refine wa_tableIn (off := 36) hC 37 dX7_isSetting_1 (by rw [c3]; decide) (by rw [c3]; decide) (by rw [c3] <;> decide) (by decide) ?_
      refine wa_iload_n hC dX7_isSetting_37 rfl 1 rfl ?_
      refine wa_iconst (v := 1) hC dX7_isSetting_38 (by decide) ?_
      refine wa_sipush (v := 5000) hC dX7_isSetting_39 (by decide) ?_
      obtain ⟨v4, h4, hf⟩ := bd hf
      refine wa_calli (rest := []) (wr_S hC (kX7_in l G h4) (va_cwS 3 hC.1.2.2.2.2 gX7_isSetting_X7_in rfl rfl rfl (by decide +kernel) ⟨Nat.le_of_ble_eq_true rfl, Nat.le_of_ble_eq_true rfl⟩) rfl rfl (Nat.le_of_ble_eq_true rfl) dX7_isSetting_42) ?_
      exact wa_zret hC hlk hr (congrArg b2 (so_inj hf)) rfl dX7_isSetting_45
    · skip
      refine ite_e hf (fun c5 hf => ?_) (fun c5 hf => ?_)
      · skip
        refine wa_tableIn (off := 45) hC 46 dX7_isSetting_1 (by rw [c5]; decide) (by rw [c5]; decide) (by rw [c5] <;> decide) (by decide) ?_
        refine wa_iload_n hC dX7_isSetting_46 rfl 1 rfl ?_
        refine wa_iconst (v := 1) hC dX7_isSetting_47 (by decide) ?_
        refine wa_sipush (v := 500) hC dX7_isSetting_48 (by decide) ?_
        obtain ⟨v6, h6, hf⟩ := bd hf
        refine wa_calli (rest := []) (wr_S hC (kX7_in l G h6) (va_cwS 3 hC.1.2.2.2.2 gX7_isSetting_X7_in rfl rfl rfl (by decide +kernel) ⟨Nat.le_of_ble_eq_true rfl, Nat.le_of_ble_eq_true rfl⟩) rfl rfl (Nat.le_of_ble_eq_true rfl) dX7_isSetting_51) ?_
        exact wa_zret hC hlk hr (congrArg b2 (so_inj hf)) rfl dX7_isSetting_54
      · skip
        have n1 := ti_ne c1 (a := 0) (by decide)
        have n3 := ti_ne c3 (a := 1) (by decide)
        have n5 := ti_ne c5 (a := 2) (by decide)
        refine wa_tableOut hC 55 dX7_isSetting_1 (by omega) (by decide) ?_
        refine wa_iconst (v := 0) hC dX7_isSetting_55 (by decide) ?_
        exact wa_zret hC hlk hr (congrArg b2 (so_inj hf)) rfl dX7_isSetting_56
abbrev rmX7_set : Room := { frames := 2, cells := 0, slots := 0, locals := 43 }
theorem fiX7_set_7 : ∀ w ∈ u_ws RX7 TX7 21, w ∈ wsX7_set := by decide +kernel
theorem mbX7_set_7 : Cond.fieldLink RX7 7 "BaroRunsModel" "d" "[I" ∈ wsX7_set := by decide +kernel
theorem mbX7_set_55 : Cond.constant RX7 55 (-2000000001) ∈ wsX7_set := by decide +kernel
set_option maxHeartbeats 4000000 in
set_option maxRecDepth 100000 in
theorem kX7_set (l : Launch) (G : wG) {x1 : Int32} {x2 : Int32} {M0 M1 : wM} {r : Int32} (hf : fX7_set x1 x2 M0 = some (r, M1)) : mI l yX7_set wsX7_set rmX7_set G [.ref (ga G (96)), .int (x1), .int (x2)] M0 r M1 := by
  refine mI.of (cc := cX7_set) (nL := 4) (ret := (some .int)) (own := RX7) (lv := [(0, .ref (ga G (96))), (1, .int (x1)), (2, .int (x2))]) (plainFor_of_name (by decide +kernel)) rfl rfl (Nat.le_of_ble_eq_true rfl) rfl ?_
  intro p e s m args below meth c hC hr hlk
  unfold fX7_set at hf
  refine wa_iload_n hC dX7_set_0 rfl 1 rfl ?_
  refine wa_iload_n hC dX7_set_1 rfl 2 rfl ?_
  obtain ⟨v1, h1, hf⟩ := bd hf
  refine wa_calli (rest := []) (wr_S hC (kX7_isSetting l G h1) (va_cwS 2 hC.1.2.2.2.2 gX7_set_X7_isSetting rfl rfl rfl (by decide +kernel) ⟨Nat.le_of_ble_eq_true rfl, Nat.le_of_ble_eq_true rfl⟩) rfl rfl (Nat.le_of_ble_eq_true rfl) dX7_set_2) ?_
  refine wa_if_ne hC 11 dX7_set_5 (by decide) (fun c2 => ?_) (fun c2 => ?_)
  · have hf := ite_f hf c2
    refine wa_aload_n hC dX7_set_11 rfl 0 rfl ?_
    obtain ⟨M3, h3, hf⟩ := bd hf
    refine wa_callv (rest := []) (wr_V hC (kX7_records l G h3) (cwV 0 hC.1.2.2.2.2 gX7_set_X7_records rfl rfl rfl (by decide +kernel) ⟨Nat.le_of_ble_eq_true rfl, Nat.le_of_ble_eq_true rfl⟩) (show kd 96 = 7 from rfl) (by decide) (ce7 (show kd 96 = 7 from rfl)) rfl rfl rfl rfl (Nat.le_of_ble_eq_true rfl) dX7_set_12) ?_
    refine wa_aload_n hC dX7_set_15 rfl 0 rfl ?_
    refine rg7_0 hC fiX7_set_7 mbX7_set_7 dX7_set_16 ?_
    refine wa_iload_n hC dX7_set_19 rfl 1 rfl ?_
    obtain ⟨k4, h4, hf⟩ := bd hf
    obtain ⟨hv4, rfl⟩ := ix_some h4
    refine wa_iald hC (show kd 97 = 20 from rfl) hv4 dX7_set_20 ?_
    refine wa_istore_n (lv' := [(3, .int _), (0, .ref _), (1, .int _), (2, .int _)]) hC dX7_set_21 rfl (by decide) rfl ?_
    refine wa_aload_n hC dX7_set_22 rfl 1 rfl ?_
    refine rg7_0 hC fiX7_set_7 mbX7_set_7 dX7_set_23 ?_
    refine wa_iload_n hC dX7_set_26 rfl 2 rfl ?_
    refine wa_iload_n hC dX7_set_27 rfl 3 rfl ?_
    obtain ⟨k5, h5, hf⟩ := bd hf
    obtain ⟨hv5, rfl⟩ := ix_some h5
    refine wa_iast hC (show kd 97 = 20 from rfl) hv5 rfl dX7_set_28 ?_
    refine wa_iload_n hC dX7_set_29 rfl 0 rfl ?_
    exact wa_iret hC hlk hr (congrArg Prod.fst (so_inj hf)) (congrArg Prod.snd (so_inj hf)) dX7_set_30
  · have hf := ite_t hf c2
    refine wa_ldc hC mbX7_set_55 dX7_set_8 ?_
    exact wa_iret hC hlk hr (congrArg Prod.fst (so_inj hf)) (congrArg Prod.snd (so_inj hf)) dX7_set_10
abbrev rmX7_isTaken : Room := { frames := 1, cells := 0, slots := 0, locals := 23 }
theorem fiX7_isTaken_7 : ∀ w ∈ u_ws RX7 TX7 21, w ∈ wsX7_isTaken := by decide +kernel
theorem mbX7_isTaken_7 : Cond.fieldLink RX7 7 "BaroRunsModel" "d" "[I" ∈ wsX7_isTaken := by decide +kernel
set_option maxHeartbeats 4000000 in
set_option maxRecDepth 100000 in
theorem kX7_isTaken (l : Launch) (G : wG) {x1 : Int32} {x2 : Int32} {M0 : wM} {b : Bool} (hf : fX7_isTaken x1 x2 M0 = some b) : mI l yX7_isTaken wsX7_isTaken rmX7_isTaken G [.ref (ga G (96)), .int (x1), .int (x2)] M0 (b2 b) M0 := by
  refine mI.of (cc := cX7_isTaken) (nL := 5) (ret := (some .boolean)) (own := RX7) (lv := [(0, .ref (ga G (96))), (1, .int (x1)), (2, .int (x2))]) (plainFor_of_name (by decide +kernel)) rfl rfl (Nat.le_of_ble_eq_true rfl) rfl ?_
  intro p e s m args below meth c hC hr hlk
  have hB5 : ∀ (bk5 : Int32 → Int32 → Option Bool) (hbk5 : (∀ (x3 : Int32) (x4 : Int32), bk5 x3 x4 = some b → wAt p l e rmX7_isTaken s m args below meth c (qI below args s G (b2 b) M0) 5 G M0 5 [(0, .ref (ga G (96))), (1, .int (x1)), (2, .int (x2)), (3, .int (x3)), (4, .int (x4))] [])) (x3 : Int32) (x4 : Int32), fX7_isTaken_B5 x1 x2 M0 bk5 x3 x4 = some b → wAt p l e rmX7_isTaken s m args below meth c (qI below args s G (b2 b) M0) 5 G M0 5 [(0, .ref (ga G (96))), (1, .int (x1)), (2, .int (x2)), (3, .int (x3)), (4, .int (x4))] [] := by
    intro bk5 hbk5 x3 x4 hf
    unfold fX7_isTaken_B5 at hf
    refine wa_iload hC dX7_isTaken_5 4 rfl ?_
    refine wa_aload_n hC dX7_isTaken_7 rfl 0 rfl ?_
    refine rg7_0 hC fiX7_isTaken_7 mbX7_isTaken_7 dX7_isTaken_8 ?_
    refine wa_iconst (v := 3) hC dX7_isTaken_11 (by decide) ?_
    refine wa_iload_n hC dX7_isTaken_12 rfl 1 rfl ?_
    refine wa_iadd hC dX7_isTaken_13 ?_
    obtain ⟨k1, h1, hf⟩ := bd hf
    obtain ⟨hv1, rfl⟩ := ix_some h1
    refine wa_iald hC (show kd 97 = 20 from rfl) hv1 dX7_isTaken_14 ?_
    refine wa_icmp_ge hC 46 dX7_isTaken_15 (by decide) (fun c2 => ?_) (fun c2 => ?_)
    · have hf := ite_t hf c2
      refine wa_iload_n hC dX7_isTaken_46 rfl 3 rfl ?_
      exact wa_zret hC hlk hr (bz_some hf) rfl dX7_isTaken_47
    · have hf := ite_f hf c2
      refine wa_iload_n hC dX7_isTaken_18 rfl 3 rfl ?_
      refine wa_if_ne hC 34 dX7_isTaken_19 (by decide) (fun c4 => ?_) (fun c4 => ?_)
      · have hf := ite_f hf c4
        refine wa_iconst (v := 1) hC dX7_isTaken_34 (by decide) ?_
        refine wa_goto hC 39 dX7_isTaken_35 (by decide) ?_
        refine wa_istore_n (lv' := [(3, .int _), (0, .ref _), (1, .int _), (2, .int _), (4, .int _)]) hC dX7_isTaken_39 rfl (by decide) rfl ?_
        refine wa_iinc (v := _ + 1) (lv' := [(4, .int _), (3, .int _), (0, .ref _), (1, .int _), (2, .int _)]) hC dX7_isTaken_40 (t := 4) rfl rfl (by decide) rfl ?_
        refine wa_goto hC 5 dX7_isTaken_43 (by decide) ?_
        exact wa_sub [2, 3, 4, 1, 0] rfl (hbk5 _ _ hf)
      · have hf := ite_t hf c4
        refine wa_aload_n hC dX7_isTaken_22 rfl 0 rfl ?_
        refine wa_iload_n hC dX7_isTaken_23 rfl 1 rfl ?_
        refine wa_iconst (v := 0) hC dX7_isTaken_24 (by decide) ?_
        refine wa_iload hC dX7_isTaken_25 4 rfl ?_
        obtain ⟨v5, h5, hf⟩ := bd hf
        refine wa_calli (rest := []) (wr_V hC (kX7_of l G h5) (cwV 3 hC.1.2.2.2.2 gX7_isTaken_X7_of rfl rfl rfl (by decide +kernel) ⟨Nat.le_of_ble_eq_true rfl, Nat.le_of_ble_eq_true rfl⟩) (show kd 96 = 7 from rfl) (by decide) (ce7 (show kd 96 = 7 from rfl)) rfl rfl rfl rfl (Nat.le_of_ble_eq_true rfl) dX7_isTaken_27) ?_
        refine wa_iload_n hC dX7_isTaken_30 rfl 2 rfl ?_
        refine wa_icmp_ne hC 38 dX7_isTaken_31 (by decide) (fun c6 => ?_) (fun c6 => ?_)
        · have hf := ite_f hf c6
          refine wa_iconst (v := 0) hC dX7_isTaken_38 (by decide) ?_
          refine wa_istore_n (lv' := [(3, .int _), (0, .ref _), (1, .int _), (2, .int _), (4, .int _)]) hC dX7_isTaken_39 rfl (by decide) rfl ?_
          refine wa_iinc (v := _ + 1) (lv' := [(4, .int _), (3, .int _), (0, .ref _), (1, .int _), (2, .int _)]) hC dX7_isTaken_40 (t := 4) rfl rfl (by decide) rfl ?_
          refine wa_goto hC 5 dX7_isTaken_43 (by decide) ?_
          exact wa_sub [2, 3, 4, 1, 0] rfl (hbk5 _ _ hf)
        · have hf := ite_t hf c6
          refine wa_iconst (v := 1) hC dX7_isTaken_34 (by decide) ?_
          refine wa_goto hC 39 dX7_isTaken_35 (by decide) ?_
          refine wa_istore_n (lv' := [(3, .int _), (0, .ref _), (1, .int _), (2, .int _), (4, .int _)]) hC dX7_isTaken_39 rfl (by decide) rfl ?_
          refine wa_iinc (v := _ + 1) (lv' := [(4, .int _), (3, .int _), (0, .ref _), (1, .int _), (2, .int _)]) hC dX7_isTaken_40 (t := 4) rfl rfl (by decide) rfl ?_
          refine wa_goto hC 5 dX7_isTaken_43 (by decide) ?_
          exact wa_sub [2, 3, 4, 1, 0] rfl (hbk5 _ _ hf)
  have hL5 : ∀ (n : Nat) (x3 : Int32) (x4 : Int32), fX7_isTaken_L5 x1 x2 M0  n x3 x4 = some b → wAt p l e rmX7_isTaken s m args below meth c (qI below args s G (b2 b) M0) 5 G M0 5 [(0, .ref (ga G (96))), (1, .int (x1)), (2, .int (x2)), (3, .int (x3)), (4, .int (x4))] [] := by
    intro  n
    induction n with
    | zero =>
      intro x3 x4 hf
      exact absurd hf (by simp [fX7_isTaken_L5])
    | succ n ih =>
      intro x3 x4 hf
      exact hB5  (fX7_isTaken_L5 x1 x2 M0  n) ih x3 x4 hf
  unfold fX7_isTaken at hf
  refine wa_iconst (v := 0) hC dX7_isTaken_0 (by decide) ?_
  refine wa_istore_n (lv' := [(3, .int _), (0, .ref _), (1, .int _), (2, .int _)]) hC dX7_isTaken_1 rfl (by decide) rfl ?_
  refine wa_iconst (v := 0) hC dX7_isTaken_2 (by decide) ?_
  refine wa_istore (lv' := [(4, .int _), (3, .int _), (0, .ref _), (1, .int _), (2, .int _)]) hC dX7_isTaken_3 (by decide) rfl ?_
  exact wa_sub [2, 3, 4, 1, 0] rfl (hL5 FU _ _ hf)
abbrev rmX7_isFull : Room := { frames := 0, cells := 0, slots := 0, locals := 0 }
theorem fiX7_isFull_7 : ∀ w ∈ u_ws RX7 TX7 21, w ∈ wsX7_isFull := by decide +kernel
theorem mbX7_isFull_7 : Cond.fieldLink RX7 7 "BaroRunsModel" "d" "[I" ∈ wsX7_isFull := by decide +kernel
set_option maxHeartbeats 4000000 in
set_option maxRecDepth 100000 in
theorem kX7_isFull (l : Launch) (G : wG) {x1 : Int32} {M0 : wM} {b : Bool} (hf : fX7_isFull x1 M0 = some b) : mI l yX7_isFull wsX7_isFull rmX7_isFull G [.ref (ga G (96)), .int (x1)] M0 (b2 b) M0 := by
  refine mI.of (cc := cX7_isFull) (nL := 2) (ret := (some .boolean)) (own := RX7) (lv := [(0, .ref (ga G (96))), (1, .int (x1))]) (plainFor_of_name (by decide +kernel)) rfl rfl (Nat.le_of_ble_eq_true rfl) rfl ?_
  intro p e s m args below meth c hC hr hlk
  have hJ19 : ∀ (s0 : Int32) (s1 : Int32), fX7_isFull_J19 x1 M0  s0 s1 = some b → wAt p l e rmX7_isFull s m args below meth c (qI below args s G (b2 b) M0) 2 G M0 19 [] [.int (s1), .int (s0)] := by
    intro  s0 s1 hf
    unfold fX7_isFull_J19 at hf
    refine wa_icmp_ne hC 26 dX7_isFull_19 (by decide) (fun c1 => ?_) (fun c1 => ?_)
    · have hf := ite_f hf c1
      refine wa_iconst (v := 0) hC dX7_isFull_26 (by decide) ?_
      exact wa_zret hC hlk hr (congrArg b2 (so_inj hf)) rfl dX7_isFull_27
    · have hf := ite_t hf c1
      refine wa_iconst (v := 1) hC dX7_isFull_22 (by decide) ?_
      refine wa_goto hC 27 dX7_isFull_23 (by decide) ?_
      exact wa_zret hC hlk hr (congrArg b2 (so_inj hf)) rfl dX7_isFull_27
  unfold fX7_isFull at hf
  refine wa_aload_n hC dX7_isFull_0 rfl 0 rfl ?_
  refine rg7_0 hC fiX7_isFull_7 mbX7_isFull_7 dX7_isFull_1 ?_
  refine wa_iconst (v := 3) hC dX7_isFull_4 (by decide) ?_
  refine wa_iload_n hC dX7_isFull_5 rfl 1 rfl ?_
  refine wa_iadd hC dX7_isFull_6 ?_
  obtain ⟨k2, h2, hf⟩ := bd hf
  obtain ⟨hv2, rfl⟩ := ix_some h2
  refine wa_iald hC (show kd 97 = 20 from rfl) hv2 dX7_isFull_7 ?_
  refine wa_iload_n hC dX7_isFull_8 rfl 1 rfl ?_
  refine wa_if_ne hC 17 dX7_isFull_9 (by decide) (fun c3 => ?_) (fun c3 => ?_)
  · have hf := ite_f hf c3
    refine wa_bipush (v := 20) hC dX7_isFull_17 (by decide) ?_
    exact wa_sub [] rfl (hJ19  _ _ hf)
  · have hf := ite_t hf c3
    refine wa_bipush (v := 12) hC dX7_isFull_12 (by decide) ?_
    refine wa_goto hC 19 dX7_isFull_14 (by decide) ?_
    exact wa_sub [] rfl (hJ19  _ _ hf)
abbrev rmX7_moves : Room := { frames := 1, cells := 0, slots := 0, locals := 23 }
theorem fiX7_moves_7 : ∀ w ∈ u_ws RX7 TX7 21, w ∈ wsX7_moves := by decide +kernel
theorem mbX7_moves_7 : Cond.fieldLink RX7 7 "BaroRunsModel" "d" "[I" ∈ wsX7_moves := by decide +kernel
set_option maxHeartbeats 4000000 in
set_option maxRecDepth 100000 in
theorem kX7_moves (l : Launch) (G : wG) {x1 : Int32} {x2 : Int32} {x3 : Int32} {M0 M1 : wM} (hf : fX7_moves x1 x2 x3 M0 = some M1) : mV l yX7_moves wsX7_moves rmX7_moves G [.ref (ga G (96)), .int (x1), .int (x2), .int (x3)] M0 M1 := by
  refine mV.of (cc := cX7_moves) (nL := 5) (ret := none) (own := RX7) (lv := [(0, .ref (ga G (96))), (1, .int (x1)), (2, .int (x2)), (3, .int (x3))]) (plainFor_of_name (by decide +kernel)) rfl rfl (Nat.le_of_ble_eq_true rfl) rfl ?_
  intro p e s m args below meth c hC hr hlk
  have hB3 : ∀ (bk3 : Int32 → wM → Option wM) (hbk3 : (∀ (x4 : Int32) (M0 : wM), bk3 x4 M0 = some M1 → wAt p l e rmX7_moves s m args below meth c (qV below args s G M1) 5 G M0 3 [(0, .ref (ga G (96))), (1, .int (x1)), (2, .int (x2)), (3, .int (x3)), (4, .int (x4))] [])) (x4 : Int32) (M0 : wM), fX7_moves_B3 x1 x2 x3 bk3 x4 M0 = some M1 → wAt p l e rmX7_moves s m args below meth c (qV below args s G M1) 5 G M0 3 [(0, .ref (ga G (96))), (1, .int (x1)), (2, .int (x2)), (3, .int (x3)), (4, .int (x4))] [] := by
    intro bk3 hbk3 x4 M0 hf
    unfold fX7_moves_B3 at hf
    refine wa_iload hC dX7_moves_3 4 rfl ?_
    refine wa_bipush (v := 80) hC dX7_moves_5 (by decide) ?_
    refine wa_icmp_ge hC 41 dX7_moves_7 (by decide) (fun c1 => ?_) (fun c1 => ?_)
    · have hf := ite_t hf c1
      exact wa_vret hC hlk hr (so_inj hf) dX7_moves_41
    · have hf := ite_f hf c1
      refine wa_aload_n hC dX7_moves_10 rfl 0 rfl ?_
      refine rg7_0 hC fiX7_moves_7 mbX7_moves_7 dX7_moves_11 ?_
      refine wa_bipush (v := 7) hC dX7_moves_14 (by decide) ?_
      refine wa_bipush (v := 80) hC dX7_moves_16 (by decide) ?_
      refine wa_iload_n hC dX7_moves_18 rfl 1 rfl ?_
      refine wa_imul hC dX7_moves_19 ?_
      refine wa_iadd hC dX7_moves_20 ?_
      refine wa_iload hC dX7_moves_21 4 rfl ?_
      refine wa_iadd hC dX7_moves_23 ?_
      refine wa_iload_n hC dX7_moves_24 rfl 3 rfl ?_
      refine wa_iadd hC dX7_moves_25 ?_
      refine wa_aload_n hC dX7_moves_26 rfl 0 rfl ?_
      refine wa_iload_n hC dX7_moves_27 rfl 1 rfl ?_
      refine wa_iload hC dX7_moves_28 4 rfl ?_
      refine wa_iload_n hC dX7_moves_30 rfl 2 rfl ?_
      obtain ⟨v2, h2, hf⟩ := bd hf
      refine wa_calli (rest := [_, _]) (wr_V hC (kX7_of l G h2) (cwV 3 hC.1.2.2.2.2 gX7_moves_X7_of rfl rfl rfl (by decide +kernel) ⟨Nat.le_of_ble_eq_true rfl, Nat.le_of_ble_eq_true rfl⟩) (show kd 96 = 7 from rfl) (by decide) (ce7 (show kd 96 = 7 from rfl)) rfl rfl rfl rfl (Nat.le_of_ble_eq_true rfl) dX7_moves_31) ?_
      obtain ⟨k3, h3, hf⟩ := bd hf
      obtain ⟨hv3, rfl⟩ := ix_some h3
      refine wa_iast hC (show kd 97 = 20 from rfl) hv3 rfl dX7_moves_34 ?_
      refine wa_iinc (v := _ + 20) (lv' := [(4, .int _), (0, .ref _), (1, .int _), (2, .int _), (3, .int _)]) hC dX7_moves_35 (t := 4) rfl rfl (by decide) rfl ?_
      refine wa_goto hC 3 dX7_moves_38 (by decide) ?_
      exact wa_sub [1, 2, 3, 4, 0] rfl (hbk3 _ _ hf)
  have hL3 : ∀ (n : Nat) (x4 : Int32) (M0 : wM), fX7_moves_L3 x1 x2 x3  n x4 M0 = some M1 → wAt p l e rmX7_moves s m args below meth c (qV below args s G M1) 5 G M0 3 [(0, .ref (ga G (96))), (1, .int (x1)), (2, .int (x2)), (3, .int (x3)), (4, .int (x4))] [] := by
    intro  n
    induction n with
    | zero =>
      intro x4 M0 hf
      exact absurd hf (by simp [fX7_moves_L3])
    | succ n ih =>
      intro x4 M0 hf
      exact hB3  (fX7_moves_L3 x1 x2 x3  n) ih x4 M0 hf
  unfold fX7_moves at hf
  refine wa_iconst (v := 0) hC dX7_moves_0 (by decide) ?_
  refine wa_istore (lv' := [(4, .int _), (0, .ref _), (1, .int _), (2, .int _), (3, .int _)]) hC dX7_moves_1 (by decide) rfl ?_
  exact wa_sub [1, 2, 3, 4, 0] rfl (hL3 FU _ _ hf)
abbrev rmX7_puts : Room := { frames := 2, cells := 0, slots := 0, locals := 47 }
theorem fiX7_puts_7 : ∀ w ∈ u_ws RX7 TX7 21, w ∈ wsX7_puts := by decide +kernel
theorem mbX7_puts_7 : Cond.fieldLink RX7 7 "BaroRunsModel" "d" "[I" ∈ wsX7_puts := by decide +kernel
set_option maxHeartbeats 4000000 in
set_option maxRecDepth 100000 in
theorem kX7_puts (l : Launch) (G : wG) {x1 : Int32} {x2 : Int32} {x3 : Int32} {x4 : Int32} {x5 : Int32} {M0 M1 : wM} {r : Int32} (hf : fX7_puts x1 x2 x3 x4 x5 M0 = some (r, M1)) : mI l yX7_puts wsX7_puts rmX7_puts G [.ref (ga G (96)), .int (x1), .int (x2), .int (x3), .int (x4), .int (x5)] M0 r M1 := by
  refine mI.of (cc := cX7_puts) (nL := 8) (ret := (some .int)) (own := RX7) (lv := [(0, .ref (ga G (96))), (1, .int (x1)), (2, .int (x2)), (3, .int (x3)), (4, .int (x4)), (5, .int (x5))]) (plainFor_of_name (by decide +kernel)) rfl rfl (Nat.le_of_ble_eq_true rfl) rfl ?_
  intro p e s m args below meth c hC hr hlk
  have hJ46 : ∀ (x6 : Int32) (M0 : wM), fX7_puts_J46 x1 x2 x3 x4 x5  x6 M0 = some (r, M1) → wAt p l e rmX7_puts s m args below meth c (qI below args s G r M1) 8 G M0 46 [(0, .ref (ga G (96))), (1, .int (x1)), (2, .int (x2)), (3, .int (x3)), (4, .int (x4)), (5, .int (x5)), (6, .int (x6))] [] := by
    intro  x6 M0 hf
    unfold fX7_puts_J46 at hf
    refine wa_bipush (v := 7) hC dX7_puts_46 (by decide) ?_
    refine wa_bipush (v := 80) hC dX7_puts_48 (by decide) ?_
    refine wa_iload_n hC dX7_puts_50 rfl 1 rfl ?_
    refine wa_imul hC dX7_puts_51 ?_
    refine wa_iadd hC dX7_puts_52 ?_
    refine wa_iload hC dX7_puts_53 6 rfl ?_
    refine wa_iadd hC dX7_puts_55 ?_
    refine wa_istore (lv' := [(7, .int _), (0, .ref _), (1, .int _), (2, .int _), (3, .int _), (4, .int _), (5, .int _), (6, .int _)]) hC dX7_puts_56 (by decide) rfl ?_
    refine wa_aload_n hC dX7_puts_58 rfl 1 rfl ?_
    refine rg7_0 hC fiX7_puts_7 mbX7_puts_7 dX7_puts_59 ?_
    refine wa_iload hC dX7_puts_62 0 rfl ?_
    refine wa_iconst (v := 0) hC dX7_puts_64 (by decide) ?_
    refine wa_iadd hC dX7_puts_65 ?_
    refine wa_iload_n hC dX7_puts_66 rfl 3 rfl ?_
    obtain ⟨k1, h1, hf⟩ := bd hf
    obtain ⟨hv1, rfl⟩ := ix_some h1
    refine wa_iast hC (show kd 97 = 20 from rfl) hv1 rfl dX7_puts_67 ?_
    refine wa_aload_n hC dX7_puts_68 rfl 1 rfl ?_
    refine rg7_0 hC fiX7_puts_7 mbX7_puts_7 dX7_puts_69 ?_
    refine wa_iload hC dX7_puts_72 0 rfl ?_
    refine wa_bipush (v := 20) hC dX7_puts_74 (by decide) ?_
    refine wa_iadd hC dX7_puts_76 ?_
    refine wa_iload_n hC dX7_puts_77 rfl 4 rfl ?_
    obtain ⟨k2, h2, hf⟩ := bd hf
    obtain ⟨hv2, rfl⟩ := ix_some h2
    refine wa_iast hC (show kd 97 = 20 from rfl) hv2 rfl dX7_puts_78 ?_
    refine wa_aload_n hC dX7_puts_79 rfl 1 rfl ?_
    refine rg7_0 hC fiX7_puts_7 mbX7_puts_7 dX7_puts_80 ?_
    refine wa_iload hC dX7_puts_83 0 rfl ?_
    refine wa_bipush (v := 40) hC dX7_puts_85 (by decide) ?_
    refine wa_iadd hC dX7_puts_87 ?_
    refine wa_iload hC dX7_puts_88 5 rfl ?_
    obtain ⟨k3, h3, hf⟩ := bd hf
    obtain ⟨hv3, rfl⟩ := ix_some h3
    refine wa_iast hC (show kd 97 = 20 from rfl) hv3 rfl dX7_puts_90 ?_
    refine wa_aload_n hC dX7_puts_91 rfl 1 rfl ?_
    refine rg7_0 hC fiX7_puts_7 mbX7_puts_7 dX7_puts_92 ?_
    refine wa_iload hC dX7_puts_95 0 rfl ?_
    refine wa_bipush (v := 60) hC dX7_puts_97 (by decide) ?_
    refine wa_iadd hC dX7_puts_99 ?_
    refine wa_iload hC dX7_puts_100 6 rfl ?_
    obtain ⟨k4, h4, hf⟩ := bd hf
    obtain ⟨hv4, rfl⟩ := ix_some h4
    refine wa_iast hC (show kd 97 = 20 from rfl) hv4 rfl dX7_puts_102 ?_
    refine wa_aload_n hC dX7_puts_103 rfl 1 rfl ?_
    refine rg7_0 hC fiX7_puts_7 mbX7_puts_7 dX7_puts_104 ?_
    refine wa_iconst (v := 3) hC dX7_puts_107 (by decide) ?_
    refine wa_iload_n hC dX7_puts_108 rfl 2 rfl ?_
    refine wa_iadd hC dX7_puts_109 ?_
    refine wa_dup2_11 hC dX7_puts_110 rfl rfl ?_
    obtain ⟨k5, h5, hf⟩ := bd hf
    obtain ⟨hv5, rfl⟩ := ix_some h5
    refine wa_iald hC (show kd 97 = 20 from rfl) hv5 dX7_puts_111 ?_
    refine wa_iconst (v := 1) hC dX7_puts_112 (by decide) ?_
    refine wa_iadd hC dX7_puts_113 ?_
    obtain ⟨k6, h6, hf⟩ := bd hf
    obtain ⟨hv6, rfl⟩ := ix_some h6
    refine wa_iast hC (show kd 97 = 20 from rfl) hv6 rfl dX7_puts_114 ?_
    refine wa_iload hC dX7_puts_115 7 rfl ?_
    exact wa_iret hC hlk hr (congrArg Prod.fst (so_inj hf)) (congrArg Prod.snd (so_inj hf)) dX7_puts_117
  have hB10 : ∀ (bk10 : Int32 → wM → Option (Int32 × wM)) (hbk10 : (∀ (x6 : Int32) (M0 : wM), bk10 x6 M0 = some (r, M1) → wAt p l e rmX7_puts s m args below meth c (qI below args s G r M1) 8 G M0 10 [(0, .ref (ga G (96))), (1, .int (x1)), (2, .int (x2)), (3, .int (x3)), (4, .int (x4)), (5, .int (x5)), (6, .int (x6))] [])) (x6 : Int32) (M0 : wM), fX7_puts_B10 x1 x2 x3 x4 x5 bk10 x6 M0 = some (r, M1) → wAt p l e rmX7_puts s m args below meth c (qI below args s G r M1) 8 G M0 10 [(0, .ref (ga G (96))), (1, .int (x1)), (2, .int (x2)), (3, .int (x3)), (4, .int (x4)), (5, .int (x5)), (6, .int (x6))] [] := by
    intro bk10 hbk10 x6 M0 hf
    unfold fX7_puts_B10 at hf
    refine wa_iload hC dX7_puts_10 6 rfl ?_
    refine wa_if_le hC 46 dX7_puts_12 (by decide) (fun c7 => ?_) (fun c7 => ?_)
    · have hf := ite_t hf c7
      exact wa_sub [0, 1, 2, 3, 4, 5, 6] rfl (hJ46  _ _ hf)
    · have hf := ite_f hf c7
      refine wa_aload_n hC dX7_puts_15 rfl 0 rfl ?_
      refine wa_iload_n hC dX7_puts_16 rfl 1 rfl ?_
      refine wa_iconst (v := 0) hC dX7_puts_17 (by decide) ?_
      refine wa_iload hC dX7_puts_18 6 rfl ?_
      refine wa_iconst (v := 1) hC dX7_puts_20 (by decide) ?_
      refine wa_isub hC dX7_puts_21 ?_
      obtain ⟨v8, h8, hf⟩ := bd hf
      refine wa_calli (rest := []) (wr_V hC (kX7_of l G h8) (cwV 3 hC.1.2.2.2.2 gX7_puts_X7_of rfl rfl rfl (by decide +kernel) ⟨Nat.le_of_ble_eq_true rfl, Nat.le_of_ble_eq_true rfl⟩) (show kd 96 = 7 from rfl) (by decide) (ce7 (show kd 96 = 7 from rfl)) rfl rfl rfl rfl (Nat.le_of_ble_eq_true rfl) dX7_puts_22) ?_
      refine wa_iload_n hC dX7_puts_25 rfl 2 rfl ?_
      refine wa_icmp_le hC 46 dX7_puts_26 (by decide) (fun c9 => ?_) (fun c9 => ?_)
      · have hf := ite_t hf c9
        exact wa_sub [0, 1, 2, 3, 4, 5, 6] rfl (hJ46  _ _ hf)
      · have hf := ite_f hf c9
        refine wa_aload_n hC dX7_puts_29 rfl 0 rfl ?_
        refine wa_iload_n hC dX7_puts_30 rfl 1 rfl ?_
        refine wa_iload hC dX7_puts_31 6 rfl ?_
        refine wa_iconst (v := 1) hC dX7_puts_33 (by decide) ?_
        refine wa_isub hC dX7_puts_34 ?_
        refine wa_iload hC dX7_puts_35 6 rfl ?_
        obtain ⟨M10, h10, hf⟩ := bd hf
        refine wa_callv (rest := []) (wr_V hC (kX7_moves l G h10) (cwV 3 hC.1.2.2.2.2 gX7_puts_X7_moves rfl rfl rfl (by decide +kernel) ⟨Nat.le_of_ble_eq_true rfl, Nat.le_of_ble_eq_true rfl⟩) (show kd 96 = 7 from rfl) (by decide) (ce7 (show kd 96 = 7 from rfl)) rfl rfl rfl rfl (Nat.le_of_ble_eq_true rfl) dX7_puts_37) ?_
        refine wa_iinc (v := _ + -1) (lv' := [(6, .int _), (0, .ref _), (1, .int _), (2, .int _), (3, .int _), (4, .int _), (5, .int _)]) hC dX7_puts_40 (t := 6) rfl rfl (by decide) rfl ?_
        refine wa_goto hC 10 dX7_puts_43 (by decide) ?_
        exact wa_sub [1, 2, 3, 4, 5, 6, 0] rfl (hbk10 _ _ hf)
  have hL10 : ∀ (n : Nat) (x6 : Int32) (M0 : wM), fX7_puts_L10 x1 x2 x3 x4 x5  n x6 M0 = some (r, M1) → wAt p l e rmX7_puts s m args below meth c (qI below args s G r M1) 8 G M0 10 [(0, .ref (ga G (96))), (1, .int (x1)), (2, .int (x2)), (3, .int (x3)), (4, .int (x4)), (5, .int (x5)), (6, .int (x6))] [] := by
    intro  n
    induction n with
    | zero =>
      intro x6 M0 hf
      exact absurd hf (by simp [fX7_puts_L10])
    | succ n ih =>
      intro x6 M0 hf
      exact hB10  (fX7_puts_L10 x1 x2 x3 x4 x5  n) ih x6 M0 hf
  unfold fX7_puts at hf
  refine wa_aload_n hC dX7_puts_0 rfl 0 rfl ?_
  refine rg7_0 hC fiX7_puts_7 mbX7_puts_7 dX7_puts_1 ?_
  refine wa_iconst (v := 3) hC dX7_puts_4 (by decide) ?_
  refine wa_iload_n hC dX7_puts_5 rfl 1 rfl ?_
  refine wa_iadd hC dX7_puts_6 ?_
  obtain ⟨k11, h11, hf⟩ := bd hf
  obtain ⟨hv11, rfl⟩ := ix_some h11
  refine wa_iald hC (show kd 97 = 20 from rfl) hv11 dX7_puts_7 ?_
  refine wa_istore (lv' := [(6, .int _), (0, .ref _), (1, .int _), (2, .int _), (3, .int _), (4, .int _), (5, .int _)]) hC dX7_puts_8 (by decide) rfl ?_
  exact wa_sub [1, 2, 3, 4, 5, 6, 0] rfl (hL10 FU _ _ hf)
abbrev rmX7_adds : Room := { frames := 3, cells := 0, slots := 0, locals := 74 }
theorem mbX7_adds_75 : Cond.constant RX7 75 (-2000000003) ∈ wsX7_adds := by decide +kernel
theorem mbX7_adds_70 : Cond.constant RX7 70 (-2000000002) ∈ wsX7_adds := by decide +kernel
set_option maxHeartbeats 4000000 in
set_option maxRecDepth 100000 in
theorem kX7_adds (l : Launch) (G : wG) {x1 : Int32} {x2 : Int32} {x3 : Int32} {x4 : Int32} {x5 : Int32} {M0 M1 : wM} {r : Int32} (hf : fX7_adds x1 x2 x3 x4 x5 M0 = some (r, M1)) : mI l yX7_adds wsX7_adds rmX7_adds G [.ref (ga G (96)), .int (x1), .int (x2), .int (x3), .int (x4), .int (x5)] M0 r M1 := by
  refine mI.of (cc := cX7_adds) (nL := 6) (ret := (some .int)) (own := RX7) (lv := [(0, .ref (ga G (96))), (1, .int (x1)), (2, .int (x2)), (3, .int (x3)), (4, .int (x4)), (5, .int (x5))]) (plainFor_of_name (by decide +kernel)) rfl rfl (Nat.le_of_ble_eq_true rfl) rfl ?_
  intro p e s m args below meth c hC hr hlk
  unfold fX7_adds at hf
  refine wa_aload_n hC dX7_adds_0 rfl 0 rfl ?_
  refine wa_iload_n hC dX7_adds_1 rfl 1 rfl ?_
  refine wa_iload_n hC dX7_adds_2 rfl 2 rfl ?_
  obtain ⟨v1, h1, hf⟩ := bd hf
  refine wa_calli (rest := []) (wr_V hC (kX7_isTaken l G h1) (cwV 2 hC.1.2.2.2.2 gX7_adds_X7_isTaken rfl rfl rfl (by decide +kernel) ⟨Nat.le_of_ble_eq_true rfl, Nat.le_of_ble_eq_true rfl⟩) (show kd 96 = 7 from rfl) (by decide) (ce7 (show kd 96 = 7 from rfl)) rfl rfl rfl rfl (Nat.le_of_ble_eq_true rfl) dX7_adds_3) ?_
  refine wa_if_eq hC 12 dX7_adds_6 (by decide) (fun c2 => ?_) (fun c2 => ?_)
  · have hf := ite_t hf c2
    refine wa_aload_n hC dX7_adds_12 rfl 0 rfl ?_
    refine wa_iload_n hC dX7_adds_13 rfl 1 rfl ?_
    obtain ⟨v3, h3, hf⟩ := bd hf
    refine wa_calli (rest := []) (wr_V hC (kX7_isFull l G h3) (cwV 1 hC.1.2.2.2.2 gX7_adds_X7_isFull rfl rfl rfl (by decide +kernel) ⟨Nat.le_of_ble_eq_true rfl, Nat.le_of_ble_eq_true rfl⟩) (show kd 96 = 7 from rfl) (by decide) (ce7 (show kd 96 = 7 from rfl)) rfl rfl rfl rfl (Nat.le_of_ble_eq_true rfl) dX7_adds_14) ?_
    refine wa_if_eq hC 23 dX7_adds_17 (by decide) (fun c4 => ?_) (fun c4 => ?_)
    · have hf := ite_t hf c4
      refine wa_aload_n hC dX7_adds_23 rfl 0 rfl ?_
      obtain ⟨M5, h5, hf⟩ := bd hf
      refine wa_callv (rest := []) (wr_V hC (kX7_records l G h5) (cwV 0 hC.1.2.2.2.2 gX7_adds_X7_records rfl rfl rfl (by decide +kernel) ⟨Nat.le_of_ble_eq_true rfl, Nat.le_of_ble_eq_true rfl⟩) (show kd 96 = 7 from rfl) (by decide) (ce7 (show kd 96 = 7 from rfl)) rfl rfl rfl rfl (Nat.le_of_ble_eq_true rfl) dX7_adds_24) ?_
      refine wa_aload_n hC dX7_adds_27 rfl 0 rfl ?_
      refine wa_iload_n hC dX7_adds_28 rfl 1 rfl ?_
      refine wa_iload_n hC dX7_adds_29 rfl 2 rfl ?_
      refine wa_iload_n hC dX7_adds_30 rfl 3 rfl ?_
      refine wa_iload hC dX7_adds_31 4 rfl ?_
      refine wa_iload hC dX7_adds_33 5 rfl ?_
      obtain ⟨⟨v6, M6⟩, h6, hf⟩ := bd hf
      dsimp only at hf
      refine wa_calli (rest := []) (wr_V hC (kX7_puts l G h6) (cwV 5 hC.1.2.2.2.2 gX7_adds_X7_puts rfl rfl rfl (by decide +kernel) ⟨Nat.le_of_ble_eq_true rfl, Nat.le_of_ble_eq_true rfl⟩) (show kd 96 = 7 from rfl) (by decide) (ce7 (show kd 96 = 7 from rfl)) rfl rfl rfl rfl (Nat.le_of_ble_eq_true rfl) dX7_adds_35) ?_
      exact wa_iret hC hlk hr (congrArg Prod.fst (so_inj hf)) (congrArg Prod.snd (so_inj hf)) dX7_adds_38
    · have hf := ite_f hf c4
      refine wa_ldc hC mbX7_adds_75 dX7_adds_20 ?_
      exact wa_iret hC hlk hr (congrArg Prod.fst (so_inj hf)) (congrArg Prod.snd (so_inj hf)) dX7_adds_22
  · have hf := ite_f hf c2
    refine wa_ldc hC mbX7_adds_70 dX7_adds_9 ?_
    exact wa_iret hC hlk hr (congrArg Prod.fst (so_inj hf)) (congrArg Prod.snd (so_inj hf)) dX7_adds_11
abbrev rmX7_base : Room := { frames := 4, cells := 0, slots := 0, locals := 99 }
theorem mbX7_base_55 : Cond.constant RX7 55 (-2000000001) ∈ wsX7_base := by decide +kernel
set_option maxHeartbeats 4000000 in
set_option maxRecDepth 100000 in
theorem kX7_base (l : Launch) (G : wG) {x1 : Int32} {x2 : Int32} {x3 : Int32} {M0 M1 : wM} {r : Int32} (hf : fX7_base x1 x2 x3 M0 = some (r, M1)) : mI l yX7_base wsX7_base rmX7_base G [.ref (ga G (96)), .int (x1), .int (x2), .int (x3)] M0 r M1 := by
  refine mI.of (cc := cX7_base) (nL := 4) (ret := (some .int)) (own := RX7) (lv := [(0, .ref (ga G (96))), (1, .int (x1)), (2, .int (x2)), (3, .int (x3))]) (plainFor_of_name (by decide +kernel)) rfl rfl (Nat.le_of_ble_eq_true rfl) rfl ?_
  intro p e s m args below meth c hC hr hlk
  unfold fX7_base at hf
  refine wa_iload_n hC dX7_base_0 rfl 1 rfl ?_
  refine wa_iload_n hC dX7_base_1 rfl 2 rfl ?_
  refine wa_iload_n hC dX7_base_2 rfl 3 rfl ?_
  obtain ⟨v1, h1, hf⟩ := bd hf
  refine wa_calli (rest := []) (wr_S hC (kX7_areValues l G h1) (va_cwS 3 hC.1.2.2.2.2 gX7_base_X7_areValues rfl rfl rfl (by decide +kernel) ⟨Nat.le_of_ble_eq_true rfl, Nat.le_of_ble_eq_true rfl⟩) rfl rfl (Nat.le_of_ble_eq_true rfl) dX7_base_3) ?_
  refine wa_if_eq hC 21 dX7_base_6 (by decide) (fun c2 => ?_) (fun c2 => ?_)
  · have hf := ite_t hf c2
    refine wa_ldc hC mbX7_base_55 dX7_base_21 ?_
    exact wa_iret hC hlk hr (congrArg Prod.fst (so_inj hf)) (congrArg Prod.snd (so_inj hf)) dX7_base_23
  · have hf := ite_f hf c2
    refine wa_aload_n hC dX7_base_9 rfl 0 rfl ?_
    refine wa_iconst (v := 0) hC dX7_base_10 (by decide) ?_
    refine wa_iload_n hC dX7_base_11 rfl 1 rfl ?_
    refine wa_iload_n hC dX7_base_12 rfl 2 rfl ?_
    refine wa_iload_n hC dX7_base_13 rfl 3 rfl ?_
    refine wa_iconst (v := 0) hC dX7_base_14 (by decide) ?_
    obtain ⟨⟨v3, M3⟩, h3, hf⟩ := bd hf
    dsimp only at hf
    refine wa_calli (rest := []) (wr_V hC (kX7_adds l G h3) (cwV 5 hC.1.2.2.2.2 gX7_base_X7_adds rfl rfl rfl (by decide +kernel) ⟨Nat.le_of_ble_eq_true rfl, Nat.le_of_ble_eq_true rfl⟩) (show kd 96 = 7 from rfl) (by decide) (ce7 (show kd 96 = 7 from rfl)) rfl rfl rfl rfl (Nat.le_of_ble_eq_true rfl) dX7_base_15) ?_
    refine wa_goto hC 23 dX7_base_18 (by decide) ?_
    exact wa_iret hC hlk hr (congrArg Prod.fst (so_inj hf)) (congrArg Prod.snd (so_inj hf)) dX7_base_23
abbrev rmX7_read : Room := { frames := 4, cells := 0, slots := 0, locals := 99 }
theorem mbX7_read_55 : Cond.constant RX7 55 (-2000000001) ∈ wsX7_read := by decide +kernel
set_option maxHeartbeats 4000000 in
set_option maxRecDepth 100000 in
theorem kX7_read (l : Launch) (G : wG) {x1 : Int32} {x2 : Int32} {x3 : Int32} {x4 : Int32} {x5 : Int32} {M0 M1 : wM} {r : Int32} (hf : fX7_read x1 x2 x3 x4 x5 M0 = some (r, M1)) : mI l yX7_read wsX7_read rmX7_read G [.ref (ga G (96)), .int (x1), .int (x2), .int (x3), .int (x4), .int (x5)] M0 r M1 := by
  refine mI.of (cc := cX7_read) (nL := 6) (ret := (some .int)) (own := RX7) (lv := [(0, .ref (ga G (96))), (1, .int (x1)), (2, .int (x2)), (3, .int (x3)), (4, .int (x4)), (5, .int (x5))]) (plainFor_of_name (by decide +kernel)) rfl rfl (Nat.le_of_ble_eq_true rfl) rfl ?_
  intro p e s m args below meth c hC hr hlk
  unfold fX7_read at hf
  refine wa_iload_n hC dX7_read_0 rfl 1 rfl ?_
  obtain ⟨v1, h1, hf⟩ := bd hf
  refine wa_calli (rest := []) (wr_S hC (kX7_isCell l G h1) (va_cwS 1 hC.1.2.2.2.2 gX7_read_X7_isCell rfl rfl rfl (by decide +kernel) ⟨Nat.le_of_ble_eq_true rfl, Nat.le_of_ble_eq_true rfl⟩) rfl rfl (Nat.le_of_ble_eq_true rfl) dX7_read_1) ?_
  refine wa_if_eq hC 28 dX7_read_4 (by decide) (fun c2 => ?_) (fun c2 => ?_)
  · have hf := ite_t hf c2
    refine wa_ldc hC mbX7_read_55 dX7_read_28 ?_
    exact wa_iret hC hlk hr (congrArg Prod.fst (so_inj hf)) (congrArg Prod.snd (so_inj hf)) dX7_read_30
  · have hf := ite_f hf c2
    refine wa_iload_n hC dX7_read_7 rfl 2 rfl ?_
    refine wa_iconst (v := 0) hC dX7_read_8 (by decide) ?_
    refine wa_bipush (v := 9) hC dX7_read_9 (by decide) ?_
    obtain ⟨v3, h3, hf⟩ := bd hf
    refine wa_calli (rest := []) (wr_S hC (kX7_in l G h3) (va_cwS 3 hC.1.2.2.2.2 gX7_read_X7_in rfl rfl rfl (by decide +kernel) ⟨Nat.le_of_ble_eq_true rfl, Nat.le_of_ble_eq_true rfl⟩) rfl rfl (Nat.le_of_ble_eq_true rfl) dX7_read_11) ?_
    refine wa_if_eq hC 28 dX7_read_14 (by decide) (fun c4 => ?_) (fun c4 => ?_)
    · have hf := ite_t hf c4
      refine wa_ldc hC mbX7_read_55 dX7_read_28 ?_
      exact wa_iret hC hlk hr (congrArg Prod.fst (so_inj hf)) (congrArg Prod.snd (so_inj hf)) dX7_read_30
    · have hf := ite_f hf c4
      refine wa_iload_n hC dX7_read_17 rfl 3 rfl ?_
      refine wa_iload hC dX7_read_18 4 rfl ?_
      refine wa_iload hC dX7_read_20 5 rfl ?_
      obtain ⟨v5, h5, hf⟩ := bd hf
      refine wa_calli (rest := []) (wr_S hC (kX7_areValues l G h5) (va_cwS 3 hC.1.2.2.2.2 gX7_read_X7_areValues rfl rfl rfl (by decide +kernel) ⟨Nat.le_of_ble_eq_true rfl, Nat.le_of_ble_eq_true rfl⟩) rfl rfl (Nat.le_of_ble_eq_true rfl) dX7_read_22) ?_
      refine wa_if_ne hC 31 dX7_read_25 (by decide) (fun c6 => ?_) (fun c6 => ?_)
      · have hf := ite_f hf c6
        refine wa_aload_n hC dX7_read_31 rfl 0 rfl ?_
        refine wa_iload_n hC dX7_read_32 rfl 1 rfl ?_
        refine wa_iconst (v := 1) hC dX7_read_33 (by decide) ?_
        refine wa_iadd hC dX7_read_34 ?_
        refine wa_iload_n hC dX7_read_35 rfl 3 rfl ?_
        refine wa_iload hC dX7_read_36 4 rfl ?_
        refine wa_iload hC dX7_read_38 5 rfl ?_
        refine wa_iload_n hC dX7_read_40 rfl 2 rfl ?_
        obtain ⟨⟨v7, M7⟩, h7, hf⟩ := bd hf
        dsimp only at hf
        refine wa_calli (rest := []) (wr_V hC (kX7_adds l G h7) (cwV 5 hC.1.2.2.2.2 gX7_read_X7_adds rfl rfl rfl (by decide +kernel) ⟨Nat.le_of_ble_eq_true rfl, Nat.le_of_ble_eq_true rfl⟩) (show kd 96 = 7 from rfl) (by decide) (ce7 (show kd 96 = 7 from rfl)) rfl rfl rfl rfl (Nat.le_of_ble_eq_true rfl) dX7_read_41) ?_
        exact wa_iret hC hlk hr (congrArg Prod.fst (so_inj hf)) (congrArg Prod.snd (so_inj hf)) dX7_read_44
      · have hf := ite_t hf c6
        refine wa_ldc hC mbX7_read_55 dX7_read_28 ?_
        exact wa_iret hC hlk hr (congrArg Prod.fst (so_inj hf)) (congrArg Prod.snd (so_inj hf)) dX7_read_30
abbrev rmX7_drop : Room := { frames := 2, cells := 0, slots := 0, locals := 47 }
theorem fiX7_drop_7 : ∀ w ∈ u_ws RX7 TX7 21, w ∈ wsX7_drop := by decide +kernel
theorem mbX7_drop_7 : Cond.fieldLink RX7 7 "BaroRunsModel" "d" "[I" ∈ wsX7_drop := by decide +kernel
theorem mbX7_drop_55 : Cond.constant RX7 55 (-2000000001) ∈ wsX7_drop := by decide +kernel
set_option maxHeartbeats 4000000 in
set_option maxRecDepth 100000 in
theorem kX7_drop (l : Launch) (G : wG) {x1 : Int32} {x2 : Int32} {M0 M1 : wM} {r : Int32} (hf : fX7_drop x1 x2 M0 = some (r, M1)) : mI l yX7_drop wsX7_drop rmX7_drop G [.ref (ga G (96)), .int (x1), .int (x2)] M0 r M1 := by
  refine mI.of (cc := cX7_drop) (nL := 5) (ret := (some .int)) (own := RX7) (lv := [(0, .ref (ga G (96))), (1, .int (x1)), (2, .int (x2))]) (plainFor_of_name (by decide +kernel)) rfl rfl (Nat.le_of_ble_eq_true rfl) rfl ?_
  intro p e s m args below meth c hC hr hlk
  have hB35 : ∀ (bk35 : Int32 → Int32 → wM → Option (Int32 × wM)) (hbk35 : (∀ (x3 : Int32) (x4 : Int32) (M0 : wM), bk35 x3 x4 M0 = some (r, M1) → wAt p l e rmX7_drop s m args below meth c (qI below args s G r M1) 5 G M0 35 [(0, .ref (ga G (96))), (3, .int (x3)), (4, .int (x4))] [])) (x3 : Int32) (x4 : Int32) (M0 : wM), fX7_drop_B35 x1 x2 bk35 x3 x4 M0 = some (r, M1) → wAt p l e rmX7_drop s m args below meth c (qI below args s G r M1) 5 G M0 35 [(0, .ref (ga G (96))), (3, .int (x3)), (4, .int (x4))] [] := by
    intro bk35 hbk35 x3 x4 M0 hf
    unfold fX7_drop_B35 at hf
    refine wa_iload hC dX7_drop_35 2 rfl ?_
    refine wa_aload_n hC dX7_drop_37 rfl 0 rfl ?_
    refine rg7_0 hC fiX7_drop_7 mbX7_drop_7 dX7_drop_38 ?_
    refine wa_iconst (v := 3) hC dX7_drop_41 (by decide) ?_
    refine wa_iload_n hC dX7_drop_42 rfl 1 rfl ?_
    refine wa_iadd hC dX7_drop_43 ?_
    obtain ⟨k1, h1, hf⟩ := bd hf
    obtain ⟨hv1, rfl⟩ := ix_some h1
    refine wa_iald hC (show kd 97 = 20 from rfl) hv1 dX7_drop_44 ?_
    refine wa_icmp_ge hC 65 dX7_drop_45 (by decide) (fun c2 => ?_) (fun c2 => ?_)
    · have hf := ite_t hf c2
      refine wa_aload_n hC dX7_drop_65 rfl 0 rfl ?_
      refine rg7_0 hC fiX7_drop_7 mbX7_drop_7 dX7_drop_66 ?_
      refine wa_iconst (v := 3) hC dX7_drop_69 (by decide) ?_
      refine wa_iload_n hC dX7_drop_70 rfl 1 rfl ?_
      refine wa_iadd hC dX7_drop_71 ?_
      obtain ⟨k3, h3, hf⟩ := bd hf
      obtain ⟨hv3, rfl⟩ := ix_some h3
      refine wa_iald hC (show kd 97 = 20 from rfl) hv3 dX7_drop_72 ?_
      exact wa_iret hC hlk hr (congrArg Prod.fst (so_inj hf)) (congrArg Prod.snd (so_inj hf)) dX7_drop_73
    · have hf := ite_f hf c2
      refine wa_aload_n hC dX7_drop_48 rfl 0 rfl ?_
      refine wa_iload_n hC dX7_drop_49 rfl 1 rfl ?_
      refine wa_iload hC dX7_drop_50 2 rfl ?_
      refine wa_iconst (v := 1) hC dX7_drop_52 (by decide) ?_
      refine wa_iadd hC dX7_drop_53 ?_
      refine wa_iload hC dX7_drop_54 2 rfl ?_
      obtain ⟨M4, h4, hf⟩ := bd hf
      refine wa_callv (rest := []) (wr_V hC (kX7_moves l G h4) (cwV 3 hC.1.2.2.2.2 gX7_drop_X7_moves rfl rfl rfl (by decide +kernel) ⟨Nat.le_of_ble_eq_true rfl, Nat.le_of_ble_eq_true rfl⟩) (show kd 96 = 7 from rfl) (by decide) (ce7 (show kd 96 = 7 from rfl)) rfl rfl rfl rfl (Nat.le_of_ble_eq_true rfl) dX7_drop_56) ?_
      refine wa_iinc (v := _ + 1) (lv' := [(4, .int _), (0, .ref _), (3, .int _)]) hC dX7_drop_59 (t := 2) rfl rfl (by decide) rfl ?_
      refine wa_goto hC 35 dX7_drop_62 (by decide) ?_
      exact wa_sub [1, 2, 0] rfl (hbk35 _ _ _ hf)
  have hL35 : ∀ (n : Nat) (x3 : Int32) (x4 : Int32) (M0 : wM), fX7_drop_L35 x1 x2  n x3 x4 M0 = some (r, M1) → wAt p l e rmX7_drop s m args below meth c (qI below args s G r M1) 5 G M0 35 [(0, .ref (ga G (96))), (3, .int (x3)), (4, .int (x4))] [] := by
    intro  n
    induction n with
    | zero =>
      intro x3 x4 M0 hf
      exact absurd hf (by simp [fX7_drop_L35])
    | succ n ih =>
      intro x3 x4 M0 hf
      exact hB35  (fX7_drop_L35 x1 x2  n) ih x3 x4 M0 hf
  unfold fX7_drop at hf
  refine wa_aload_n hC dX7_drop_0 rfl 0 rfl ?_
  refine wa_iload_n hC dX7_drop_1 rfl 1 rfl ?_
  refine wa_iload_n hC dX7_drop_2 rfl 2 rfl ?_
  obtain ⟨v5, h5, hf⟩ := bd hf
  refine wa_calli (rest := []) (wr_V hC (kX7_isReading l G h5) (cwV 2 hC.1.2.2.2.2 gX7_drop_X7_isReading rfl rfl rfl (by decide +kernel) ⟨Nat.le_of_ble_eq_true rfl, Nat.le_of_ble_eq_true rfl⟩) (show kd 96 = 7 from rfl) (by decide) (ce7 (show kd 96 = 7 from rfl)) rfl rfl rfl rfl (Nat.le_of_ble_eq_true rfl) dX7_drop_3) ?_
  refine wa_if_ne hC 12 dX7_drop_6 (by decide) (fun c6 => ?_) (fun c6 => ?_)
  · have hf := ite_f hf c6
    refine wa_aload_n hC dX7_drop_12 rfl 0 rfl ?_
    obtain ⟨M7, h7, hf⟩ := bd hf
    refine wa_callv (rest := []) (wr_V hC (kX7_records l G h7) (cwV 0 hC.1.2.2.2.2 gX7_drop_X7_records rfl rfl rfl (by decide +kernel) ⟨Nat.le_of_ble_eq_true rfl, Nat.le_of_ble_eq_true rfl⟩) (show kd 96 = 7 from rfl) (by decide) (ce7 (show kd 96 = 7 from rfl)) rfl rfl rfl rfl (Nat.le_of_ble_eq_true rfl) dX7_drop_13) ?_
    refine wa_iload_n hC dX7_drop_16 rfl 1 rfl ?_
    refine wa_iconst (v := 1) hC dX7_drop_17 (by decide) ?_
    refine wa_iadd hC dX7_drop_18 ?_
    refine wa_istore_n (lv' := [(3, .int _), (0, .ref _), (1, .int _), (2, .int _)]) hC dX7_drop_19 rfl (by decide) rfl ?_
    refine wa_aload_n hC dX7_drop_20 rfl 1 rfl ?_
    refine rg7_0 hC fiX7_drop_7 mbX7_drop_7 dX7_drop_21 ?_
    refine wa_iconst (v := 3) hC dX7_drop_24 (by decide) ?_
    refine wa_iload_n hC dX7_drop_25 rfl 0 rfl ?_
    refine wa_iadd hC dX7_drop_26 ?_
    refine wa_dup2_11 hC dX7_drop_27 rfl rfl ?_
    obtain ⟨k8, h8, hf⟩ := bd hf
    obtain ⟨hv8, rfl⟩ := ix_some h8
    refine wa_iald hC (show kd 97 = 20 from rfl) hv8 dX7_drop_28 ?_
    refine wa_iconst (v := 1) hC dX7_drop_29 (by decide) ?_
    refine wa_isub hC dX7_drop_30 ?_
    obtain ⟨k9, h9, hf⟩ := bd hf
    obtain ⟨hv9, rfl⟩ := ix_some h9
    refine wa_iast hC (show kd 97 = 20 from rfl) hv9 rfl dX7_drop_31 ?_
    refine wa_iload_n hC dX7_drop_32 rfl 3 rfl ?_
    refine wa_istore (lv' := [(4, .int _), (3, .int _), (0, .ref _), (1, .int _), (2, .int _)]) hC dX7_drop_33 (by decide) rfl ?_
    exact wa_sub [2, 1, 0] rfl (hL35 FU _ _ _ hf)
  · have hf := ite_t hf c6
    refine wa_ldc hC mbX7_drop_55 dX7_drop_9 ?_
    exact wa_iret hC hlk hr (congrArg Prod.fst (so_inj hf)) (congrArg Prod.snd (so_inj hf)) dX7_drop_11
abbrev rmX7_isGust : Room := { frames := 1, cells := 0, slots := 0, locals := 23 }
theorem fiX7_isGust_7 : ∀ w ∈ u_ws RX7 TX7 21, w ∈ wsX7_isGust := by decide +kernel
theorem mbX7_isGust_7 : Cond.fieldLink RX7 7 "BaroRunsModel" "d" "[I" ∈ wsX7_isGust := by decide +kernel
set_option maxHeartbeats 4000000 in
set_option maxRecDepth 100000 in
theorem kX7_isGust (l : Launch) (G : wG) {x1 : Int32} {x2 : Int32} {M0 : wM} {b : Bool} (hf : fX7_isGust x1 x2 M0 = some b) : mI l yX7_isGust wsX7_isGust rmX7_isGust G [.ref (ga G (96)), .int (x1), .int (x2)] M0 (b2 b) M0 := by
  refine mI.of (cc := cX7_isGust) (nL := 6) (ret := (some .boolean)) (own := RX7) (lv := [(0, .ref (ga G (96))), (1, .int (x1)), (2, .int (x2))]) (plainFor_of_name (by decide +kernel)) rfl rfl (Nat.le_of_ble_eq_true rfl) rfl ?_
  intro p e s m args below meth c hC hr hlk
  have hJ79 : ∀ (x4 : Int32) (x5 : Int32), fX7_isGust_J79 x1 x2 M0  x4 x5 = some b → wAt p l e rmX7_isGust s m args below meth c (qI below args s G (b2 b) M0) 6 G M0 79 [(0, .ref (ga G (96))), (4, .int (x4)), (5, .int (x5))] [] := by
    intro  x4 x5 hf
    unfold fX7_isGust_J79 at hf
    refine wa_iload hC dX7_isGust_79 1 rfl ?_
    refine wa_aload_n hC dX7_isGust_81 rfl 0 rfl ?_
    refine rg7_0 hC fiX7_isGust_7 mbX7_isGust_7 dX7_isGust_82 ?_
    refine wa_iconst (v := 1) hC dX7_isGust_85 (by decide) ?_
    obtain ⟨k1, h1, hf⟩ := bd hf
    obtain ⟨hv1, rfl⟩ := ix_some h1
    refine wa_iald hC (show kd 97 = 20 from rfl) hv1 dX7_isGust_86 ?_
    refine wa_ineg hC dX7_isGust_87 ?_
    refine wa_icmp_ge hC 107 dX7_isGust_88 (by decide) (fun c2 => ?_) (fun c2 => ?_)
    · have hf := ite_t hf c2
      refine wa_iconst (v := 0) hC dX7_isGust_107 (by decide) ?_
      exact wa_zret hC hlk hr (congrArg b2 (so_inj hf)) rfl dX7_isGust_108
    · have hf := ite_f hf c2
      refine wa_iload hC dX7_isGust_91 2 rfl ?_
      refine wa_aload_n hC dX7_isGust_93 rfl 0 rfl ?_
      refine rg7_0 hC fiX7_isGust_7 mbX7_isGust_7 dX7_isGust_94 ?_
      refine wa_iconst (v := 1) hC dX7_isGust_97 (by decide) ?_
      obtain ⟨k3, h3, hf⟩ := bd hf
      obtain ⟨hv3, rfl⟩ := ix_some h3
      refine wa_iald hC (show kd 97 = 20 from rfl) hv3 dX7_isGust_98 ?_
      refine wa_ineg hC dX7_isGust_99 ?_
      refine wa_icmp_ge hC 107 dX7_isGust_100 (by decide) (fun c4 => ?_) (fun c4 => ?_)
      · have hf := ite_t hf c4
        refine wa_iconst (v := 0) hC dX7_isGust_107 (by decide) ?_
        exact wa_zret hC hlk hr (congrArg b2 (so_inj hf)) rfl dX7_isGust_108
      · have hf := ite_f hf c4
        refine wa_iconst (v := 1) hC dX7_isGust_103 (by decide) ?_
        refine wa_goto hC 108 dX7_isGust_104 (by decide) ?_
        exact wa_zret hC hlk hr (congrArg b2 (so_inj hf)) rfl dX7_isGust_108
  unfold fX7_isGust at hf
  refine wa_iload_n hC dX7_isGust_0 rfl 2 rfl ?_
  refine wa_if_eq hC 18 dX7_isGust_1 (by decide) (fun c5 => ?_) (fun c5 => ?_)
  · have hf := ite_t hf c5
    refine wa_iconst (v := 0) hC dX7_isGust_18 (by decide) ?_
    exact wa_zret hC hlk hr (congrArg b2 (so_inj hf)) rfl dX7_isGust_19
  · have hf := ite_f hf c5
    refine wa_iload_n hC dX7_isGust_4 rfl 2 rfl ?_
    refine wa_iconst (v := 1) hC dX7_isGust_5 (by decide) ?_
    refine wa_iadd hC dX7_isGust_6 ?_
    refine wa_aload_n hC dX7_isGust_7 rfl 0 rfl ?_
    refine rg7_0 hC fiX7_isGust_7 mbX7_isGust_7 dX7_isGust_8 ?_
    refine wa_iconst (v := 3) hC dX7_isGust_11 (by decide) ?_
    refine wa_iload_n hC dX7_isGust_12 rfl 1 rfl ?_
    refine wa_iadd hC dX7_isGust_13 ?_
    obtain ⟨k6, h6, hf⟩ := bd hf
    obtain ⟨hv6, rfl⟩ := ix_some h6
    refine wa_iald hC (show kd 97 = 20 from rfl) hv6 dX7_isGust_14 ?_
    refine wa_icmp_lt hC 20 dX7_isGust_15 (by decide) (fun c7 => ?_) (fun c7 => ?_)
    · have hf := ite_t hf c7
      refine wa_aload_n hC dX7_isGust_20 rfl 0 rfl ?_
      refine wa_iload_n hC dX7_isGust_21 rfl 1 rfl ?_
      refine wa_bipush (v := 20) hC dX7_isGust_22 (by decide) ?_
      refine wa_iload_n hC dX7_isGust_24 rfl 2 rfl ?_
      obtain ⟨v8, h8, hf⟩ := bd hf
      refine wa_calli (rest := []) (wr_V hC (kX7_of l G h8) (cwV 3 hC.1.2.2.2.2 gX7_isGust_X7_of rfl rfl rfl (by decide +kernel) ⟨Nat.le_of_ble_eq_true rfl, Nat.le_of_ble_eq_true rfl⟩) (show kd 96 = 7 from rfl) (by decide) (ce7 (show kd 96 = 7 from rfl)) rfl rfl rfl rfl (Nat.le_of_ble_eq_true rfl) dX7_isGust_25) ?_
      refine wa_istore_n (lv' := [(3, .int _), (0, .ref _), (1, .int _), (2, .int _)]) hC dX7_isGust_28 rfl (by decide) rfl ?_
      refine wa_iload_n hC dX7_isGust_29 rfl 0 rfl ?_
      refine wa_aload_n hC dX7_isGust_30 rfl 1 rfl ?_
      refine wa_iload_n hC dX7_isGust_31 rfl 2 rfl ?_
      refine wa_bipush (v := 20) hC dX7_isGust_32 (by decide) ?_
      refine wa_iload_n hC dX7_isGust_34 rfl 3 rfl ?_
      refine wa_iconst (v := 1) hC dX7_isGust_35 (by decide) ?_
      refine wa_isub hC dX7_isGust_36 ?_
      obtain ⟨v9, h9, hf⟩ := bd hf
      refine wa_calli (rest := [_]) (wr_V hC (kX7_of l G h9) (cwV 3 hC.1.2.2.2.2 gX7_isGust_X7_of rfl rfl rfl (by decide +kernel) ⟨Nat.le_of_ble_eq_true rfl, Nat.le_of_ble_eq_true rfl⟩) (show kd 96 = 7 from rfl) (by decide) (ce7 (show kd 96 = 7 from rfl)) rfl rfl rfl rfl (Nat.le_of_ble_eq_true rfl) dX7_isGust_37) ?_
      refine wa_isub hC dX7_isGust_40 ?_
      refine wa_istore (lv' := [(4, .int _), (3, .int _), (0, .ref _), (1, .int _), (2, .int _)]) hC dX7_isGust_41 (by decide) rfl ?_
      refine wa_iload_n hC dX7_isGust_43 rfl 1 rfl ?_
      refine wa_aload_n hC dX7_isGust_44 rfl 2 rfl ?_
      refine wa_iload_n hC dX7_isGust_45 rfl 3 rfl ?_
      refine wa_bipush (v := 20) hC dX7_isGust_46 (by decide) ?_
      refine wa_iload_n hC dX7_isGust_48 rfl 4 rfl ?_
      refine wa_iconst (v := 1) hC dX7_isGust_49 (by decide) ?_
      refine wa_iadd hC dX7_isGust_50 ?_
      obtain ⟨v10, h10, hf⟩ := bd hf
      refine wa_calli (rest := [_]) (wr_V hC (kX7_of l G h10) (cwV 3 hC.1.2.2.2.2 gX7_isGust_X7_of rfl rfl rfl (by decide +kernel) ⟨Nat.le_of_ble_eq_true rfl, Nat.le_of_ble_eq_true rfl⟩) (show kd 96 = 7 from rfl) (by decide) (ce7 (show kd 96 = 7 from rfl)) rfl rfl rfl rfl (Nat.le_of_ble_eq_true rfl) dX7_isGust_51) ?_
      refine wa_isub hC dX7_isGust_54 ?_
      refine wa_istore (lv' := [(5, .int _), (4, .int _), (3, .int _), (0, .ref _), (1, .int _), (2, .int _)]) hC dX7_isGust_55 (by decide) rfl ?_
      refine wa_iload hC dX7_isGust_57 1 rfl ?_
      refine wa_aload_n hC dX7_isGust_59 rfl 3 rfl ?_
      refine rg7_0 hC fiX7_isGust_7 mbX7_isGust_7 dX7_isGust_60 ?_
      refine wa_iconst (v := 1) hC dX7_isGust_63 (by decide) ?_
      obtain ⟨k11, h11, hf⟩ := bd hf
      obtain ⟨hv11, rfl⟩ := ix_some h11
      refine wa_iald hC (show kd 97 = 20 from rfl) hv11 dX7_isGust_64 ?_
      refine wa_icmp_le hC 79 dX7_isGust_65 (by decide) (fun c12 => ?_) (fun c12 => ?_)
      · have hf := ite_t hf c12
        exact wa_sub [3, 1, 0] rfl (hJ79  _ _ hf)
      · have hf := ite_f hf c12
        refine wa_iload hC dX7_isGust_68 0 rfl ?_
        refine wa_aload_n hC dX7_isGust_70 rfl 3 rfl ?_
        refine rg7_0 hC fiX7_isGust_7 mbX7_isGust_7 dX7_isGust_71 ?_
        refine wa_iconst (v := 1) hC dX7_isGust_74 (by decide) ?_
        obtain ⟨k13, h13, hf⟩ := bd hf
        obtain ⟨hv13, rfl⟩ := ix_some h13
        refine wa_iald hC (show kd 97 = 20 from rfl) hv13 dX7_isGust_75 ?_
        refine wa_icmp_gt hC 103 dX7_isGust_76 (by decide) (fun c14 => ?_) (fun c14 => ?_)
        · have hf := ite_t hf c14
          refine wa_iconst (v := 1) hC dX7_isGust_103 (by decide) ?_
          refine wa_goto hC 108 dX7_isGust_104 (by decide) ?_
          exact wa_zret hC hlk hr (congrArg b2 (so_inj hf)) rfl dX7_isGust_108
        · have hf := ite_f hf c14
          exact wa_sub [3, 1, 0] rfl (hJ79  _ _ hf)
    · have hf := ite_f hf c7
      refine wa_iconst (v := 0) hC dX7_isGust_18 (by decide) ?_
      exact wa_zret hC hlk hr (congrArg b2 (so_inj hf)) rfl dX7_isGust_19

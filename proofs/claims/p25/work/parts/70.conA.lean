abbrev rmX0_place : Room := { frames := 0, cells := 0, slots := 0, locals := 0 }
theorem fiX0_place_0 : ∀ w ∈ u_ws RX0 TX0 3, w ∈ wsX0_place := by decide +kernel
theorem mbX0_place_22 : Cond.fieldLink RX0 22 "BaroRuns$History" "oldest" "I" ∈ wsX0_place := by decide +kernel
theorem mbX0_place_11 : Cond.fieldLink RX0 11 "BaroRuns$History" "places" "[LBaroRuns$State;" ∈ wsX0_place := by decide +kernel
set_option maxHeartbeats 4000000 in
set_option maxRecDepth 100000 in
theorem kX0_place (l : Launch) (G : wG) {i : Nat} (hi : kd i = 0) {x1 : Int32} {M0 : wM} {r : Nat} (hf : fX0_place i x1 M0 = some r) : mR l yX0_place wsX0_place rmX0_place G [.ref (ga G (i)), .int (x1)] M0 r M0 := by
  refine mR.of (cc := cX0_place) (nL := 3) (ret := (some (.object "BaroRuns$State"))) (own := RX0) (lv := [(0, .ref (ga G (i))), (1, .int (x1))]) (plainFor_of_name (by decide +kernel)) rfl rfl (Nat.le_of_ble_eq_true rfl) rfl ?_
  intro p e s m args below meth c hC hr hlk
  unfold fX0_place at hf
  refine wa_aload_n hC dX0_place_0 rfl 0 rfl ?_
  refine rg0_1 hC fiX0_place_0 hi mbX0_place_22 dX0_place_1 ?_
  refine wa_iload_n hC dX0_place_4 rfl 1 rfl ?_
  refine wa_iadd hC dX0_place_5 ?_
  refine wa_iconst (v := 5) hC dX0_place_6 (by decide) ?_
  obtain ⟨v1, h1, hf⟩ := bd hf
  obtain ⟨hz1, rfl⟩ := rmI_some h1
  refine wa_irem hC dX0_place_7 hz1 ?_
  refine wa_istore_n (lv' := [(2, .int _), (0, .ref _), (1, .int _)]) hC dX0_place_8 rfl (by decide) rfl ?_
  refine wa_iload_n hC dX0_place_9 rfl 0 rfl ?_
  refine wa_if_lt hC 31 dX0_place_10 (by decide) (fun c2 => ?_) (fun c2 => ?_)
  · have hf := ite_t hf c2
    exact absurd hf (by simp)
  · have hf := ite_f hf c2
    refine wa_iload_n hC dX0_place_13 rfl 0 rfl ?_
    refine wa_aload_n hC dX0_place_14 rfl 1 rfl ?_
    refine rg0_0 hC fiX0_place_0 hi mbX0_place_11 dX0_place_15 ?_
    refine wa_alen8 hC (kf0_0 hi) dX0_place_18 ?_
    refine wa_icmp_ge hC 31 dX0_place_19 (by decide) (fun c3 => ?_) (fun c3 => ?_)
    · have hf := ite_t hf c3
      exact absurd hf (by simp)
    · have hf := ite_f hf c3
      refine wa_aload_n hC dX0_place_22 rfl 1 rfl ?_
      refine rg0_0 hC fiX0_place_0 hi mbX0_place_11 dX0_place_23 ?_
      refine wa_iload_n hC dX0_place_26 rfl 0 rfl ?_
      obtain ⟨k4, h4, hf⟩ := bd hf
      obtain ⟨hv4, rfl⟩ := ix_some h4
      refine wa_aald8 hC (kf0_0 hi) hv4 dX0_place_27 ?_
      refine wa_goto hC 32 dX0_place_28 (by decide) ?_
      exact wa_aret hC hlk hr (so_inj hf) rfl dX0_place_32
abbrev rmX5_copyFrom : Room := { frames := 1, cells := 0, slots := 0, locals := 60 }
theorem fiX5_copyFrom_5 : ∀ w ∈ u_ws RX5 TX5 3, w ∈ wsX5_copyFrom := by decide +kernel
theorem mbX5_copyFrom_9 : Cond.fieldLink RX5 9 "BaroRuns$Track" "values" "[I" ∈ wsX5_copyFrom := by decide +kernel
theorem mbX5_copyFrom_15 : Cond.methodLink RX5 15 Lib.Math.min.name ∈ wsX5_copyFrom := by decide +kernel
theorem mbX5_copyFrom_st_min : Cond.static Lib.Math.min.name ∈ wsX5_copyFrom := by decide +kernel
theorem mbX5_copyFrom_ini_Math : Cond.initialized "java/lang/Math" ∈ wsX5_copyFrom := by decide +kernel
theorem mbX5_copyFrom_code_min : Cond.code Lib.Math.min.name Lib.Math.min.code 2 (some .int) ∈ wsX5_copyFrom := by decide +kernel
theorem mbX5_copyFrom_43 : Cond.methodLink RX5 43 arraycopyName ∈ wsX5_copyFrom := by decide +kernel
theorem mbX5_copyFrom_nat : Cond.native arraycopyName ∈ wsX5_copyFrom := by decide +kernel
theorem mbX5_copyFrom_cst : Cond.static arraycopyName ∈ wsX5_copyFrom := by decide +kernel
theorem mbX5_copyFrom_cini : Cond.initialized "java/lang/System" ∈ wsX5_copyFrom := by decide +kernel
theorem mbX5_copyFrom_29 : Cond.fieldLink RX5 29 "BaroRuns$Track" "size" "I" ∈ wsX5_copyFrom := by decide +kernel
set_option maxHeartbeats 4000000 in
set_option maxRecDepth 100000 in
theorem kX5_copyFrom (l : Launch) (G : wG) {i : Nat} (hi : kd i = 5) {j1 : Nat} (hj1 : kd j1 = 5) {M0 M1 : wM} (hf : fX5_copyFrom i j1 M0 = some M1) : mV l yX5_copyFrom wsX5_copyFrom rmX5_copyFrom G [.ref (ga G (i)), .ref (ga G (j1))] M0 M1 := by
  refine mV.of (cc := cX5_copyFrom) (nL := 2) (ret := none) (own := RX5) (lv := [(0, .ref (ga G (i))), (1, .ref (ga G (j1)))]) (plainFor_of_name (by decide +kernel)) rfl rfl (Nat.le_of_ble_eq_true rfl) rfl ?_
  intro p e s m args below meth c hC hr hlk
  unfold fX5_copyFrom at hf
  refine wa_aload_n hC dX5_copyFrom_0 rfl 1 rfl ?_
  refine rg5_0 hC fiX5_copyFrom_5 hj1 mbX5_copyFrom_9 dX5_copyFrom_1 ?_
  refine wa_iconst (v := 0) hC dX5_copyFrom_4 (by decide) ?_
  refine wa_aload_n hC dX5_copyFrom_5 rfl 0 rfl ?_
  refine rg5_0 hC fiX5_copyFrom_5 hi mbX5_copyFrom_9 dX5_copyFrom_6 ?_
  refine wa_iconst (v := 0) hC dX5_copyFrom_9 (by decide) ?_
  refine wa_aload_n hC dX5_copyFrom_10 rfl 1 rfl ?_
  refine rg5_0 hC fiX5_copyFrom_5 hj1 mbX5_copyFrom_9 dX5_copyFrom_11 ?_
  refine wa_alen hC (kf5_0 hj1) dX5_copyFrom_14 ?_
  refine wa_aload_n hC dX5_copyFrom_15 rfl 0 rfl ?_
  refine rg5_0 hC fiX5_copyFrom_5 hi mbX5_copyFrom_9 dX5_copyFrom_16 ?_
  refine wa_alen hC (kf5_0 hi) dX5_copyFrom_19 ?_
  refine wa_min hC mbX5_copyFrom_15 mbX5_copyFrom_st_min mbX5_copyFrom_ini_Math mbX5_copyFrom_code_min (Nat.le_of_ble_eq_true rfl) (Nat.le_of_ble_eq_true rfl) dX5_copyFrom_20 ?_
  obtain ⟨k1, h1, hf⟩ := bd hf
  obtain ⟨hn1, ha1, hb1, rfl⟩ := cpG_some h1
  refine wa_copy hC mbX5_copyFrom_43 mbX5_copyFrom_nat mbX5_copyFrom_cst mbX5_copyFrom_cini (kf5_0 hj1) (kf5_0 hi) hn1 ha1 hb1 (Nat.le_of_ble_eq_true rfl) (by decide +kernel) dX5_copyFrom_23 ?_
  refine wa_aload_n hC dX5_copyFrom_26 rfl 0 rfl ?_
  refine wa_aload_n hC dX5_copyFrom_27 rfl 1 rfl ?_
  refine rg5_2 hC fiX5_copyFrom_5 hj1 mbX5_copyFrom_29 dX5_copyFrom_28 ?_
  refine rp5_2 hC fiX5_copyFrom_5 hi mbX5_copyFrom_29 dX5_copyFrom_31 ?_
  exact wa_vret hC hlk hr (so_inj hf) dX5_copyFrom_34
abbrev rmX2_copyFrom : Room := { frames := 2, cells := 0, slots := 0, locals := 81 }
theorem fiX2_copyFrom_2 : ∀ w ∈ u_ws RX2 TX2 7, w ∈ wsX2_copyFrom := by decide +kernel
theorem mbX2_copyFrom_14 : Cond.fieldLink RX2 14 "BaroRuns$State" "baseTrack" "LBaroRuns$Track;" ∈ wsX2_copyFrom := by decide +kernel
theorem mbX2_copyFrom_20 : Cond.fieldLink RX2 20 "BaroRuns$State" "firstTrack" "LBaroRuns$Track;" ∈ wsX2_copyFrom := by decide +kernel
theorem mbX2_copyFrom_23 : Cond.fieldLink RX2 23 "BaroRuns$State" "secondTrack" "LBaroRuns$Track;" ∈ wsX2_copyFrom := by decide +kernel
theorem mbX2_copyFrom_26 : Cond.fieldLink RX2 26 "BaroRuns$State" "thirdTrack" "LBaroRuns$Track;" ∈ wsX2_copyFrom := by decide +kernel
theorem mbX2_copyFrom_29 : Cond.fieldLink RX2 29 "BaroRuns$State" "baseHeight" "I" ∈ wsX2_copyFrom := by decide +kernel
theorem mbX2_copyFrom_33 : Cond.fieldLink RX2 33 "BaroRuns$State" "gustLimit" "I" ∈ wsX2_copyFrom := by decide +kernel
theorem mbX2_copyFrom_36 : Cond.fieldLink RX2 36 "BaroRuns$State" "stepLimit" "I" ∈ wsX2_copyFrom := by decide +kernel
set_option maxHeartbeats 4000000 in
set_option maxRecDepth 100000 in
theorem kX2_copyFrom (l : Launch) (G : wG) {i : Nat} (hi : kd i = 2) {j1 : Nat} (hj1 : kd j1 = 2) {M0 M1 : wM} (hf : fX2_copyFrom i j1 M0 = some M1) : mV l yX2_copyFrom wsX2_copyFrom rmX2_copyFrom G [.ref (ga G (i)), .ref (ga G (j1))] M0 M1 := by
  refine mV.of (cc := cX2_copyFrom) (nL := 2) (ret := none) (own := RX2) (lv := [(0, .ref (ga G (i))), (1, .ref (ga G (j1)))]) (plainFor_of_name (by decide +kernel)) rfl rfl (Nat.le_of_ble_eq_true rfl) rfl ?_
  intro p e s m args below meth c hC hr hlk
  unfold fX2_copyFrom at hf
  refine wa_aload_n hC dX2_copyFrom_0 rfl 0 rfl ?_
  refine rg2_0 hC fiX2_copyFrom_2 hi mbX2_copyFrom_14 dX2_copyFrom_1 ?_
  refine wa_aload_n hC dX2_copyFrom_4 rfl 1 rfl ?_
  refine rg2_0 hC fiX2_copyFrom_2 hj1 mbX2_copyFrom_14 dX2_copyFrom_5 ?_
  obtain ⟨M1, h1, hf⟩ := bd hf
  refine wa_callv (rest := []) (wr_V hC (kX5_copyFrom l G (kf2_0 hi) (kf2_0 hj1) h1) (cwV 1 hC.1.2.2.2.2 gX2_copyFrom_X5_copyFrom rfl rfl rfl (by decide +kernel) ⟨Nat.le_of_ble_eq_true rfl, Nat.le_of_ble_eq_true rfl⟩) (kf2_0 hi) (by decide) (ce5 (kf2_0 hi)) rfl rfl rfl rfl (Nat.le_of_ble_eq_true rfl) dX2_copyFrom_8) ?_
  refine wa_aload_n hC dX2_copyFrom_11 rfl 0 rfl ?_
  refine rg2_1 hC fiX2_copyFrom_2 hi mbX2_copyFrom_20 dX2_copyFrom_12 ?_
  refine wa_aload_n hC dX2_copyFrom_15 rfl 1 rfl ?_
  refine rg2_1 hC fiX2_copyFrom_2 hj1 mbX2_copyFrom_20 dX2_copyFrom_16 ?_
  obtain ⟨M2, h2, hf⟩ := bd hf
  refine wa_callv (rest := []) (wr_V hC (kX5_copyFrom l G (kf2_1 hi) (kf2_1 hj1) h2) (cwV 1 hC.1.2.2.2.2 gX2_copyFrom_X5_copyFrom rfl rfl rfl (by decide +kernel) ⟨Nat.le_of_ble_eq_true rfl, Nat.le_of_ble_eq_true rfl⟩) (kf2_1 hi) (by decide) (ce5 (kf2_1 hi)) rfl rfl rfl rfl (Nat.le_of_ble_eq_true rfl) dX2_copyFrom_19) ?_
  refine wa_aload_n hC dX2_copyFrom_22 rfl 0 rfl ?_
  refine rg2_2 hC fiX2_copyFrom_2 hi mbX2_copyFrom_23 dX2_copyFrom_23 ?_
  refine wa_aload_n hC dX2_copyFrom_26 rfl 1 rfl ?_
  refine rg2_2 hC fiX2_copyFrom_2 hj1 mbX2_copyFrom_23 dX2_copyFrom_27 ?_
  obtain ⟨M3, h3, hf⟩ := bd hf
  refine wa_callv (rest := []) (wr_V hC (kX5_copyFrom l G (kf2_2 hi) (kf2_2 hj1) h3) (cwV 1 hC.1.2.2.2.2 gX2_copyFrom_X5_copyFrom rfl rfl rfl (by decide +kernel) ⟨Nat.le_of_ble_eq_true rfl, Nat.le_of_ble_eq_true rfl⟩) (kf2_2 hi) (by decide) (ce5 (kf2_2 hi)) rfl rfl rfl rfl (Nat.le_of_ble_eq_true rfl) dX2_copyFrom_30) ?_
  refine wa_aload_n hC dX2_copyFrom_33 rfl 0 rfl ?_
  refine rg2_3 hC fiX2_copyFrom_2 hi mbX2_copyFrom_26 dX2_copyFrom_34 ?_
  refine wa_aload_n hC dX2_copyFrom_37 rfl 1 rfl ?_
  refine rg2_3 hC fiX2_copyFrom_2 hj1 mbX2_copyFrom_26 dX2_copyFrom_38 ?_
  obtain ⟨M4, h4, hf⟩ := bd hf
  refine wa_callv (rest := []) (wr_V hC (kX5_copyFrom l G (kf2_3 hi) (kf2_3 hj1) h4) (cwV 1 hC.1.2.2.2.2 gX2_copyFrom_X5_copyFrom rfl rfl rfl (by decide +kernel) ⟨Nat.le_of_ble_eq_true rfl, Nat.le_of_ble_eq_true rfl⟩) (kf2_3 hi) (by decide) (ce5 (kf2_3 hi)) rfl rfl rfl rfl (Nat.le_of_ble_eq_true rfl) dX2_copyFrom_41) ?_
  refine wa_aload_n hC dX2_copyFrom_44 rfl 0 rfl ?_
  refine wa_aload_n hC dX2_copyFrom_45 rfl 1 rfl ?_
  refine rg2_4 hC fiX2_copyFrom_2 hj1 mbX2_copyFrom_29 dX2_copyFrom_46 ?_
  refine rp2_4 hC fiX2_copyFrom_2 hi mbX2_copyFrom_29 dX2_copyFrom_49 ?_
  refine wa_aload_n hC dX2_copyFrom_52 rfl 0 rfl ?_
  refine wa_aload_n hC dX2_copyFrom_53 rfl 1 rfl ?_
  refine rg2_5 hC fiX2_copyFrom_2 hj1 mbX2_copyFrom_33 dX2_copyFrom_54 ?_
  refine rp2_5 hC fiX2_copyFrom_2 hi mbX2_copyFrom_33 dX2_copyFrom_57 ?_
  refine wa_aload_n hC dX2_copyFrom_60 rfl 0 rfl ?_
  refine wa_aload_n hC dX2_copyFrom_61 rfl 1 rfl ?_
  refine rg2_6 hC fiX2_copyFrom_2 hj1 mbX2_copyFrom_36 dX2_copyFrom_62 ?_
  refine rp2_6 hC fiX2_copyFrom_2 hi mbX2_copyFrom_36 dX2_copyFrom_65 ?_
  exact wa_vret hC hlk hr (so_inj hf) dX2_copyFrom_68
abbrev rmX0_keep : Room := { frames := 3, cells := 0, slots := 0, locals := 102 }
theorem fiX0_keep_0 : ∀ w ∈ u_ws RX0 TX0 3, w ∈ wsX0_keep := by decide +kernel
theorem mbX0_keep_18 : Cond.fieldLink RX0 18 "BaroRuns$History" "size" "I" ∈ wsX0_keep := by decide +kernel
theorem mbX0_keep_22 : Cond.fieldLink RX0 22 "BaroRuns$History" "oldest" "I" ∈ wsX0_keep := by decide +kernel
set_option maxHeartbeats 4000000 in
set_option maxRecDepth 100000 in
theorem kX0_keep (l : Launch) (G : wG) {i : Nat} (hi : kd i = 0) {j1 : Nat} (hj1 : kd j1 = 2) {M0 M1 : wM} (hf : fX0_keep i j1 M0 = some M1) : mV l yX0_keep wsX0_keep rmX0_keep G [.ref (ga G (i)), .ref (ga G (j1))] M0 M1 := by
  refine mV.of (cc := cX0_keep) (nL := 3) (ret := none) (own := RX0) (lv := [(0, .ref (ga G (i))), (1, .ref (ga G (j1)))]) (plainFor_of_name (by decide +kernel)) rfl rfl (Nat.le_of_ble_eq_true rfl) rfl ?_
  intro p e s m args below meth c hC hr hlk
  have hJ30 : ∀ (M0 : wM), fX0_keep_J30 i j1   M0 = some M1 → wAt p l e rmX0_keep s m args below meth c (qV below args s G M1) 3 G M0 30 [(0, .ref (ga G (i))), (1, .ref (ga G (j1)))] [] := by
    intro   M0 hf
    unfold fX0_keep_J30 at hf
    refine wa_aload_n hC dX0_keep_30 rfl 0 rfl ?_
    refine wa_aload_n hC dX0_keep_31 rfl 0 rfl ?_
    refine rg0_2 hC fiX0_keep_0 hi mbX0_keep_18 dX0_keep_32 ?_
    obtain ⟨v1, h1, hf⟩ := bd hf
    refine wa_callr (rest := []) (wr_V hC (kX0_place l G hi h1) (cwV 1 hC.1.2.2.2.2 gX0_keep_X0_place rfl rfl rfl (by decide +kernel) ⟨Nat.le_of_ble_eq_true rfl, Nat.le_of_ble_eq_true rfl⟩) hi (by decide) (ce0 hi) rfl rfl rfl rfl (Nat.le_of_ble_eq_true rfl) dX0_keep_35) ?_
    obtain ⟨_, g2, hf⟩ := bd hf
    have g2 := gk_some g2
    refine wa_astore_n (lv' := [(2, .ref _), (0, .ref _), (1, .ref _)]) hC dX0_keep_38 rfl (by decide) rfl ?_
    refine wa_aload_n hC dX0_keep_39 rfl 0 rfl ?_
    refine wa_ifnull hC dX0_keep_40 ?_
    refine wa_aload_n hC dX0_keep_43 rfl 0 rfl ?_
    refine wa_aload_n hC dX0_keep_44 rfl 2 rfl ?_
    obtain ⟨M3, h3, hf⟩ := bd hf
    refine wa_callv (rest := []) (wr_V hC (kX2_copyFrom l G g2 hj1 h3) (cwV 1 hC.1.2.2.2.2 gX0_keep_X2_copyFrom rfl rfl rfl (by decide +kernel) ⟨Nat.le_of_ble_eq_true rfl, Nat.le_of_ble_eq_true rfl⟩) g2 (by decide) (ce2 g2) rfl rfl rfl rfl (Nat.le_of_ble_eq_true rfl) dX0_keep_45) ?_
    refine wa_aload_n hC dX0_keep_48 rfl 1 rfl ?_
    refine wa_dup hC dX0_keep_49 rfl ?_
    refine rg0_2 hC fiX0_keep_0 hi mbX0_keep_18 dX0_keep_50 ?_
    refine wa_iconst (v := 1) hC dX0_keep_53 (by decide) ?_
    refine wa_iadd hC dX0_keep_54 ?_
    refine rp0_2 hC fiX0_keep_0 hi mbX0_keep_18 dX0_keep_55 ?_
    exact wa_vret hC hlk hr (so_inj hf) dX0_keep_58
  unfold fX0_keep at hf
  refine wa_aload_n hC dX0_keep_0 rfl 0 rfl ?_
  refine rg0_2 hC fiX0_keep_0 hi mbX0_keep_18 dX0_keep_1 ?_
  refine wa_iconst (v := 5) hC dX0_keep_4 (by decide) ?_
  refine wa_icmp_lt hC 30 dX0_keep_5 (by decide) (fun c4 => ?_) (fun c4 => ?_)
  · have hf := ite_t hf c4
    exact wa_sub [0, 1] rfl (hJ30   _ hf)
  · have hf := ite_f hf c4
    refine wa_aload_n hC dX0_keep_8 rfl 0 rfl ?_
    refine wa_aload_n hC dX0_keep_9 rfl 0 rfl ?_
    refine rg0_1 hC fiX0_keep_0 hi mbX0_keep_22 dX0_keep_10 ?_
    refine wa_iconst (v := 1) hC dX0_keep_13 (by decide) ?_
    refine wa_iadd hC dX0_keep_14 ?_
    refine wa_iconst (v := 5) hC dX0_keep_15 (by decide) ?_
    obtain ⟨v5, h5, hf⟩ := bd hf
    obtain ⟨hz5, rfl⟩ := rmI_some h5
    refine wa_irem hC dX0_keep_16 hz5 ?_
    refine rp0_1 hC fiX0_keep_0 hi mbX0_keep_22 dX0_keep_17 ?_
    refine wa_aload_n hC dX0_keep_20 rfl 0 rfl ?_
    refine wa_dup hC dX0_keep_21 rfl ?_
    refine rg0_2 hC fiX0_keep_0 hi mbX0_keep_18 dX0_keep_22 ?_
    refine wa_iconst (v := 1) hC dX0_keep_25 (by decide) ?_
    refine wa_isub hC dX0_keep_26 ?_
    refine rp0_2 hC fiX0_keep_0 hi mbX0_keep_18 dX0_keep_27 ?_
    exact wa_sub [0, 1] rfl (hJ30   _ hf)
abbrev rmX0_giveBack : Room := { frames := 3, cells := 0, slots := 0, locals := 102 }
theorem fiX0_giveBack_0 : ∀ w ∈ u_ws RX0 TX0 3, w ∈ wsX0_giveBack := by decide +kernel
theorem mbX0_giveBack_18 : Cond.fieldLink RX0 18 "BaroRuns$History" "size" "I" ∈ wsX0_giveBack := by decide +kernel
set_option maxHeartbeats 4000000 in
set_option maxRecDepth 100000 in
theorem kX0_giveBack (l : Launch) (G : wG) {i : Nat} (hi : kd i = 0) {j1 : Nat} (hj1 : kd j1 = 2) {M0 M1 : wM} (hf : fX0_giveBack i j1 M0 = some M1) : mV l yX0_giveBack wsX0_giveBack rmX0_giveBack G [.ref (ga G (i)), .ref (ga G (j1))] M0 M1 := by
  refine mV.of (cc := cX0_giveBack) (nL := 3) (ret := none) (own := RX0) (lv := [(0, .ref (ga G (i))), (1, .ref (ga G (j1)))]) (plainFor_of_name (by decide +kernel)) rfl rfl (Nat.le_of_ble_eq_true rfl) rfl ?_
  intro p e s m args below meth c hC hr hlk
  unfold fX0_giveBack at hf
  refine wa_aload_n hC dX0_giveBack_0 rfl 0 rfl ?_
  refine wa_aload_n hC dX0_giveBack_1 rfl 0 rfl ?_
  refine rg0_2 hC fiX0_giveBack_0 hi mbX0_giveBack_18 dX0_giveBack_2 ?_
  refine wa_iconst (v := 1) hC dX0_giveBack_5 (by decide) ?_
  refine wa_isub hC dX0_giveBack_6 ?_
  obtain ⟨v1, h1, hf⟩ := bd hf
  refine wa_callr (rest := []) (wr_V hC (kX0_place l G hi h1) (cwV 1 hC.1.2.2.2.2 gX0_giveBack_X0_place rfl rfl rfl (by decide +kernel) ⟨Nat.le_of_ble_eq_true rfl, Nat.le_of_ble_eq_true rfl⟩) hi (by decide) (ce0 hi) rfl rfl rfl rfl (Nat.le_of_ble_eq_true rfl) dX0_giveBack_7) ?_
  obtain ⟨_, g2, hf⟩ := bd hf
  have g2 := gk_some g2
  refine wa_astore_n (lv' := [(2, .ref _), (0, .ref _), (1, .ref _)]) hC dX0_giveBack_10 rfl (by decide) rfl ?_
  refine wa_aload_n hC dX0_giveBack_11 rfl 0 rfl ?_
  refine wa_ifnull hC dX0_giveBack_12 ?_
  refine wa_aload_n hC dX0_giveBack_15 rfl 2 rfl ?_
  refine wa_aload_n hC dX0_giveBack_16 rfl 0 rfl ?_
  obtain ⟨M3, h3, hf⟩ := bd hf
  refine wa_callv (rest := []) (wr_V hC (kX2_copyFrom l G hj1 g2 h3) (cwV 1 hC.1.2.2.2.2 gX0_giveBack_X2_copyFrom rfl rfl rfl (by decide +kernel) ⟨Nat.le_of_ble_eq_true rfl, Nat.le_of_ble_eq_true rfl⟩) hj1 (by decide) (ce2 hj1) rfl rfl rfl rfl (Nat.le_of_ble_eq_true rfl) dX0_giveBack_17) ?_
  refine wa_aload_n hC dX0_giveBack_20 rfl 1 rfl ?_
  refine wa_dup hC dX0_giveBack_21 rfl ?_
  refine rg0_2 hC fiX0_giveBack_0 hi mbX0_giveBack_18 dX0_giveBack_22 ?_
  refine wa_iconst (v := 1) hC dX0_giveBack_25 (by decide) ?_
  refine wa_isub hC dX0_giveBack_26 ?_
  refine rp0_2 hC fiX0_giveBack_0 hi mbX0_giveBack_18 dX0_giveBack_27 ?_
  exact wa_vret hC hlk hr (so_inj hf) dX0_giveBack_30
abbrev rmX1_clear : Room := { frames := 0, cells := 0, slots := 0, locals := 0 }
theorem fiX1_clear_1 : ∀ w ∈ u_ws RX1 TX1 4, w ∈ wsX1_clear := by decide +kernel
theorem mbX1_clear_7 : Cond.fieldLink RX1 7 "BaroRuns$PointSum" "sum" "J" ∈ wsX1_clear := by decide +kernel
theorem mbX1_clear_13 : Cond.fieldLink RX1 13 "BaroRuns$PointSum" "number" "I" ∈ wsX1_clear := by decide +kernel
set_option maxHeartbeats 4000000 in
set_option maxRecDepth 100000 in
theorem kX1_clear (l : Launch) (G : wG) {i : Nat} (hi : kd i = 1) {M0 M1 : wM} (hf : fX1_clear i M0 = some M1) : mV l yX1_clear wsX1_clear rmX1_clear G [.ref (ga G (i))] M0 M1 := by
  refine mV.of (cc := cX1_clear) (nL := 1) (ret := none) (own := RX1) (lv := [(0, .ref (ga G (i)))]) (plainFor_of_name (by decide +kernel)) rfl rfl (Nat.le_of_ble_eq_true rfl) rfl ?_
  intro p e s m args below meth c hC hr hlk
  unfold fX1_clear at hf
  refine wa_aload_n hC dX1_clear_0 rfl 0 rfl ?_
  refine wa_lconst (v := 0) hC dX1_clear_1 (by decide) ?_
  refine rp1_0 hC fiX1_clear_1 hi mbX1_clear_7 dX1_clear_2 ?_
  refine wa_aload_n hC dX1_clear_5 rfl 0 rfl ?_
  refine wa_iconst (v := 0) hC dX1_clear_6 (by decide) ?_
  refine rp1_1 hC fiX1_clear_1 hi mbX1_clear_13 dX1_clear_7 ?_
  exact wa_vret hC hlk hr (so_inj hf) dX1_clear_10
abbrev rmX1_add : Room := { frames := 1, cells := 0, slots := 0, locals := 21 }
theorem fiX1_add_1 : ∀ w ∈ u_ws RX1 TX1 4, w ∈ wsX1_add := by decide +kernel
theorem mbX1_add_26 : Cond.fieldLink RX1 26 "BaroRuns$PointSum" "greatest" "I" ∈ wsX1_add := by decide +kernel
theorem mbX1_add_7 : Cond.fieldLink RX1 7 "BaroRuns$PointSum" "sum" "J" ∈ wsX1_add := by decide +kernel
theorem mbX1_add_13 : Cond.fieldLink RX1 13 "BaroRuns$PointSum" "number" "I" ∈ wsX1_add := by decide +kernel
theorem mbX1_add_17 : Cond.fieldLink RX1 17 "BaroRuns$PointSum" "least" "I" ∈ wsX1_add := by decide +kernel
theorem mbX1_add_29 : Cond.methodLink RX1 29 Lib.Math.max.name ∈ wsX1_add := by decide +kernel
theorem mbX1_add_st_max : Cond.static Lib.Math.max.name ∈ wsX1_add := by decide +kernel
theorem mbX1_add_ini_Math : Cond.initialized "java/lang/Math" ∈ wsX1_add := by decide +kernel
theorem mbX1_add_code_max : Cond.code Lib.Math.max.name Lib.Math.max.code 2 (some .int) ∈ wsX1_add := by decide +kernel
theorem mbX1_add_20 : Cond.methodLink RX1 20 Lib.Math.min.name ∈ wsX1_add := by decide +kernel
theorem mbX1_add_st_min : Cond.static Lib.Math.min.name ∈ wsX1_add := by decide +kernel
theorem mbX1_add_code_min : Cond.code Lib.Math.min.name Lib.Math.min.code 2 (some .int) ∈ wsX1_add := by decide +kernel
set_option maxHeartbeats 4000000 in
set_option maxRecDepth 100000 in
theorem kX1_add (l : Launch) (G : wG) {i : Nat} (hi : kd i = 1) {x1 : Int32} {M0 M1 : wM} (hf : fX1_add i x1 M0 = some M1) : mV l yX1_add wsX1_add rmX1_add G [.ref (ga G (i)), .int (x1)] M0 M1 := by
  refine mV.of (cc := cX1_add) (nL := 2) (ret := none) (own := RX1) (lv := [(0, .ref (ga G (i))), (1, .int (x1))]) (plainFor_of_name (by decide +kernel)) rfl rfl (Nat.le_of_ble_eq_true rfl) rfl ?_
  intro p e s m args below meth c hC hr hlk
  have hJ43 : ∀ (s1 : Int32) (M0 : wM), fX1_add_J43 i x1  s1 M0 = some M1 → wAt p l e rmX1_add s m args below meth c (qV below args s G M1) 2 G M0 43 [(0, .ref (ga G (i))), (1, .int (x1))] [.int (s1), .ref (ga G (i))] := by
    intro  s1 M0 hf
    unfold fX1_add_J43 at hf
    refine rp1_3 hC fiX1_add_1 hi mbX1_add_26 dX1_add_43 ?_
    refine wa_aload_n hC dX1_add_46 rfl 0 rfl ?_
    refine wa_dup hC dX1_add_47 rfl ?_
    refine rg1_0 hC fiX1_add_1 hi mbX1_add_7 dX1_add_48 ?_
    refine wa_iload_n hC dX1_add_51 rfl 1 rfl ?_
    refine wa_i2l hC dX1_add_52 rfl ?_
    refine wa_ladd hC dX1_add_53 ?_
    refine rp1_0 hC fiX1_add_1 hi mbX1_add_7 dX1_add_54 ?_
    refine wa_aload_n hC dX1_add_57 rfl 0 rfl ?_
    refine wa_dup hC dX1_add_58 rfl ?_
    refine rg1_1 hC fiX1_add_1 hi mbX1_add_13 dX1_add_59 ?_
    refine wa_iconst (v := 1) hC dX1_add_62 (by decide) ?_
    refine wa_iadd hC dX1_add_63 ?_
    refine rp1_1 hC fiX1_add_1 hi mbX1_add_13 dX1_add_64 ?_
    exact wa_vret hC hlk hr (so_inj hf) dX1_add_67
  have hJ20 : ∀ (s1 : Int32) (M0 : wM), fX1_add_J20 i x1  s1 M0 = some M1 → wAt p l e rmX1_add s m args below meth c (qV below args s G M1) 2 G M0 20 [(0, .ref (ga G (i))), (1, .int (x1))] [.int (s1), .ref (ga G (i))] := by
    intro  s1 M0 hf
    unfold fX1_add_J20 at hf
    refine rp1_2 hC fiX1_add_1 hi mbX1_add_17 dX1_add_20 ?_
    refine wa_aload_n hC dX1_add_23 rfl 0 rfl ?_
    refine wa_aload_n hC dX1_add_24 rfl 0 rfl ?_
    refine rg1_1 hC fiX1_add_1 hi mbX1_add_13 dX1_add_25 ?_
    refine wa_if_ne hC 35 dX1_add_28 (by decide) (fun c1 => ?_) (fun c1 => ?_)
    · have hf := ite_f hf c1
      refine wa_aload_n hC dX1_add_35 rfl 0 rfl ?_
      refine rg1_3 hC fiX1_add_1 hi mbX1_add_26 dX1_add_36 ?_
      refine wa_iload_n hC dX1_add_39 rfl 1 rfl ?_
      refine wa_max hC mbX1_add_29 mbX1_add_st_max mbX1_add_ini_Math mbX1_add_code_max (Nat.le_of_ble_eq_true rfl) (Nat.le_of_ble_eq_true rfl) dX1_add_40 ?_
      exact wa_sub [0, 1] rfl (hJ43  _ _ hf)
    · have hf := ite_t hf c1
      refine wa_iload_n hC dX1_add_31 rfl 1 rfl ?_
      refine wa_goto hC 43 dX1_add_32 (by decide) ?_
      exact wa_sub [0, 1] rfl (hJ43  _ _ hf)
  unfold fX1_add at hf
  refine wa_aload_n hC dX1_add_0 rfl 0 rfl ?_
  refine wa_aload_n hC dX1_add_1 rfl 0 rfl ?_
  refine rg1_1 hC fiX1_add_1 hi mbX1_add_13 dX1_add_2 ?_
  refine wa_if_ne hC 12 dX1_add_5 (by decide) (fun c2 => ?_) (fun c2 => ?_)
  · have hf := ite_f hf c2
    refine wa_aload_n hC dX1_add_12 rfl 0 rfl ?_
    refine rg1_2 hC fiX1_add_1 hi mbX1_add_17 dX1_add_13 ?_
    refine wa_iload_n hC dX1_add_16 rfl 1 rfl ?_
    refine wa_min hC mbX1_add_20 mbX1_add_st_min mbX1_add_ini_Math mbX1_add_code_min (Nat.le_of_ble_eq_true rfl) (Nat.le_of_ble_eq_true rfl) dX1_add_17 ?_
    exact wa_sub [0, 1] rfl (hJ20  _ _ hf)
  · have hf := ite_t hf c2
    refine wa_iload_n hC dX1_add_8 rfl 1 rfl ?_
    refine wa_goto hC 20 dX1_add_9 (by decide) ?_
    exact wa_sub [0, 1] rfl (hJ20  _ _ hf)
abbrev rmJ9_floorDiv_f86c9 : Room := { frames := 0, cells := 0, slots := 0, locals := 0 }
set_option maxHeartbeats 4000000 in
set_option maxRecDepth 100000 in
theorem kJ9_floorDiv_f86c9 (l : Launch) (G : wG) {x0 : Int64} {x2 : Int64} {M0 : wM} {r : Int64} (hf : fJ9_floorDiv_f86c9 x0 x2 M0 = some r) : mL l yJ9_floorDiv_f86c9 wsJ9_floorDiv_f86c9 rmJ9_floorDiv_f86c9 G [.long (x0), .long (x2)] M0 r M0 := by
  refine mL.of (cc := cJ9_floorDiv_f86c9) (nL := 6) (ret := (some .long)) (own := RJ9) (lv := [(0, .long (x0)), (2, .long (x2))]) (by decide +kernel) rfl rfl (Nat.le_of_ble_eq_true rfl) rfl ?_
  intro p e s m args below meth c hC hr hlk
  have hJ27 : ∀ (x4 : Int64), fJ9_floorDiv_f86c9_J27 x0 x2 M0  x4 = some r → wAt p l e rmJ9_floorDiv_f86c9 s m args below meth c (qL below args s G r M0) 6 G M0 27 [(4, .long (x4))] [] := by
    intro  x4 hf
    unfold fJ9_floorDiv_f86c9_J27 at hf
    refine wa_lload hC dJ9_floorDiv_f86c9_27 0 rfl ?_
    exact wa_lret hC hlk hr (so_inj hf) rfl dJ9_floorDiv_f86c9_29
  unfold fJ9_floorDiv_f86c9 at hf
  refine wa_lload_n hC dJ9_floorDiv_f86c9_0 rfl 0 rfl ?_
  refine wa_lload_n hC dJ9_floorDiv_f86c9_1 rfl 1 rfl ?_
  obtain ⟨v1, h1, hf⟩ := bd hf
  obtain ⟨hz1, rfl⟩ := dvL_some h1
  refine wa_ldiv hC dJ9_floorDiv_f86c9_2 hz1 ?_
  refine wa_lstore (lv' := [(4, .long _), (0, .long _), (2, .long _)]) hC dJ9_floorDiv_f86c9_3 (by decide) rfl ?_
  refine wa_lload_n hC dJ9_floorDiv_f86c9_5 rfl 1 rfl ?_
  refine wa_lload_n hC dJ9_floorDiv_f86c9_6 rfl 2 rfl ?_
  refine wa_lxor hC dJ9_floorDiv_f86c9_7 ?_
  refine wa_lconst (v := 0) hC dJ9_floorDiv_f86c9_8 (by decide) ?_
  refine wa_lcmp hC dJ9_floorDiv_f86c9_9 ?_
  refine wa_if_ge hC 27 dJ9_floorDiv_f86c9_10 (by decide) (fun c2 => ?_) (fun c2 => ?_)
  · have hf := ite_t hf c2
    exact wa_sub [0] rfl (hJ27  _ hf)
  · have hf := ite_f hf c2
    refine wa_lload hC dJ9_floorDiv_f86c9_13 0 rfl ?_
    refine wa_lload_n hC dJ9_floorDiv_f86c9_15 rfl 2 rfl ?_
    refine wa_lmul hC dJ9_floorDiv_f86c9_16 ?_
    refine wa_lload_n hC dJ9_floorDiv_f86c9_17 rfl 1 rfl ?_
    refine wa_lcmp hC dJ9_floorDiv_f86c9_18 ?_
    refine wa_if_eq hC 27 dJ9_floorDiv_f86c9_19 (by decide) (fun c3 => ?_) (fun c3 => ?_)
    · have hf := ite_t hf c3
      exact wa_sub [0] rfl (hJ27  _ hf)
    · have hf := ite_f hf c3
      refine wa_lload hC dJ9_floorDiv_f86c9_22 0 rfl ?_
      refine wa_lconst (v := 1) hC dJ9_floorDiv_f86c9_24 (by decide) ?_
      refine wa_lsub hC dJ9_floorDiv_f86c9_25 ?_
      exact wa_lret hC hlk hr (so_inj hf) rfl dJ9_floorDiv_f86c9_26
abbrev rmX6_divideDown : Room := { frames := 1, cells := 0, slots := 0, locals := 25 }
set_option maxHeartbeats 4000000 in
set_option maxRecDepth 100000 in
theorem kX6_divideDown (l : Launch) (G : wG) {x0 : Int64} {x2 : Int64} {M0 : wM} {r : Int64} (hf : fX6_divideDown x0 x2 M0 = some r) : mL l yX6_divideDown wsX6_divideDown rmX6_divideDown G [.long (x0), .long (x2)] M0 r M0 := by
  refine mL.of (cc := cX6_divideDown) (nL := 4) (ret := (some .long)) (own := RX6) (lv := [(0, .long (x0)), (2, .long (x2))]) (plainFor_of_name (by decide +kernel)) rfl rfl (Nat.le_of_ble_eq_true rfl) rfl ?_
  intro p e s m args below meth c hC hr hlk
  unfold fX6_divideDown at hf
  refine wa_lload_n hC dX6_divideDown_0 rfl 1 rfl ?_
  refine wa_lconst (v := 0) hC dX6_divideDown_1 (by decide) ?_
  refine wa_lcmp hC dX6_divideDown_2 ?_
  refine wa_if_ne hC 10 dX6_divideDown_3 (by decide) (fun c1 => ?_) (fun c1 => ?_)
  · have hf := ite_f hf c1
    refine wa_lload_n hC dX6_divideDown_10 rfl 0 rfl ?_
    refine wa_lload_n hC dX6_divideDown_11 rfl 1 rfl ?_
    obtain ⟨v2, h2, hf⟩ := bd hf
    refine wa_calll (rest := []) (wr_S hC (kJ9_floorDiv_f86c9 l G h2) (va_cwS 2 hC.1.2.2.2.2 gX6_divideDown_J9_floorDiv_f86c9 rfl rfl rfl (by decide +kernel) ⟨Nat.le_of_ble_eq_true rfl, Nat.le_of_ble_eq_true rfl⟩) rfl rfl (Nat.le_of_ble_eq_true rfl) dX6_divideDown_12) ?_
    exact wa_lret hC hlk hr (so_inj hf) rfl dX6_divideDown_15
  · have hf := ite_t hf c1
    refine wa_lconst (v := 0) hC dX6_divideDown_6 (by decide) ?_
    refine wa_goto hC 15 dX6_divideDown_7 (by decide) ?_
    exact wa_lret hC hlk hr (so_inj hf) rfl dX6_divideDown_15
abbrev rmX1_height : Room := { frames := 2, cells := 0, slots := 0, locals := 48 }
theorem fiX1_height_1 : ∀ w ∈ u_ws RX1 TX1 4, w ∈ wsX1_height := by decide +kernel
theorem mbX1_height_7 : Cond.fieldLink RX1 7 "BaroRuns$PointSum" "sum" "J" ∈ wsX1_height := by decide +kernel
theorem mbX1_height_13 : Cond.fieldLink RX1 13 "BaroRuns$PointSum" "number" "I" ∈ wsX1_height := by decide +kernel
theorem mbX1_height_s32 : Cond.static yX6_divideDown ∈ wsX1_height := by decide +kernel
theorem mbX1_height_i32 : Cond.initialized RX6 ∈ wsX1_height := by decide +kernel
set_option maxHeartbeats 4000000 in
set_option maxRecDepth 100000 in
theorem kX1_height (l : Launch) (G : wG) {i : Nat} (hi : kd i = 1) {M0 : wM} {r : Int32} (hf : fX1_height i M0 = some r) : mI l yX1_height wsX1_height rmX1_height G [.ref (ga G (i))] M0 r M0 := by
  refine mI.of (cc := cX1_height) (nL := 1) (ret := (some .int)) (own := RX1) (lv := [(0, .ref (ga G (i)))]) (plainFor_of_name (by decide +kernel)) rfl rfl (Nat.le_of_ble_eq_true rfl) rfl ?_
  intro p e s m args below meth c hC hr hlk
  unfold fX1_height at hf
  refine wa_aload_n hC dX1_height_0 rfl 0 rfl ?_
  refine rg1_0 hC fiX1_height_1 hi mbX1_height_7 dX1_height_1 ?_
  refine wa_aload_n hC dX1_height_4 rfl 0 rfl ?_
  refine rg1_1 hC fiX1_height_1 hi mbX1_height_13 dX1_height_5 ?_
  refine wa_i2l hC dX1_height_8 rfl ?_
  obtain ⟨v1, h1, hf⟩ := bd hf
  refine wa_calll (rest := []) (wr_SN hC (kX6_divideDown l G h1) ⟨va_cnB 2 hC.1.2.2.2.2 gX1_height_X6_divideDown_n32 rfl rfl rfl (nwm_PointSum_32 hC.2.2.2) (hC.1.2.2.2.2 _ mbX1_height_i32) (by decide +kernel) ⟨Nat.le_of_ble_eq_true rfl, Nat.le_of_ble_eq_true rfl⟩, hC.1.2.2.2.2 _ mbX1_height_s32, trivial⟩ rfl rfl (Nat.le_of_ble_eq_true rfl) dX1_height_9) ?_
  refine wa_l2i hC dX1_height_12 rfl ?_
  exact wa_iret hC hlk hr (so_inj hf) rfl dX1_height_13
abbrev rmX1_spread : Room := { frames := 0, cells := 0, slots := 0, locals := 0 }
theorem fiX1_spread_1 : ∀ w ∈ u_ws RX1 TX1 4, w ∈ wsX1_spread := by decide +kernel
theorem mbX1_spread_26 : Cond.fieldLink RX1 26 "BaroRuns$PointSum" "greatest" "I" ∈ wsX1_spread := by decide +kernel
theorem mbX1_spread_17 : Cond.fieldLink RX1 17 "BaroRuns$PointSum" "least" "I" ∈ wsX1_spread := by decide +kernel
set_option maxHeartbeats 4000000 in
set_option maxRecDepth 100000 in
theorem kX1_spread (l : Launch) (G : wG) {i : Nat} (hi : kd i = 1) {M0 : wM} {r : Int32} (hf : fX1_spread i M0 = some r) : mI l yX1_spread wsX1_spread rmX1_spread G [.ref (ga G (i))] M0 r M0 := by
  refine mI.of (cc := cX1_spread) (nL := 1) (ret := (some .int)) (own := RX1) (lv := [(0, .ref (ga G (i)))]) (plainFor_of_name (by decide +kernel)) rfl rfl (Nat.le_of_ble_eq_true rfl) rfl ?_
  intro p e s m args below meth c hC hr hlk
  unfold fX1_spread at hf
  refine wa_aload_n hC dX1_spread_0 rfl 0 rfl ?_
  refine rg1_3 hC fiX1_spread_1 hi mbX1_spread_26 dX1_spread_1 ?_
  refine wa_aload_n hC dX1_spread_4 rfl 0 rfl ?_
  refine rg1_2 hC fiX1_spread_1 hi mbX1_spread_17 dX1_spread_5 ?_
  refine wa_isub hC dX1_spread_8 ?_
  exact wa_iret hC hlk hr (so_inj hf) rfl dX1_spread_9
abbrev rmX2_track : Room := { frames := 0, cells := 0, slots := 0, locals := 0 }
theorem fiX2_track_2 : ∀ w ∈ u_ws RX2 TX2 7, w ∈ wsX2_track := by decide +kernel
theorem mbX2_track_20 : Cond.fieldLink RX2 20 "BaroRuns$State" "firstTrack" "LBaroRuns$Track;" ∈ wsX2_track := by decide +kernel
theorem mbX2_track_23 : Cond.fieldLink RX2 23 "BaroRuns$State" "secondTrack" "LBaroRuns$Track;" ∈ wsX2_track := by decide +kernel
theorem mbX2_track_26 : Cond.fieldLink RX2 26 "BaroRuns$State" "thirdTrack" "LBaroRuns$Track;" ∈ wsX2_track := by decide +kernel
theorem mbX2_track_14 : Cond.fieldLink RX2 14 "BaroRuns$State" "baseTrack" "LBaroRuns$Track;" ∈ wsX2_track := by decide +kernel
set_option maxHeartbeats 4000000 in
set_option maxRecDepth 100000 in
theorem kX2_track (l : Launch) (G : wG) {i : Nat} (hi : kd i = 2) {x1 : Int32} {M0 : wM} {r : Nat} (hf : fX2_track i x1 M0 = some r) : mR l yX2_track wsX2_track rmX2_track G [.ref (ga G (i)), .int (x1)] M0 r M0 := by
  refine mR.of (cc := cX2_track) (nL := 2) (ret := (some (.object "BaroRuns$Track"))) (own := RX2) (lv := [(0, .ref (ga G (i))), (1, .int (x1))]) (plainFor_of_name (by decide +kernel)) rfl rfl (Nat.le_of_ble_eq_true rfl) rfl ?_
  intro p e s m args below meth c hC hr hlk
  unfold fX2_track at hf
  refine wa_iload_n hC dX2_track_0 rfl 1 rfl ?_
  refine ite_e hf (fun c1 hf => ?_) (fun c1 hf => ?_)
  · skip
    refine wa_tableIn (off := 27) hC 28 dX2_track_1 (by rw [c1]; decide) (by rw [c1]; decide) (by rw [c1] <;> decide) (by decide) ?_
    refine wa_aload_n hC dX2_track_28 rfl 0 rfl ?_
    refine rg2_1 hC fiX2_track_2 hi mbX2_track_20 dX2_track_29 ?_
    exact wa_aret hC hlk hr (so_inj hf) rfl dX2_track_32
  · skip
    refine ite_e hf (fun c2 hf => ?_) (fun c2 hf => ?_)
    · skip
      refine wa_tableIn (off := 32) hC 33 dX2_track_1 (by rw [c2]; decide) (by rw [c2]; decide) (by rw [c2] <;> decide) (by decide) ?_
      refine wa_aload_n hC dX2_track_33 rfl 0 rfl ?_
      refine rg2_2 hC fiX2_track_2 hi mbX2_track_23 dX2_track_34 ?_
      exact wa_aret hC hlk hr (so_inj hf) rfl dX2_track_37
    · skip
      refine ite_e hf (fun c3 hf => ?_) (fun c3 hf => ?_)
      · skip
        refine wa_tableIn (off := 37) hC 38 dX2_track_1 (by rw [c3]; decide) (by rw [c3]; decide) (by rw [c3] <;> decide) (by decide) ?_
        refine wa_aload_n hC dX2_track_38 rfl 0 rfl ?_
        refine rg2_3 hC fiX2_track_2 hi mbX2_track_26 dX2_track_39 ?_
        exact wa_aret hC hlk hr (so_inj hf) rfl dX2_track_42
      · skip
        have n1 := ti_ne c1 (a := 0) (by decide)
        have n2 := ti_ne c2 (a := 1) (by decide)
        have n3 := ti_ne c3 (a := 2) (by decide)
        refine wa_tableOut hC 43 dX2_track_1 (by omega) (by decide) ?_
        refine wa_aload_n hC dX2_track_43 rfl 0 rfl ?_
        refine rg2_0 hC fiX2_track_2 hi mbX2_track_14 dX2_track_44 ?_
        exact wa_aret hC hlk hr (so_inj hf) rfl dX2_track_47
abbrev rmX2_setting : Room := { frames := 0, cells := 0, slots := 0, locals := 0 }
theorem fiX2_setting_2 : ∀ w ∈ u_ws RX2 TX2 7, w ∈ wsX2_setting := by decide +kernel
theorem mbX2_setting_29 : Cond.fieldLink RX2 29 "BaroRuns$State" "baseHeight" "I" ∈ wsX2_setting := by decide +kernel
theorem mbX2_setting_33 : Cond.fieldLink RX2 33 "BaroRuns$State" "gustLimit" "I" ∈ wsX2_setting := by decide +kernel
theorem mbX2_setting_36 : Cond.fieldLink RX2 36 "BaroRuns$State" "stepLimit" "I" ∈ wsX2_setting := by decide +kernel
set_option maxHeartbeats 4000000 in
set_option maxRecDepth 100000 in
theorem kX2_setting (l : Launch) (G : wG) {i : Nat} (hi : kd i = 2) {x1 : Int32} {M0 : wM} {r : Int32} (hf : fX2_setting i x1 M0 = some r) : mI l yX2_setting wsX2_setting rmX2_setting G [.ref (ga G (i)), .int (x1)] M0 r M0 := by
  refine mI.of (cc := cX2_setting) (nL := 2) (ret := (some .int)) (own := RX2) (lv := [(0, .ref (ga G (i))), (1, .int (x1))]) (plainFor_of_name (by decide +kernel)) rfl rfl (Nat.le_of_ble_eq_true rfl) rfl ?_
  intro p e s m args below meth c hC hr hlk
  unfold fX2_setting at hf
  refine wa_iload_n hC dX2_setting_0 rfl 1 rfl ?_
  refine ite_e hf (fun c1 hf => ?_) (fun c1 hf => ?_)
  · skip
    refine wa_lookup (off := 27) hC 28 dX2_setting_1 (by decide) (by rw [c1] <;> decide) (by decide) ?_
    refine wa_aload_n hC dX2_setting_28 rfl 0 rfl ?_
    refine rg2_4 hC fiX2_setting_2 hi mbX2_setting_29 dX2_setting_29 ?_
    exact wa_iret hC hlk hr (so_inj hf) rfl dX2_setting_32
  · skip
    refine ite_e hf (fun c2 hf => ?_) (fun c2 hf => ?_)
    · skip
      refine wa_lookup (off := 32) hC 33 dX2_setting_1 (by decide) (by rw [c2] <;> decide) (by decide) ?_
      refine wa_aload_n hC dX2_setting_33 rfl 0 rfl ?_
      refine rg2_5 hC fiX2_setting_2 hi mbX2_setting_33 dX2_setting_34 ?_
      exact wa_iret hC hlk hr (so_inj hf) rfl dX2_setting_37
    · skip
      refine wa_lookup (off := 37) hC 38 dX2_setting_1 (by decide) ((lv_osw c1 (by decide)).trans ((lv_osw c2 (by decide)).trans (rfl))) (by decide) ?_
      refine wa_aload_n hC dX2_setting_38 rfl 0 rfl ?_
      refine rg2_6 hC fiX2_setting_2 hi mbX2_setting_36 dX2_setting_39 ?_
      exact wa_iret hC hlk hr (so_inj hf) rfl dX2_setting_42
abbrev rmX2_putSetting : Room := { frames := 0, cells := 0, slots := 0, locals := 0 }
theorem fiX2_putSetting_2 : ∀ w ∈ u_ws RX2 TX2 7, w ∈ wsX2_putSetting := by decide +kernel
theorem mbX2_putSetting_29 : Cond.fieldLink RX2 29 "BaroRuns$State" "baseHeight" "I" ∈ wsX2_putSetting := by decide +kernel
theorem mbX2_putSetting_33 : Cond.fieldLink RX2 33 "BaroRuns$State" "gustLimit" "I" ∈ wsX2_putSetting := by decide +kernel
theorem mbX2_putSetting_36 : Cond.fieldLink RX2 36 "BaroRuns$State" "stepLimit" "I" ∈ wsX2_putSetting := by decide +kernel
set_option maxHeartbeats 4000000 in
set_option maxRecDepth 100000 in
theorem kX2_putSetting (l : Launch) (G : wG) {i : Nat} (hi : kd i = 2) {x1 : Int32} {x2 : Int32} {M0 M1 : wM} (hf : fX2_putSetting i x1 x2 M0 = some M1) : mV l yX2_putSetting wsX2_putSetting rmX2_putSetting G [.ref (ga G (i)), .int (x1), .int (x2)] M0 M1 := by
  refine mV.of (cc := cX2_putSetting) (nL := 3) (ret := none) (own := RX2) (lv := [(0, .ref (ga G (i))), (1, .int (x1)), (2, .int (x2))]) (plainFor_of_name (by decide +kernel)) rfl rfl (Nat.le_of_ble_eq_true rfl) rfl ?_
  intro p e s m args below meth c hC hr hlk
  unfold fX2_putSetting at hf
  refine wa_iload_n hC dX2_putSetting_0 rfl 1 rfl ?_
  refine ite_e hf (fun c1 hf => ?_) (fun c1 hf => ?_)
  · skip
    refine wa_lookup (off := 27) hC 28 dX2_putSetting_1 (by decide) (by rw [c1] <;> decide) (by decide) ?_
    refine wa_aload_n hC dX2_putSetting_28 rfl 0 rfl ?_
    refine wa_iload_n hC dX2_putSetting_29 rfl 2 rfl ?_
    refine rp2_4 hC fiX2_putSetting_2 hi mbX2_putSetting_29 dX2_putSetting_30 ?_
    refine wa_goto hC 49 dX2_putSetting_33 (by decide) ?_
    exact wa_vret hC hlk hr (so_inj hf) dX2_putSetting_49
  · skip
    refine ite_e hf (fun c2 hf => ?_) (fun c2 hf => ?_)
    · skip
      refine wa_lookup (off := 35) hC 36 dX2_putSetting_1 (by decide) (by rw [c2] <;> decide) (by decide) ?_
      refine wa_aload_n hC dX2_putSetting_36 rfl 0 rfl ?_
      refine wa_iload_n hC dX2_putSetting_37 rfl 2 rfl ?_
      refine rp2_5 hC fiX2_putSetting_2 hi mbX2_putSetting_33 dX2_putSetting_38 ?_
      refine wa_goto hC 49 dX2_putSetting_41 (by decide) ?_
      exact wa_vret hC hlk hr (so_inj hf) dX2_putSetting_49
    · skip
      refine wa_lookup (off := 43) hC 44 dX2_putSetting_1 (by decide) ((lv_osw c1 (by decide)).trans ((lv_osw c2 (by decide)).trans (rfl))) (by decide) ?_
      refine wa_aload_n hC dX2_putSetting_44 rfl 0 rfl ?_
      refine wa_iload_n hC dX2_putSetting_45 rfl 2 rfl ?_
      refine rp2_6 hC fiX2_putSetting_2 hi mbX2_putSetting_36 dX2_putSetting_46 ?_
      exact wa_vret hC hlk hr (so_inj hf) dX2_putSetting_49
abbrev rmX6_at : Room := { frames := 0, cells := 0, slots := 0, locals := 0 }
set_option maxHeartbeats 4000000 in
set_option maxRecDepth 100000 in
theorem kX6_at (l : Launch) (G : wG) {j0 : Nat} (hj0 : kd j0 = 20) {x1 : Int32} {M0 : wM} {r : Int32} (hf : fX6_at j0 x1 M0 = some r) : mI l yX6_at wsX6_at rmX6_at G [.ref (ga G (j0)), .int (x1)] M0 r M0 := by
  refine mI.of (cc := cX6_at) (nL := 2) (ret := (some .int)) (own := RX6) (lv := [(0, .ref (ga G (j0))), (1, .int (x1))]) (plainFor_of_name (by decide +kernel)) rfl rfl (Nat.le_of_ble_eq_true rfl) rfl ?_
  intro p e s m args below meth c hC hr hlk
  unfold fX6_at at hf
  refine wa_iload_n hC dX6_at_0 rfl 1 rfl ?_
  refine wa_if_lt hC 16 dX6_at_1 (by decide) (fun c1 => ?_) (fun c1 => ?_)
  · have hf := ite_t hf c1
    refine wa_iconst (v := 0) hC dX6_at_16 (by decide) ?_
    exact wa_iret hC hlk hr (so_inj hf) rfl dX6_at_17
  · have hf := ite_f hf c1
    refine wa_iload_n hC dX6_at_4 rfl 1 rfl ?_
    refine wa_aload_n hC dX6_at_5 rfl 0 rfl ?_
    refine wa_alen hC hj0 dX6_at_6 ?_
    refine wa_icmp_ge hC 16 dX6_at_7 (by decide) (fun c2 => ?_) (fun c2 => ?_)
    · have hf := ite_t hf c2
      refine wa_iconst (v := 0) hC dX6_at_16 (by decide) ?_
      exact wa_iret hC hlk hr (so_inj hf) rfl dX6_at_17
    · have hf := ite_f hf c2
      refine wa_aload_n hC dX6_at_10 rfl 0 rfl ?_
      refine wa_iload_n hC dX6_at_11 rfl 1 rfl ?_
      obtain ⟨k3, h3, hf⟩ := bd hf
      obtain ⟨hv3, rfl⟩ := ix_some h3
      refine wa_iald hC hj0 hv3 dX6_at_12 ?_
      refine wa_goto hC 17 dX6_at_13 (by decide) ?_
      exact wa_iret hC hlk hr (so_inj hf) rfl dX6_at_17
abbrev rmX5_value : Room := { frames := 1, cells := 0, slots := 0, locals := 21 }
theorem fiX5_value_5 : ∀ w ∈ u_ws RX5 TX5 3, w ∈ wsX5_value := by decide +kernel
theorem mbX5_value_9 : Cond.fieldLink RX5 9 "BaroRuns$Track" "values" "[I" ∈ wsX5_value := by decide +kernel
theorem mbX5_value_s25 : Cond.static yX6_at ∈ wsX5_value := by decide +kernel
theorem mbX5_value_i25 : Cond.initialized RX6 ∈ wsX5_value := by decide +kernel
set_option maxHeartbeats 4000000 in
set_option maxRecDepth 100000 in
theorem kX5_value (l : Launch) (G : wG) {i : Nat} (hi : kd i = 5) {x1 : Int32} {x2 : Int32} {M0 : wM} {r : Int32} (hf : fX5_value i x1 x2 M0 = some r) : mI l yX5_value wsX5_value rmX5_value G [.ref (ga G (i)), .int (x1), .int (x2)] M0 r M0 := by
  refine mI.of (cc := cX5_value) (nL := 3) (ret := (some .int)) (own := RX5) (lv := [(0, .ref (ga G (i))), (1, .int (x1)), (2, .int (x2))]) (plainFor_of_name (by decide +kernel)) rfl rfl (Nat.le_of_ble_eq_true rfl) rfl ?_
  intro p e s m args below meth c hC hr hlk
  unfold fX5_value at hf
  refine wa_aload_n hC dX5_value_0 rfl 0 rfl ?_
  refine rg5_0 hC fiX5_value_5 hi mbX5_value_9 dX5_value_1 ?_
  refine wa_iload_n hC dX5_value_4 rfl 1 rfl ?_
  refine wa_iconst (v := 4) hC dX5_value_5 (by decide) ?_
  refine wa_imul hC dX5_value_6 ?_
  refine wa_iload_n hC dX5_value_7 rfl 2 rfl ?_
  refine wa_iadd hC dX5_value_8 ?_
  obtain ⟨v1, h1, hf⟩ := bd hf
  refine wa_calli (rest := []) (wr_SN hC (kX6_at l G (kf5_0 hi) h1) ⟨va_cnB 2 hC.1.2.2.2.2 gX5_value_X6_at_n25 rfl rfl rfl (nwm_Track_25 hC.2.2.2) (hC.1.2.2.2.2 _ mbX5_value_i25) (by decide +kernel) ⟨Nat.le_of_ble_eq_true rfl, Nat.le_of_ble_eq_true rfl⟩, hC.1.2.2.2.2 _ mbX5_value_s25, trivial⟩ rfl rfl (Nat.le_of_ble_eq_true rfl) dX5_value_9) ?_
  exact wa_iret hC hlk hr (so_inj hf) rfl dX5_value_12
abbrev rmX2_baseValue : Room := { frames := 2, cells := 0, slots := 0, locals := 48 }
theorem fiX2_baseValue_2 : ∀ w ∈ u_ws RX2 TX2 7, w ∈ wsX2_baseValue := by decide +kernel
theorem fiX2_baseValue_5 : ∀ w ∈ u_ws RX5 TX5 3, w ∈ wsX2_baseValue := by decide +kernel
theorem mbX2_baseValue_14 : Cond.fieldLink RX2 14 "BaroRuns$State" "baseTrack" "LBaroRuns$Track;" ∈ wsX2_baseValue := by decide +kernel
theorem mbX2_baseValue_s51 : Cond.static yX6_divideDown ∈ wsX2_baseValue := by decide +kernel
theorem mbX2_baseValue_i51 : Cond.initialized RX6 ∈ wsX2_baseValue := by decide +kernel
theorem mbX2_baseValue_50 : Cond.constant RX2 50 (-2000000004) ∈ wsX2_baseValue := by decide +kernel
set_option maxHeartbeats 4000000 in
set_option maxRecDepth 100000 in
theorem kX2_baseValue (l : Launch) (G : wG) {i : Nat} (hi : kd i = 2) {x1 : Int32} {x2 : Int32} {M0 : wM} {r : Int32} (hf : fX2_baseValue i x1 x2 M0 = some r) : mI l yX2_baseValue wsX2_baseValue rmX2_baseValue G [.ref (ga G (i)), .int (x1), .int (x2)] M0 r M0 := by
  refine mI.of (cc := cX2_baseValue) (nL := 10) (ret := (some .int)) (own := RX2) (lv := [(0, .ref (ga G (i))), (1, .int (x1)), (2, .int (x2))]) (plainFor_of_name (by decide +kernel)) rfl rfl (Nat.le_of_ble_eq_true rfl) rfl ?_
  intro p e s m args below meth c hC hr hlk
  have hJ32 : ∀ (x3 : Int32), fX2_baseValue_J32 i x1 x2 M0  x3 = some r → wAt p l e rmX2_baseValue s m args below meth c (qI below args s G r M0) 10 G M0 32 [(0, .ref (ga G (i))), (1, .int (x1)), (2, .int (x2)), (3, .int (x3))] [] := by
    intro  x3 hf
    unfold fX2_baseValue_J32 at hf
    refine wa_iload_n hC dX2_baseValue_32 rfl 3 rfl ?_
    refine wa_aload_n hC dX2_baseValue_33 rfl 0 rfl ?_
    refine rg2_0 hC fiX2_baseValue_2 hi mbX2_baseValue_14 dX2_baseValue_34 ?_
    refine rgn5_2 hC fiX2_baseValue_5 (kf2_0 hi) (nwf_State_43 hC.2.2.2) dX2_baseValue_37 ?_
    refine wa_icmp_lt hC 46 dX2_baseValue_40 (by decide) (fun c1 => ?_) (fun c1 => ?_)
    · have hf := ite_t hf c1
      refine wa_aload_n hC dX2_baseValue_46 rfl 0 rfl ?_
      refine rg2_0 hC fiX2_baseValue_2 hi mbX2_baseValue_14 dX2_baseValue_47 ?_
      refine wa_iload_n hC dX2_baseValue_50 rfl 3 rfl ?_
      refine wa_iconst (v := 0) hC dX2_baseValue_51 (by decide) ?_
      obtain ⟨v2, h2, hf⟩ := bd hf
      refine wa_calli (rest := []) (wr_V hC (kX5_value l G (kf2_0 hi) h2) (cwV 2 hC.1.2.2.2.2 gX2_baseValue_X5_value rfl rfl rfl (by decide +kernel) ⟨Nat.le_of_ble_eq_true rfl, Nat.le_of_ble_eq_true rfl⟩) (kf2_0 hi) (by decide) (ce5 (kf2_0 hi)) rfl rfl rfl rfl (Nat.le_of_ble_eq_true rfl) dX2_baseValue_52) ?_
      refine wa_istore (lv' := [(4, .int _), (0, .ref _), (1, .int _), (2, .int _), (3, .int _)]) hC dX2_baseValue_55 (by decide) rfl ?_
      refine wa_aload_n hC dX2_baseValue_57 rfl 1 rfl ?_
      refine rg2_0 hC fiX2_baseValue_2 hi mbX2_baseValue_14 dX2_baseValue_58 ?_
      refine wa_iload_n hC dX2_baseValue_61 rfl 4 rfl ?_
      refine wa_iload_n hC dX2_baseValue_62 rfl 3 rfl ?_
      obtain ⟨v3, h3, hf⟩ := bd hf
      refine wa_calli (rest := []) (wr_V hC (kX5_value l G (kf2_0 hi) h3) (cwV 2 hC.1.2.2.2.2 gX2_baseValue_X5_value rfl rfl rfl (by decide +kernel) ⟨Nat.le_of_ble_eq_true rfl, Nat.le_of_ble_eq_true rfl⟩) (kf2_0 hi) (by decide) (ce5 (kf2_0 hi)) rfl rfl rfl rfl (Nat.le_of_ble_eq_true rfl) dX2_baseValue_63) ?_
      refine wa_istore (lv' := [(5, .int _), (4, .int _), (0, .ref _), (1, .int _), (2, .int _), (3, .int _)]) hC dX2_baseValue_66 (by decide) rfl ?_
      refine wa_iload hC dX2_baseValue_68 1 rfl ?_
      refine wa_iload_n hC dX2_baseValue_70 rfl 3 rfl ?_
      refine wa_icmp_ne hC 77 dX2_baseValue_71 (by decide) (fun c4 => ?_) (fun c4 => ?_)
      · have hf := ite_f hf c4
        refine wa_iload_n hC dX2_baseValue_77 rfl 5 rfl ?_
        refine wa_if_ne hC 84 dX2_baseValue_78 (by decide) (fun c5 => ?_) (fun c5 => ?_)
        · have hf := ite_f hf c5
          refine wa_aload_n hC dX2_baseValue_84 rfl 2 rfl ?_
          refine rg2_0 hC fiX2_baseValue_2 hi mbX2_baseValue_14 dX2_baseValue_85 ?_
          refine wa_iload_n hC dX2_baseValue_88 rfl 5 rfl ?_
          refine wa_iconst (v := 1) hC dX2_baseValue_89 (by decide) ?_
          refine wa_isub hC dX2_baseValue_90 ?_
          refine wa_iconst (v := 0) hC dX2_baseValue_91 (by decide) ?_
          obtain ⟨v6, h6, hf⟩ := bd hf
          refine wa_calli (rest := []) (wr_V hC (kX5_value l G (kf2_0 hi) h6) (cwV 2 hC.1.2.2.2.2 gX2_baseValue_X5_value rfl rfl rfl (by decide +kernel) ⟨Nat.le_of_ble_eq_true rfl, Nat.le_of_ble_eq_true rfl⟩) (kf2_0 hi) (by decide) (ce5 (kf2_0 hi)) rfl rfl rfl rfl (Nat.le_of_ble_eq_true rfl) dX2_baseValue_92) ?_
          refine wa_istore (lv' := [(6, .int _), (5, .int _), (4, .int _), (0, .ref _), (1, .int _), (2, .int _), (3, .int _)]) hC dX2_baseValue_95 (by decide) rfl ?_
          refine wa_aload_n hC dX2_baseValue_97 rfl 3 rfl ?_
          refine rg2_0 hC fiX2_baseValue_2 hi mbX2_baseValue_14 dX2_baseValue_98 ?_
          refine wa_iload_n hC dX2_baseValue_101 rfl 6 rfl ?_
          refine wa_iconst (v := 1) hC dX2_baseValue_102 (by decide) ?_
          refine wa_isub hC dX2_baseValue_103 ?_
          refine wa_iload_n hC dX2_baseValue_104 rfl 5 rfl ?_
          obtain ⟨v7, h7, hf⟩ := bd hf
          refine wa_calli (rest := []) (wr_V hC (kX5_value l G (kf2_0 hi) h7) (cwV 2 hC.1.2.2.2.2 gX2_baseValue_X5_value rfl rfl rfl (by decide +kernel) ⟨Nat.le_of_ble_eq_true rfl, Nat.le_of_ble_eq_true rfl⟩) (kf2_0 hi) (by decide) (ce5 (kf2_0 hi)) rfl rfl rfl rfl (Nat.le_of_ble_eq_true rfl) dX2_baseValue_105) ?_
          refine wa_istore (lv' := [(7, .int _), (6, .int _), (5, .int _), (4, .int _), (0, .ref _), (1, .int _), (2, .int _), (3, .int _)]) hC dX2_baseValue_108 (by decide) rfl ?_
          refine wa_iload hC dX2_baseValue_110 2 rfl ?_
          refine wa_iload hC dX2_baseValue_112 0 rfl ?_
          refine wa_isub hC dX2_baseValue_114 ?_
          refine wa_i2l hC dX2_baseValue_115 rfl ?_
          refine wa_iload_n hC dX2_baseValue_116 rfl 5 rfl ?_
          refine wa_iload hC dX2_baseValue_117 1 rfl ?_
          refine wa_isub hC dX2_baseValue_119 ?_
          refine wa_i2l hC dX2_baseValue_120 rfl ?_
          refine wa_lmul hC dX2_baseValue_121 ?_
          refine wa_lstore (lv' := [(8, .long _), (7, .int _), (6, .int _), (5, .int _), (4, .int _), (0, .ref _), (1, .int _), (2, .int _), (3, .int _)]) hC dX2_baseValue_122 (by decide) rfl ?_
          refine wa_iload hC dX2_baseValue_124 1 rfl ?_
          refine wa_i2l hC dX2_baseValue_126 rfl ?_
          refine wa_lload hC dX2_baseValue_127 0 rfl ?_
          refine wa_iload hC dX2_baseValue_129 4 rfl ?_
          refine wa_iload hC dX2_baseValue_131 2 rfl ?_
          refine wa_isub hC dX2_baseValue_133 ?_
          refine wa_i2l hC dX2_baseValue_134 rfl ?_
          obtain ⟨v8, h8, hf⟩ := bd hf
          refine wa_calll (rest := [_]) (wr_SN hC (kX6_divideDown l G h8) ⟨va_cnB 2 hC.1.2.2.2.2 gX2_baseValue_X6_divideDown_n51 rfl rfl rfl (nwm_State_51 hC.2.2.2) (hC.1.2.2.2.2 _ mbX2_baseValue_i51) (by decide +kernel) ⟨Nat.le_of_ble_eq_true rfl, Nat.le_of_ble_eq_true rfl⟩, hC.1.2.2.2.2 _ mbX2_baseValue_s51, trivial⟩ rfl rfl (Nat.le_of_ble_eq_true rfl) dX2_baseValue_135) ?_
          refine wa_ladd hC dX2_baseValue_138 ?_
          refine wa_l2i hC dX2_baseValue_139 rfl ?_
          exact wa_iret hC hlk hr (so_inj hf) rfl dX2_baseValue_140
        · have hf := ite_t hf c5
          refine wa_ldc hC mbX2_baseValue_50 dX2_baseValue_81 ?_
          exact wa_iret hC hlk hr (so_inj hf) rfl dX2_baseValue_83
      · have hf := ite_t hf c4
        refine wa_iload hC dX2_baseValue_74 0 rfl ?_
        exact wa_iret hC hlk hr (so_inj hf) rfl dX2_baseValue_76
    · have hf := ite_f hf c1
      refine wa_ldc hC mbX2_baseValue_50 dX2_baseValue_43 ?_
      exact wa_iret hC hlk hr (so_inj hf) rfl dX2_baseValue_45
  have hB2 : ∀ (bk2 : Int32 → Option Int32) (hbk2 : (∀ (x3 : Int32), bk2 x3 = some r → wAt p l e rmX2_baseValue s m args below meth c (qI below args s G r M0) 10 G M0 2 [(0, .ref (ga G (i))), (1, .int (x1)), (2, .int (x2)), (3, .int (x3))] [])) (x3 : Int32), fX2_baseValue_B2 i x1 x2 M0 bk2 x3 = some r → wAt p l e rmX2_baseValue s m args below meth c (qI below args s G r M0) 10 G M0 2 [(0, .ref (ga G (i))), (1, .int (x1)), (2, .int (x2)), (3, .int (x3))] [] := by
    intro bk2 hbk2 x3 hf
    unfold fX2_baseValue_B2 at hf
    refine wa_iload_n hC dX2_baseValue_2 rfl 3 rfl ?_
    refine wa_aload_n hC dX2_baseValue_3 rfl 0 rfl ?_
    refine rg2_0 hC fiX2_baseValue_2 hi mbX2_baseValue_14 dX2_baseValue_4 ?_
    refine rgn5_2 hC fiX2_baseValue_5 (kf2_0 hi) (nwf_State_43 hC.2.2.2) dX2_baseValue_7 ?_
    refine wa_icmp_ge hC 32 dX2_baseValue_10 (by decide) (fun c9 => ?_) (fun c9 => ?_)
    · have hf := ite_t hf c9
      exact wa_sub [0, 1, 2, 3] rfl (hJ32  _ hf)
    · have hf := ite_f hf c9
      refine wa_aload_n hC dX2_baseValue_13 rfl 0 rfl ?_
      refine rg2_0 hC fiX2_baseValue_2 hi mbX2_baseValue_14 dX2_baseValue_14 ?_
      refine wa_iload_n hC dX2_baseValue_17 rfl 3 rfl ?_
      refine wa_iconst (v := 0) hC dX2_baseValue_18 (by decide) ?_
      obtain ⟨v10, h10, hf⟩ := bd hf
      refine wa_calli (rest := []) (wr_V hC (kX5_value l G (kf2_0 hi) h10) (cwV 2 hC.1.2.2.2.2 gX2_baseValue_X5_value rfl rfl rfl (by decide +kernel) ⟨Nat.le_of_ble_eq_true rfl, Nat.le_of_ble_eq_true rfl⟩) (kf2_0 hi) (by decide) (ce5 (kf2_0 hi)) rfl rfl rfl rfl (Nat.le_of_ble_eq_true rfl) dX2_baseValue_19) ?_
      refine wa_iload_n hC dX2_baseValue_22 rfl 1 rfl ?_
      refine wa_icmp_ge hC 32 dX2_baseValue_23 (by decide) (fun c11 => ?_) (fun c11 => ?_)
      · have hf := ite_t hf c11
        exact wa_sub [0, 1, 2, 3] rfl (hJ32  _ hf)
      · have hf := ite_f hf c11
        refine wa_iinc (v := _ + 1) (lv' := [(3, .int _), (0, .ref _), (1, .int _), (2, .int _)]) hC dX2_baseValue_26 (t := 3) rfl rfl (by decide) rfl ?_
        refine wa_goto hC 2 dX2_baseValue_29 (by decide) ?_
        exact wa_sub [1, 2, 3, 0] rfl (hbk2 _ hf)
  have hL2 : ∀ (n : Nat) (x3 : Int32), fX2_baseValue_L2 i x1 x2 M0  n x3 = some r → wAt p l e rmX2_baseValue s m args below meth c (qI below args s G r M0) 10 G M0 2 [(0, .ref (ga G (i))), (1, .int (x1)), (2, .int (x2)), (3, .int (x3))] [] := by
    intro  n
    induction n with
    | zero =>
      intro x3 hf
      exact absurd hf (by simp [fX2_baseValue_L2])
    | succ n ih =>
      intro x3 hf
      exact hB2  (fX2_baseValue_L2 i x1 x2 M0  n) ih x3 hf
  unfold fX2_baseValue at hf
  refine wa_iconst (v := 0) hC dX2_baseValue_0 (by decide) ?_
  refine wa_istore_n (lv' := [(3, .int _), (0, .ref _), (1, .int _), (2, .int _)]) hC dX2_baseValue_1 rfl (by decide) rfl ?_
  exact wa_sub [1, 2, 3, 0] rfl (hL2 FU _ hf)
abbrev rmJ9_floorDiv_7cf53 : Room := { frames := 0, cells := 0, slots := 0, locals := 0 }
set_option maxHeartbeats 4000000 in
set_option maxRecDepth 100000 in
theorem kJ9_floorDiv_7cf53 (l : Launch) (G : wG) {x0 : Int32} {x1 : Int32} {M0 : wM} {r : Int32} (hf : fJ9_floorDiv_7cf53 x0 x1 M0 = some r) : mI l yJ9_floorDiv_7cf53 wsJ9_floorDiv_7cf53 rmJ9_floorDiv_7cf53 G [.int (x0), .int (x1)] M0 r M0 := by
  refine mI.of (cc := cJ9_floorDiv_7cf53) (nL := 3) (ret := (some .int)) (own := RJ9) (lv := [(0, .int (x0)), (1, .int (x1))]) (by decide +kernel) rfl rfl (Nat.le_of_ble_eq_true rfl) rfl ?_
  intro p e s m args below meth c hC hr hlk
  unfold fJ9_floorDiv_7cf53 at hf
  refine wa_iload_n hC dJ9_floorDiv_7cf53_0 rfl 0 rfl ?_
  refine wa_iload_n hC dJ9_floorDiv_7cf53_1 rfl 1 rfl ?_
  obtain ⟨v1, h1, hf⟩ := bd hf
  obtain ⟨hz1, rfl⟩ := dvI_some h1
  refine wa_idiv hC dJ9_floorDiv_7cf53_2 hz1 ?_
  refine wa_istore_n (lv' := [(2, .int _), (0, .int _), (1, .int _)]) hC dJ9_floorDiv_7cf53_3 rfl (by decide) rfl ?_
  refine wa_iload_n hC dJ9_floorDiv_7cf53_4 rfl 1 rfl ?_
  refine wa_iload_n hC dJ9_floorDiv_7cf53_5 rfl 2 rfl ?_
  refine wa_ixor hC dJ9_floorDiv_7cf53_6 ?_
  refine wa_if_ge hC 21 dJ9_floorDiv_7cf53_7 (by decide) (fun c2 => ?_) (fun c2 => ?_)
  · have hf := ite_t hf c2
    refine wa_iload_n hC dJ9_floorDiv_7cf53_21 rfl 0 rfl ?_
    exact wa_iret hC hlk hr (so_inj hf) rfl dJ9_floorDiv_7cf53_22
  · have hf := ite_f hf c2
    refine wa_iload_n hC dJ9_floorDiv_7cf53_10 rfl 0 rfl ?_
    refine wa_iload_n hC dJ9_floorDiv_7cf53_11 rfl 2 rfl ?_
    refine wa_imul hC dJ9_floorDiv_7cf53_12 ?_
    refine wa_iload_n hC dJ9_floorDiv_7cf53_13 rfl 1 rfl ?_
    refine wa_icmp_eq hC 21 dJ9_floorDiv_7cf53_14 (by decide) (fun c3 => ?_) (fun c3 => ?_)
    · have hf := ite_t hf c3
      refine wa_iload_n hC dJ9_floorDiv_7cf53_21 rfl 0 rfl ?_
      exact wa_iret hC hlk hr (so_inj hf) rfl dJ9_floorDiv_7cf53_22
    · have hf := ite_f hf c3
      refine wa_iload_n hC dJ9_floorDiv_7cf53_17 rfl 0 rfl ?_
      refine wa_iconst (v := 1) hC dJ9_floorDiv_7cf53_18 (by decide) ?_
      refine wa_isub hC dJ9_floorDiv_7cf53_19 ?_
      exact wa_iret hC hlk hr (so_inj hf) rfl dJ9_floorDiv_7cf53_20
abbrev rmX2_heightAt : Room := { frames := 3, cells := 0, slots := 0, locals := 77 }
theorem fiX2_heightAt_2 : ∀ w ∈ u_ws RX2 TX2 7, w ∈ wsX2_heightAt := by decide +kernel
theorem mbX2_heightAt_50 : Cond.constant RX2 50 (-2000000004) ∈ wsX2_heightAt := by decide +kernel
theorem mbX2_heightAt_63 : Cond.constantLong RX2 63 (2930) ∈ wsX2_heightAt := by decide +kernel
theorem mbX2_heightAt_29 : Cond.fieldLink RX2 29 "BaroRuns$State" "baseHeight" "I" ∈ wsX2_heightAt := by decide +kernel
theorem mbX2_heightAt_s51 : Cond.static yX6_divideDown ∈ wsX2_heightAt := by decide +kernel
theorem mbX2_heightAt_i51 : Cond.initialized RX6 ∈ wsX2_heightAt := by decide +kernel
set_option maxHeartbeats 4000000 in
set_option maxRecDepth 100000 in
theorem kX2_heightAt (l : Launch) (G : wG) {i : Nat} (hi : kd i = 2) {x1 : Int32} {x2 : Int32} {x3 : Int32} {M0 : wM} {r : Int32} (hf : fX2_heightAt i x1 x2 x3 M0 = some r) : mI l yX2_heightAt wsX2_heightAt rmX2_heightAt G [.ref (ga G (i)), .int (x1), .int (x2), .int (x3)] M0 r M0 := by
  refine mI.of (cc := cX2_heightAt) (nL := 12) (ret := (some .int)) (own := RX2) (lv := [(0, .ref (ga G (i))), (1, .int (x1)), (2, .int (x2)), (3, .int (x3))]) (plainFor_of_name (by decide +kernel)) rfl rfl (Nat.le_of_ble_eq_true rfl) rfl ?_
  intro p e s m args below meth c hC hr hlk
  unfold fX2_heightAt at hf
  refine wa_aload_n hC dX2_heightAt_0 rfl 0 rfl ?_
  refine wa_iload_n hC dX2_heightAt_1 rfl 1 rfl ?_
  refine wa_iconst (v := 1) hC dX2_heightAt_2 (by decide) ?_
  obtain ⟨v1, h1, hf⟩ := bd hf
  refine wa_calli (rest := []) (wr_V hC (kX2_baseValue l G hi h1) (cwV 2 hC.1.2.2.2.2 gX2_heightAt_X2_baseValue rfl rfl rfl (by decide +kernel) ⟨Nat.le_of_ble_eq_true rfl, Nat.le_of_ble_eq_true rfl⟩) hi (by decide) (ce2 hi) rfl rfl rfl rfl (Nat.le_of_ble_eq_true rfl) dX2_heightAt_3) ?_
  refine wa_istore (lv' := [(4, .int _), (0, .ref _), (1, .int _), (2, .int _), (3, .int _)]) hC dX2_heightAt_6 (by decide) rfl ?_
  refine wa_iload hC dX2_heightAt_8 0 rfl ?_
  refine wa_ldc hC mbX2_heightAt_50 dX2_heightAt_10 ?_
  refine wa_icmp_ne hC 18 dX2_heightAt_12 (by decide) (fun c2 => ?_) (fun c2 => ?_)
  · have hf := ite_f hf c2
    refine wa_aload_n hC dX2_heightAt_18 rfl 1 rfl ?_
    refine wa_iload_n hC dX2_heightAt_19 rfl 2 rfl ?_
    refine wa_iconst (v := 2) hC dX2_heightAt_20 (by decide) ?_
    obtain ⟨v3, h3, hf⟩ := bd hf
    refine wa_calli (rest := []) (wr_V hC (kX2_baseValue l G hi h3) (cwV 2 hC.1.2.2.2.2 gX2_heightAt_X2_baseValue rfl rfl rfl (by decide +kernel) ⟨Nat.le_of_ble_eq_true rfl, Nat.le_of_ble_eq_true rfl⟩) hi (by decide) (ce2 hi) rfl rfl rfl rfl (Nat.le_of_ble_eq_true rfl) dX2_heightAt_21) ?_
    refine wa_istore (lv' := [(5, .int _), (4, .int _), (0, .ref _), (1, .int _), (2, .int _), (3, .int _)]) hC dX2_heightAt_24 (by decide) rfl ?_
    refine wa_sipush (v := 2732) hC dX2_heightAt_26 (by decide) ?_
    refine wa_iload hC dX2_heightAt_29 0 rfl ?_
    refine wa_iload_n hC dX2_heightAt_31 rfl 5 rfl ?_
    refine wa_iadd hC dX2_heightAt_32 ?_
    refine wa_iconst (v := 2) hC dX2_heightAt_33 (by decide) ?_
    obtain ⟨v4, h4, hf⟩ := bd hf
    refine wa_calli (rest := [_]) (wr_S hC (kJ9_floorDiv_7cf53 l G h4) (va_cwS 2 hC.1.2.2.2.2 gX2_heightAt_J9_floorDiv_7cf53 rfl rfl rfl (by decide +kernel) ⟨Nat.le_of_ble_eq_true rfl, Nat.le_of_ble_eq_true rfl⟩) rfl rfl (Nat.le_of_ble_eq_true rfl) dX2_heightAt_34) ?_
    refine wa_iadd hC dX2_heightAt_37 ?_
    refine wa_i2l hC dX2_heightAt_38 rfl ?_
    refine wa_lstore (lv' := [(6, .long _), (5, .int _), (4, .int _), (0, .ref _), (1, .int _), (2, .int _), (3, .int _)]) hC dX2_heightAt_39 (by decide) rfl ?_
    refine wa_iload hC dX2_heightAt_41 2 rfl ?_
    refine wa_iload_n hC dX2_heightAt_43 rfl 5 rfl ?_
    refine wa_iadd hC dX2_heightAt_44 ?_
    refine wa_iconst (v := 2) hC dX2_heightAt_45 (by decide) ?_
    obtain ⟨v5, h5, hf⟩ := bd hf
    refine wa_calli (rest := []) (wr_S hC (kJ9_floorDiv_7cf53 l G h5) (va_cwS 2 hC.1.2.2.2.2 gX2_heightAt_J9_floorDiv_7cf53 rfl rfl rfl (by decide +kernel) ⟨Nat.le_of_ble_eq_true rfl, Nat.le_of_ble_eq_true rfl⟩) rfl rfl (Nat.le_of_ble_eq_true rfl) dX2_heightAt_46) ?_
    refine wa_i2l hC dX2_heightAt_49 rfl ?_
    refine wa_lstore (lv' := [(8, .long _), (6, .long _), (5, .int _), (4, .int _), (0, .ref _), (1, .int _), (2, .int _), (3, .int _)]) hC dX2_heightAt_50 (by decide) rfl ?_
    refine wa_ldc2 hC mbX2_heightAt_63 dX2_heightAt_52 ?_
    refine wa_lload hC dX2_heightAt_55 1 rfl ?_
    refine wa_lmul hC dX2_heightAt_57 ?_
    refine wa_iload hC dX2_heightAt_58 3 rfl ?_
    refine wa_iload_n hC dX2_heightAt_60 rfl 6 rfl ?_
    refine wa_isub hC dX2_heightAt_61 ?_
    refine wa_i2l hC dX2_heightAt_62 rfl ?_
    refine wa_lmul hC dX2_heightAt_63 ?_
    refine wa_lstore (lv' := [(10, .long _), (8, .long _), (6, .long _), (5, .int _), (4, .int _), (0, .ref _), (1, .int _), (2, .int _), (3, .int _)]) hC dX2_heightAt_64 (by decide) rfl ?_
    refine wa_aload_n hC dX2_heightAt_66 rfl 5 rfl ?_
    refine rg2_4 hC fiX2_heightAt_2 hi mbX2_heightAt_29 dX2_heightAt_67 ?_
    refine wa_i2l hC dX2_heightAt_70 rfl ?_
    refine wa_lload hC dX2_heightAt_71 0 rfl ?_
    refine wa_lload hC dX2_heightAt_73 1 rfl ?_
    obtain ⟨v6, h6, hf⟩ := bd hf
    refine wa_calll (rest := [_]) (wr_SN hC (kX6_divideDown l G h6) ⟨va_cnB 2 hC.1.2.2.2.2 gX2_heightAt_X6_divideDown_n51 rfl rfl rfl (nwm_State_51 hC.2.2.2) (hC.1.2.2.2.2 _ mbX2_heightAt_i51) (by decide +kernel) ⟨Nat.le_of_ble_eq_true rfl, Nat.le_of_ble_eq_true rfl⟩, hC.1.2.2.2.2 _ mbX2_heightAt_s51, trivial⟩ rfl rfl (Nat.le_of_ble_eq_true rfl) dX2_heightAt_75) ?_
    refine wa_ladd hC dX2_heightAt_78 ?_
    refine wa_l2i hC dX2_heightAt_79 rfl ?_
    exact wa_iret hC hlk hr (so_inj hf) rfl dX2_heightAt_80
  · have hf := ite_t hf c2
    refine wa_ldc hC mbX2_heightAt_50 dX2_heightAt_15 ?_
    exact wa_iret hC hlk hr (so_inj hf) rfl dX2_heightAt_17
abbrev rmX2_isStepEnd : Room := { frames := 2, cells := 0, slots := 0, locals := 43 }
theorem fiX2_isStepEnd_2 : ∀ w ∈ u_ws RX2 TX2 7, w ∈ wsX2_isStepEnd := by decide +kernel
theorem mbX2_isStepEnd_14 : Cond.fieldLink RX2 14 "BaroRuns$State" "baseTrack" "LBaroRuns$Track;" ∈ wsX2_isStepEnd := by decide +kernel
theorem mbX2_isStepEnd_65 : Cond.methodLink RX2 65 Lib.Math.abs.name ∈ wsX2_isStepEnd := by decide +kernel
theorem mbX2_isStepEnd_st_abs : Cond.static Lib.Math.abs.name ∈ wsX2_isStepEnd := by decide +kernel
theorem mbX2_isStepEnd_ini_Math : Cond.initialized "java/lang/Math" ∈ wsX2_isStepEnd := by decide +kernel
theorem mbX2_isStepEnd_code_abs : Cond.code Lib.Math.abs.name Lib.Math.abs.code 1 (some .int) ∈ wsX2_isStepEnd := by decide +kernel
theorem mbX2_isStepEnd_36 : Cond.fieldLink RX2 36 "BaroRuns$State" "stepLimit" "I" ∈ wsX2_isStepEnd := by decide +kernel
set_option maxHeartbeats 4000000 in
set_option maxRecDepth 100000 in
theorem kX2_isStepEnd (l : Launch) (G : wG) {i : Nat} (hi : kd i = 2) {x1 : Int32} {M0 : wM} {b : Bool} (hf : fX2_isStepEnd i x1 M0 = some b) : mI l yX2_isStepEnd wsX2_isStepEnd rmX2_isStepEnd G [.ref (ga G (i)), .int (x1)] M0 (b2 b) M0 := by
  refine mI.of (cc := cX2_isStepEnd) (nL := 3) (ret := (some .boolean)) (own := RX2) (lv := [(0, .ref (ga G (i))), (1, .int (x1))]) (plainFor_of_name (by decide +kernel)) rfl rfl (Nat.le_of_ble_eq_true rfl) rfl ?_
  intro p e s m args below meth c hC hr hlk
  unfold fX2_isStepEnd at hf
  refine wa_aload_n hC dX2_isStepEnd_0 rfl 0 rfl ?_
  refine rg2_0 hC fiX2_isStepEnd_2 hi mbX2_isStepEnd_14 dX2_isStepEnd_1 ?_
  refine wa_iload_n hC dX2_isStepEnd_4 rfl 1 rfl ?_
  refine wa_iconst (v := 2) hC dX2_isStepEnd_5 (by decide) ?_
  obtain ⟨v1, h1, hf⟩ := bd hf
  refine wa_calli (rest := []) (wr_V hC (kX5_value l G (kf2_0 hi) h1) (cwV 2 hC.1.2.2.2.2 gX2_isStepEnd_X5_value rfl rfl rfl (by decide +kernel) ⟨Nat.le_of_ble_eq_true rfl, Nat.le_of_ble_eq_true rfl⟩) (kf2_0 hi) (by decide) (ce5 (kf2_0 hi)) rfl rfl rfl rfl (Nat.le_of_ble_eq_true rfl) dX2_isStepEnd_6) ?_
  refine wa_aload_n hC dX2_isStepEnd_9 rfl 0 rfl ?_
  refine rg2_0 hC fiX2_isStepEnd_2 hi mbX2_isStepEnd_14 dX2_isStepEnd_10 ?_
  refine wa_iload_n hC dX2_isStepEnd_13 rfl 1 rfl ?_
  refine wa_iconst (v := 1) hC dX2_isStepEnd_14 (by decide) ?_
  refine wa_isub hC dX2_isStepEnd_15 ?_
  refine wa_iconst (v := 2) hC dX2_isStepEnd_16 (by decide) ?_
  obtain ⟨v2, h2, hf⟩ := bd hf
  refine wa_calli (rest := [_]) (wr_V hC (kX5_value l G (kf2_0 hi) h2) (cwV 2 hC.1.2.2.2.2 gX2_isStepEnd_X5_value rfl rfl rfl (by decide +kernel) ⟨Nat.le_of_ble_eq_true rfl, Nat.le_of_ble_eq_true rfl⟩) (kf2_0 hi) (by decide) (ce5 (kf2_0 hi)) rfl rfl rfl rfl (Nat.le_of_ble_eq_true rfl) dX2_isStepEnd_17) ?_
  refine wa_isub hC dX2_isStepEnd_20 ?_
  refine wa_istore_n (lv' := [(2, .int _), (0, .ref _), (1, .int _)]) hC dX2_isStepEnd_21 rfl (by decide) rfl ?_
  refine wa_iload_n hC dX2_isStepEnd_22 rfl 0 rfl ?_
  refine wa_abs hC mbX2_isStepEnd_65 mbX2_isStepEnd_st_abs mbX2_isStepEnd_ini_Math mbX2_isStepEnd_code_abs (Nat.le_of_ble_eq_true rfl) (Nat.le_of_ble_eq_true rfl) dX2_isStepEnd_23 ?_
  refine wa_aload_n hC dX2_isStepEnd_26 rfl 1 rfl ?_
  refine rg2_6 hC fiX2_isStepEnd_2 hi mbX2_isStepEnd_36 dX2_isStepEnd_27 ?_
  refine wa_icmp_lt hC 37 dX2_isStepEnd_30 (by decide) (fun c3 => ?_) (fun c3 => ?_)
  · have hf := ite_t hf c3
    refine wa_iconst (v := 0) hC dX2_isStepEnd_37 (by decide) ?_
    exact wa_zret hC hlk hr (congrArg b2 (so_inj hf)) rfl dX2_isStepEnd_38
  · have hf := ite_f hf c3
    refine wa_iconst (v := 1) hC dX2_isStepEnd_33 (by decide) ?_
    refine wa_goto hC 38 dX2_isStepEnd_34 (by decide) ?_
    exact wa_zret hC hlk hr (congrArg b2 (so_inj hf)) rfl dX2_isStepEnd_38
abbrev rmX2_steps : Room := { frames := 3, cells := 0, slots := 0, locals := 65 }
theorem fiX2_steps_2 : ∀ w ∈ u_ws RX2 TX2 7, w ∈ wsX2_steps := by decide +kernel
theorem fiX2_steps_5 : ∀ w ∈ u_ws RX5 TX5 3, w ∈ wsX2_steps := by decide +kernel
theorem mbX2_steps_14 : Cond.fieldLink RX2 14 "BaroRuns$State" "baseTrack" "LBaroRuns$Track;" ∈ wsX2_steps := by decide +kernel
set_option maxHeartbeats 4000000 in
set_option maxRecDepth 100000 in
theorem kX2_steps (l : Launch) (G : wG) {i : Nat} (hi : kd i = 2) {M0 : wM} {r : Int32} (hf : fX2_steps i M0 = some r) : mI l yX2_steps wsX2_steps rmX2_steps G [.ref (ga G (i))] M0 r M0 := by
  refine mI.of (cc := cX2_steps) (nL := 3) (ret := (some .int)) (own := RX2) (lv := [(0, .ref (ga G (i)))]) (plainFor_of_name (by decide +kernel)) rfl rfl (Nat.le_of_ble_eq_true rfl) rfl ?_
  intro p e s m args below meth c hC hr hlk
  have hB4 : ∀ (bk4 : Int32 → Int32 → Option Int32) (hbk4 : (∀ (x1 : Int32) (x2 : Int32), bk4 x1 x2 = some r → wAt p l e rmX2_steps s m args below meth c (qI below args s G r M0) 3 G M0 4 [(0, .ref (ga G (i))), (1, .int (x1)), (2, .int (x2))] [])) (x1 : Int32) (x2 : Int32), fX2_steps_B4 i M0 bk4 x1 x2 = some r → wAt p l e rmX2_steps s m args below meth c (qI below args s G r M0) 3 G M0 4 [(0, .ref (ga G (i))), (1, .int (x1)), (2, .int (x2))] [] := by
    intro bk4 hbk4 x1 x2 hf
    unfold fX2_steps_B4 at hf
    refine wa_iload_n hC dX2_steps_4 rfl 2 rfl ?_
    refine wa_aload_n hC dX2_steps_5 rfl 0 rfl ?_
    refine rg2_0 hC fiX2_steps_2 hi mbX2_steps_14 dX2_steps_6 ?_
    refine rgn5_2 hC fiX2_steps_5 (kf2_0 hi) (nwf_State_43 hC.2.2.2) dX2_steps_9 ?_
    refine wa_icmp_ge hC 37 dX2_steps_12 (by decide) (fun c1 => ?_) (fun c1 => ?_)
    · have hf := ite_t hf c1
      refine wa_iload_n hC dX2_steps_37 rfl 1 rfl ?_
      exact wa_iret hC hlk hr (so_inj hf) rfl dX2_steps_38
    · have hf := ite_f hf c1
      refine wa_iload_n hC dX2_steps_15 rfl 1 rfl ?_
      refine wa_aload_n hC dX2_steps_16 rfl 0 rfl ?_
      refine wa_iload_n hC dX2_steps_17 rfl 2 rfl ?_
      obtain ⟨v2, h2, hf⟩ := bd hf
      refine wa_calli (rest := [_]) (wr_V hC (kX2_isStepEnd l G hi h2) (cwV 1 hC.1.2.2.2.2 gX2_steps_X2_isStepEnd rfl rfl rfl (by decide +kernel) ⟨Nat.le_of_ble_eq_true rfl, Nat.le_of_ble_eq_true rfl⟩) hi (by decide) (ce2 hi) rfl rfl rfl rfl (Nat.le_of_ble_eq_true rfl) dX2_steps_18) ?_
      refine wa_if_eq hC 28 dX2_steps_21 (by decide) (fun c3 => ?_) (fun c3 => ?_)
      · have hf := ite_t hf c3
        refine wa_iconst (v := 0) hC dX2_steps_28 (by decide) ?_
        refine wa_iadd hC dX2_steps_29 ?_
        refine wa_istore_n (lv' := [(1, .int _), (0, .ref _), (2, .int _)]) hC dX2_steps_30 rfl (by decide) rfl ?_
        refine wa_iinc (v := _ + 1) (lv' := [(2, .int _), (1, .int _), (0, .ref _)]) hC dX2_steps_31 (t := 2) rfl rfl (by decide) rfl ?_
        refine wa_goto hC 4 dX2_steps_34 (by decide) ?_
        exact wa_sub [2, 1, 0] rfl (hbk4 _ _ hf)
      · have hf := ite_f hf c3
        refine wa_iconst (v := 1) hC dX2_steps_24 (by decide) ?_
        refine wa_goto hC 29 dX2_steps_25 (by decide) ?_
        refine wa_iadd hC dX2_steps_29 ?_
        refine wa_istore_n (lv' := [(1, .int _), (0, .ref _), (2, .int _)]) hC dX2_steps_30 rfl (by decide) rfl ?_
        refine wa_iinc (v := _ + 1) (lv' := [(2, .int _), (1, .int _), (0, .ref _)]) hC dX2_steps_31 (t := 2) rfl rfl (by decide) rfl ?_
        refine wa_goto hC 4 dX2_steps_34 (by decide) ?_
        exact wa_sub [2, 1, 0] rfl (hbk4 _ _ hf)
  have hL4 : ∀ (n : Nat) (x1 : Int32) (x2 : Int32), fX2_steps_L4 i M0  n x1 x2 = some r → wAt p l e rmX2_steps s m args below meth c (qI below args s G r M0) 3 G M0 4 [(0, .ref (ga G (i))), (1, .int (x1)), (2, .int (x2))] [] := by
    intro  n
    induction n with
    | zero =>
      intro x1 x2 hf
      exact absurd hf (by simp [fX2_steps_L4])
    | succ n ih =>
      intro x1 x2 hf
      exact hB4  (fX2_steps_L4 i M0  n) ih x1 x2 hf
  unfold fX2_steps at hf
  refine wa_iconst (v := 0) hC dX2_steps_0 (by decide) ?_
  refine wa_istore_n (lv' := [(1, .int _), (0, .ref _)]) hC dX2_steps_1 rfl (by decide) rfl ?_
  refine wa_iconst (v := 1) hC dX2_steps_2 (by decide) ?_
  refine wa_istore_n (lv' := [(2, .int _), (1, .int _), (0, .ref _)]) hC dX2_steps_3 rfl (by decide) rfl ?_
  exact wa_sub [2, 1, 0] rfl (hL4 FU _ _ hf)
abbrev rmX6_put : Room := { frames := 0, cells := 0, slots := 0, locals := 0 }
set_option maxHeartbeats 4000000 in
set_option maxRecDepth 100000 in
theorem kX6_put (l : Launch) (G : wG) {j0 : Nat} (hj0 : kd j0 = 20) {x1 : Int32} {x2 : Int32} {M0 M1 : wM} (hf : fX6_put j0 x1 x2 M0 = some M1) : mV l yX6_put wsX6_put rmX6_put G [.ref (ga G (j0)), .int (x1), .int (x2)] M0 M1 := by
  refine mV.of (cc := cX6_put) (nL := 3) (ret := none) (own := RX6) (lv := [(0, .ref (ga G (j0))), (1, .int (x1)), (2, .int (x2))]) (plainFor_of_name (by decide +kernel)) rfl rfl (Nat.le_of_ble_eq_true rfl) rfl ?_
  intro p e s m args below meth c hC hr hlk
  unfold fX6_put at hf
  refine wa_iload_n hC dX6_put_0 rfl 1 rfl ?_
  refine wa_if_lt hC 14 dX6_put_1 (by decide) (fun c1 => ?_) (fun c1 => ?_)
  · have hf := ite_t hf c1
    exact wa_vret hC hlk hr (so_inj hf) dX6_put_14
  · have hf := ite_f hf c1
    refine wa_iload_n hC dX6_put_4 rfl 1 rfl ?_
    refine wa_aload_n hC dX6_put_5 rfl 0 rfl ?_
    refine wa_alen hC hj0 dX6_put_6 ?_
    refine wa_icmp_ge hC 14 dX6_put_7 (by decide) (fun c2 => ?_) (fun c2 => ?_)
    · have hf := ite_t hf c2
      exact wa_vret hC hlk hr (so_inj hf) dX6_put_14
    · have hf := ite_f hf c2
      refine wa_aload_n hC dX6_put_10 rfl 0 rfl ?_
      refine wa_iload_n hC dX6_put_11 rfl 1 rfl ?_
      refine wa_iload_n hC dX6_put_12 rfl 2 rfl ?_
      obtain ⟨k3, h3, hf⟩ := bd hf
      obtain ⟨hv3, rfl⟩ := ix_some h3
      refine wa_iast hC hj0 hv3 rfl dX6_put_13 ?_
      exact wa_vret hC hlk hr (so_inj hf) dX6_put_14
abbrev rmX5_standsOut : Room := { frames := 2, cells := 0, slots := 0, locals := 43 }
theorem fiX5_standsOut_5 : ∀ w ∈ u_ws RX5 TX5 3, w ∈ wsX5_standsOut := by decide +kernel
theorem mbX5_standsOut_29 : Cond.fieldLink RX5 29 "BaroRuns$Track" "size" "I" ∈ wsX5_standsOut := by decide +kernel
set_option maxHeartbeats 4000000 in
set_option maxRecDepth 100000 in
theorem kX5_standsOut (l : Launch) (G : wG) {i : Nat} (hi : kd i = 5) {x1 : Int32} {x2 : Int32} {M0 : wM} {b : Bool} (hf : fX5_standsOut i x1 x2 M0 = some b) : mI l yX5_standsOut wsX5_standsOut rmX5_standsOut G [.ref (ga G (i)), .int (x1), .int (x2)] M0 (b2 b) M0 := by
  refine mI.of (cc := cX5_standsOut) (nL := 6) (ret := (some .boolean)) (own := RX5) (lv := [(0, .ref (ga G (i))), (1, .int (x1)), (2, .int (x2))]) (plainFor_of_name (by decide +kernel)) rfl rfl (Nat.le_of_ble_eq_true rfl) rfl ?_
  intro p e s m args below meth c hC hr hlk
  have hJ59 : ∀ (x4 : Int32) (x5 : Int32), fX5_standsOut_J59 i x1 x2 M0  x4 x5 = some b → wAt p l e rmX5_standsOut s m args below meth c (qI below args s G (b2 b) M0) 6 G M0 59 [(2, .int (x2)), (4, .int (x4)), (5, .int (x5))] [] := by
    intro  x4 x5 hf
    unfold fX5_standsOut_J59 at hf
    refine wa_iload hC dX5_standsOut_59 1 rfl ?_
    refine wa_iload_n hC dX5_standsOut_61 rfl 0 rfl ?_
    refine wa_ineg hC dX5_standsOut_62 ?_
    refine wa_icmp_ge hC 77 dX5_standsOut_63 (by decide) (fun c1 => ?_) (fun c1 => ?_)
    · have hf := ite_t hf c1
      refine wa_iconst (v := 0) hC dX5_standsOut_77 (by decide) ?_
      exact wa_zret hC hlk hr (congrArg b2 (so_inj hf)) rfl dX5_standsOut_78
    · have hf := ite_f hf c1
      refine wa_iload hC dX5_standsOut_66 2 rfl ?_
      refine wa_iload_n hC dX5_standsOut_68 rfl 0 rfl ?_
      refine wa_ineg hC dX5_standsOut_69 ?_
      refine wa_icmp_ge hC 77 dX5_standsOut_70 (by decide) (fun c2 => ?_) (fun c2 => ?_)
      · have hf := ite_t hf c2
        refine wa_iconst (v := 0) hC dX5_standsOut_77 (by decide) ?_
        exact wa_zret hC hlk hr (congrArg b2 (so_inj hf)) rfl dX5_standsOut_78
      · have hf := ite_f hf c2
        refine wa_iconst (v := 1) hC dX5_standsOut_73 (by decide) ?_
        refine wa_goto hC 78 dX5_standsOut_74 (by decide) ?_
        exact wa_zret hC hlk hr (congrArg b2 (so_inj hf)) rfl dX5_standsOut_78
  unfold fX5_standsOut at hf
  refine wa_iload_n hC dX5_standsOut_0 rfl 1 rfl ?_
  refine wa_if_le hC 14 dX5_standsOut_1 (by decide) (fun c3 => ?_) (fun c3 => ?_)
  · have hf := ite_t hf c3
    refine wa_iconst (v := 0) hC dX5_standsOut_14 (by decide) ?_
    exact wa_zret hC hlk hr (congrArg b2 (so_inj hf)) rfl dX5_standsOut_15
  · have hf := ite_f hf c3
    refine wa_iload_n hC dX5_standsOut_4 rfl 1 rfl ?_
    refine wa_aload_n hC dX5_standsOut_5 rfl 0 rfl ?_
    refine rg5_2 hC fiX5_standsOut_5 hi mbX5_standsOut_29 dX5_standsOut_6 ?_
    refine wa_iconst (v := 1) hC dX5_standsOut_9 (by decide) ?_
    refine wa_isub hC dX5_standsOut_10 ?_
    refine wa_icmp_lt hC 16 dX5_standsOut_11 (by decide) (fun c4 => ?_) (fun c4 => ?_)
    · have hf := ite_t hf c4
      refine wa_aload_n hC dX5_standsOut_16 rfl 0 rfl ?_
      refine wa_iload_n hC dX5_standsOut_17 rfl 1 rfl ?_
      refine wa_iconst (v := 1) hC dX5_standsOut_18 (by decide) ?_
      obtain ⟨v5, h5, hf⟩ := bd hf
      refine wa_calli (rest := []) (wr_V hC (kX5_value l G hi h5) (cwV 2 hC.1.2.2.2.2 gX5_standsOut_X5_value rfl rfl rfl (by decide +kernel) ⟨Nat.le_of_ble_eq_true rfl, Nat.le_of_ble_eq_true rfl⟩) hi (by decide) (ce5 hi) rfl rfl rfl rfl (Nat.le_of_ble_eq_true rfl) dX5_standsOut_19) ?_
      refine wa_istore_n (lv' := [(3, .int _), (0, .ref _), (1, .int _), (2, .int _)]) hC dX5_standsOut_22 rfl (by decide) rfl ?_
      refine wa_iload_n hC dX5_standsOut_23 rfl 0 rfl ?_
      refine wa_aload_n hC dX5_standsOut_24 rfl 1 rfl ?_
      refine wa_iload_n hC dX5_standsOut_25 rfl 2 rfl ?_
      refine wa_iconst (v := 1) hC dX5_standsOut_26 (by decide) ?_
      refine wa_isub hC dX5_standsOut_27 ?_
      refine wa_iconst (v := 1) hC dX5_standsOut_28 (by decide) ?_
      obtain ⟨v6, h6, hf⟩ := bd hf
      refine wa_calli (rest := [_]) (wr_V hC (kX5_value l G hi h6) (cwV 2 hC.1.2.2.2.2 gX5_standsOut_X5_value rfl rfl rfl (by decide +kernel) ⟨Nat.le_of_ble_eq_true rfl, Nat.le_of_ble_eq_true rfl⟩) hi (by decide) (ce5 hi) rfl rfl rfl rfl (Nat.le_of_ble_eq_true rfl) dX5_standsOut_29) ?_
      refine wa_isub hC dX5_standsOut_32 ?_
      refine wa_istore (lv' := [(4, .int _), (3, .int _), (0, .ref _), (1, .int _), (2, .int _)]) hC dX5_standsOut_33 (by decide) rfl ?_
      refine wa_iload_n hC dX5_standsOut_35 rfl 1 rfl ?_
      refine wa_aload_n hC dX5_standsOut_36 rfl 2 rfl ?_
      refine wa_iload_n hC dX5_standsOut_37 rfl 3 rfl ?_
      refine wa_iconst (v := 1) hC dX5_standsOut_38 (by decide) ?_
      refine wa_iadd hC dX5_standsOut_39 ?_
      refine wa_iconst (v := 1) hC dX5_standsOut_40 (by decide) ?_
      obtain ⟨v7, h7, hf⟩ := bd hf
      refine wa_calli (rest := [_]) (wr_V hC (kX5_value l G hi h7) (cwV 2 hC.1.2.2.2.2 gX5_standsOut_X5_value rfl rfl rfl (by decide +kernel) ⟨Nat.le_of_ble_eq_true rfl, Nat.le_of_ble_eq_true rfl⟩) hi (by decide) (ce5 hi) rfl rfl rfl rfl (Nat.le_of_ble_eq_true rfl) dX5_standsOut_41) ?_
      refine wa_isub hC dX5_standsOut_44 ?_
      refine wa_istore (lv' := [(5, .int _), (4, .int _), (3, .int _), (0, .ref _), (1, .int _), (2, .int _)]) hC dX5_standsOut_45 (by decide) rfl ?_
      refine wa_iload hC dX5_standsOut_47 1 rfl ?_
      refine wa_iload_n hC dX5_standsOut_49 rfl 5 rfl ?_
      refine wa_icmp_le hC 59 dX5_standsOut_50 (by decide) (fun c8 => ?_) (fun c8 => ?_)
      · have hf := ite_t hf c8
        exact wa_sub [5, 1, 0] rfl (hJ59  _ _ hf)
      · have hf := ite_f hf c8
        refine wa_iload hC dX5_standsOut_53 0 rfl ?_
        refine wa_iload_n hC dX5_standsOut_55 rfl 5 rfl ?_
        refine wa_icmp_gt hC 73 dX5_standsOut_56 (by decide) (fun c9 => ?_) (fun c9 => ?_)
        · have hf := ite_t hf c9
          refine wa_iconst (v := 1) hC dX5_standsOut_73 (by decide) ?_
          refine wa_goto hC 78 dX5_standsOut_74 (by decide) ?_
          exact wa_zret hC hlk hr (congrArg b2 (so_inj hf)) rfl dX5_standsOut_78
        · have hf := ite_f hf c9
          exact wa_sub [5, 1, 0] rfl (hJ59  _ _ hf)
    · have hf := ite_f hf c4
      refine wa_iconst (v := 0) hC dX5_standsOut_14 (by decide) ?_
      exact wa_zret hC hlk hr (congrArg b2 (so_inj hf)) rfl dX5_standsOut_15
abbrev rmX5_isFull : Room := { frames := 0, cells := 0, slots := 0, locals := 0 }
theorem fiX5_isFull_5 : ∀ w ∈ u_ws RX5 TX5 3, w ∈ wsX5_isFull := by decide +kernel
theorem mbX5_isFull_29 : Cond.fieldLink RX5 29 "BaroRuns$Track" "size" "I" ∈ wsX5_isFull := by decide +kernel
theorem mbX5_isFull_21 : Cond.fieldLink RX5 21 "BaroRuns$Track" "room" "I" ∈ wsX5_isFull := by decide +kernel
set_option maxHeartbeats 4000000 in
set_option maxRecDepth 100000 in
theorem kX5_isFull (l : Launch) (G : wG) {i : Nat} (hi : kd i = 5) {M0 : wM} {b : Bool} (hf : fX5_isFull i M0 = some b) : mI l yX5_isFull wsX5_isFull rmX5_isFull G [.ref (ga G (i))] M0 (b2 b) M0 := by
  refine mI.of (cc := cX5_isFull) (nL := 1) (ret := (some .boolean)) (own := RX5) (lv := [(0, .ref (ga G (i)))]) (plainFor_of_name (by decide +kernel)) rfl rfl (Nat.le_of_ble_eq_true rfl) rfl ?_
  intro p e s m args below meth c hC hr hlk
  unfold fX5_isFull at hf
  refine wa_aload_n hC dX5_isFull_0 rfl 0 rfl ?_
  refine rg5_2 hC fiX5_isFull_5 hi mbX5_isFull_29 dX5_isFull_1 ?_
  refine wa_aload_n hC dX5_isFull_4 rfl 0 rfl ?_
  refine rg5_1 hC fiX5_isFull_5 hi mbX5_isFull_21 dX5_isFull_5 ?_
  refine wa_icmp_lt hC 15 dX5_isFull_8 (by decide) (fun c1 => ?_) (fun c1 => ?_)
  · have hf := ite_t hf c1
    refine wa_iconst (v := 0) hC dX5_isFull_15 (by decide) ?_
    exact wa_zret hC hlk hr (congrArg b2 (so_inj hf)) rfl dX5_isFull_16
  · have hf := ite_f hf c1
    refine wa_iconst (v := 1) hC dX5_isFull_11 (by decide) ?_
    refine wa_goto hC 16 dX5_isFull_12 (by decide) ?_
    exact wa_zret hC hlk hr (congrArg b2 (so_inj hf)) rfl dX5_isFull_16
abbrev rmX5_hasTime : Room := { frames := 2, cells := 0, slots := 0, locals := 43 }
theorem fiX5_hasTime_5 : ∀ w ∈ u_ws RX5 TX5 3, w ∈ wsX5_hasTime := by decide +kernel
theorem mbX5_hasTime_29 : Cond.fieldLink RX5 29 "BaroRuns$Track" "size" "I" ∈ wsX5_hasTime := by decide +kernel
set_option maxHeartbeats 4000000 in
set_option maxRecDepth 100000 in
theorem kX5_hasTime (l : Launch) (G : wG) {i : Nat} (hi : kd i = 5) {x1 : Int32} {M0 : wM} {b : Bool} (hf : fX5_hasTime i x1 M0 = some b) : mI l yX5_hasTime wsX5_hasTime rmX5_hasTime G [.ref (ga G (i)), .int (x1)] M0 (b2 b) M0 := by
  refine mI.of (cc := cX5_hasTime) (nL := 3) (ret := (some .boolean)) (own := RX5) (lv := [(0, .ref (ga G (i))), (1, .int (x1))]) (plainFor_of_name (by decide +kernel)) rfl rfl (Nat.le_of_ble_eq_true rfl) rfl ?_
  intro p e s m args below meth c hC hr hlk
  have hB2 : ∀ (bk2 : Int32 → Option Bool) (hbk2 : (∀ (x2 : Int32), bk2 x2 = some b → wAt p l e rmX5_hasTime s m args below meth c (qI below args s G (b2 b) M0) 3 G M0 2 [(0, .ref (ga G (i))), (1, .int (x1)), (2, .int (x2))] [])) (x2 : Int32), fX5_hasTime_B2 i x1 M0 bk2 x2 = some b → wAt p l e rmX5_hasTime s m args below meth c (qI below args s G (b2 b) M0) 3 G M0 2 [(0, .ref (ga G (i))), (1, .int (x1)), (2, .int (x2))] [] := by
    intro bk2 hbk2 x2 hf
    unfold fX5_hasTime_B2 at hf
    refine wa_iload_n hC dX5_hasTime_2 rfl 2 rfl ?_
    refine wa_aload_n hC dX5_hasTime_3 rfl 0 rfl ?_
    refine rg5_2 hC fiX5_hasTime_5 hi mbX5_hasTime_29 dX5_hasTime_4 ?_
    refine wa_icmp_ge hC 28 dX5_hasTime_7 (by decide) (fun c1 => ?_) (fun c1 => ?_)
    · have hf := ite_t hf c1
      refine wa_iconst (v := 0) hC dX5_hasTime_28 (by decide) ?_
      exact wa_zret hC hlk hr (congrArg b2 (so_inj hf)) rfl dX5_hasTime_29
    · have hf := ite_f hf c1
      refine wa_aload_n hC dX5_hasTime_10 rfl 0 rfl ?_
      refine wa_iload_n hC dX5_hasTime_11 rfl 2 rfl ?_
      refine wa_iconst (v := 0) hC dX5_hasTime_12 (by decide) ?_
      obtain ⟨v2, h2, hf⟩ := bd hf
      refine wa_calli (rest := []) (wr_V hC (kX5_value l G hi h2) (cwV 2 hC.1.2.2.2.2 gX5_hasTime_X5_value rfl rfl rfl (by decide +kernel) ⟨Nat.le_of_ble_eq_true rfl, Nat.le_of_ble_eq_true rfl⟩) hi (by decide) (ce5 hi) rfl rfl rfl rfl (Nat.le_of_ble_eq_true rfl) dX5_hasTime_13) ?_
      refine wa_iload_n hC dX5_hasTime_16 rfl 1 rfl ?_
      refine wa_icmp_ne hC 22 dX5_hasTime_17 (by decide) (fun c3 => ?_) (fun c3 => ?_)
      · have hf := ite_f hf c3
        refine wa_iinc (v := _ + 1) (lv' := [(2, .int _), (0, .ref _), (1, .int _)]) hC dX5_hasTime_22 (t := 2) rfl rfl (by decide) rfl ?_
        refine wa_goto hC 2 dX5_hasTime_25 (by decide) ?_
        exact wa_sub [1, 2, 0] rfl (hbk2 _ hf)
      · have hf := ite_t hf c3
        refine wa_iconst (v := 1) hC dX5_hasTime_20 (by decide) ?_
        exact wa_zret hC hlk hr (congrArg b2 (so_inj hf)) rfl dX5_hasTime_21
  have hL2 : ∀ (n : Nat) (x2 : Int32), fX5_hasTime_L2 i x1 M0  n x2 = some b → wAt p l e rmX5_hasTime s m args below meth c (qI below args s G (b2 b) M0) 3 G M0 2 [(0, .ref (ga G (i))), (1, .int (x1)), (2, .int (x2))] [] := by
    intro  n
    induction n with
    | zero =>
      intro x2 hf
      exact absurd hf (by simp [fX5_hasTime_L2])
    | succ n ih =>
      intro x2 hf
      exact hB2  (fX5_hasTime_L2 i x1 M0  n) ih x2 hf
  unfold fX5_hasTime at hf
  refine wa_iconst (v := 0) hC dX5_hasTime_0 (by decide) ?_
  refine wa_istore_n (lv' := [(2, .int _), (0, .ref _), (1, .int _)]) hC dX5_hasTime_1 rfl (by decide) rfl ?_
  exact wa_sub [1, 2, 0] rfl (hL2 FU _ hf)
abbrev rmX5_move : Room := { frames := 2, cells := 0, slots := 0, locals := 43 }
theorem fiX5_move_5 : ∀ w ∈ u_ws RX5 TX5 3, w ∈ wsX5_move := by decide +kernel
theorem mbX5_move_9 : Cond.fieldLink RX5 9 "BaroRuns$Track" "values" "[I" ∈ wsX5_move := by decide +kernel
theorem mbX5_move_s39 : Cond.static yX6_put ∈ wsX5_move := by decide +kernel
theorem mbX5_move_i39 : Cond.initialized RX6 ∈ wsX5_move := by decide +kernel
set_option maxHeartbeats 4000000 in
set_option maxRecDepth 100000 in
theorem kX5_move (l : Launch) (G : wG) {i : Nat} (hi : kd i = 5) {x1 : Int32} {x2 : Int32} {M0 M1 : wM} (hf : fX5_move i x1 x2 M0 = some M1) : mV l yX5_move wsX5_move rmX5_move G [.ref (ga G (i)), .int (x1), .int (x2)] M0 M1 := by
  refine mV.of (cc := cX5_move) (nL := 4) (ret := none) (own := RX5) (lv := [(0, .ref (ga G (i))), (1, .int (x1)), (2, .int (x2))]) (plainFor_of_name (by decide +kernel)) rfl rfl (Nat.le_of_ble_eq_true rfl) rfl ?_
  intro p e s m args below meth c hC hr hlk
  have hB2 : ∀ (bk2 : Int32 → wM → Option wM) (hbk2 : (∀ (x3 : Int32) (M0 : wM), bk2 x3 M0 = some M1 → wAt p l e rmX5_move s m args below meth c (qV below args s G M1) 4 G M0 2 [(0, .ref (ga G (i))), (1, .int (x1)), (2, .int (x2)), (3, .int (x3))] [])) (x3 : Int32) (M0 : wM), fX5_move_B2 i x1 x2 bk2 x3 M0 = some M1 → wAt p l e rmX5_move s m args below meth c (qV below args s G M1) 4 G M0 2 [(0, .ref (ga G (i))), (1, .int (x1)), (2, .int (x2)), (3, .int (x3))] [] := by
    intro bk2 hbk2 x3 M0 hf
    unfold fX5_move_B2 at hf
    refine wa_iload_n hC dX5_move_2 rfl 3 rfl ?_
    refine wa_iconst (v := 4) hC dX5_move_3 (by decide) ?_
    refine wa_icmp_ge hC 31 dX5_move_4 (by decide) (fun c1 => ?_) (fun c1 => ?_)
    · have hf := ite_t hf c1
      exact wa_vret hC hlk hr (so_inj hf) dX5_move_31
    · have hf := ite_f hf c1
      refine wa_aload_n hC dX5_move_7 rfl 0 rfl ?_
      refine rg5_0 hC fiX5_move_5 hi mbX5_move_9 dX5_move_8 ?_
      refine wa_iload_n hC dX5_move_11 rfl 2 rfl ?_
      refine wa_iconst (v := 4) hC dX5_move_12 (by decide) ?_
      refine wa_imul hC dX5_move_13 ?_
      refine wa_iload_n hC dX5_move_14 rfl 3 rfl ?_
      refine wa_iadd hC dX5_move_15 ?_
      refine wa_aload_n hC dX5_move_16 rfl 0 rfl ?_
      refine wa_iload_n hC dX5_move_17 rfl 1 rfl ?_
      refine wa_iload_n hC dX5_move_18 rfl 3 rfl ?_
      obtain ⟨v2, h2, hf⟩ := bd hf
      refine wa_calli (rest := [_, _]) (wr_V hC (kX5_value l G hi h2) (cwV 2 hC.1.2.2.2.2 gX5_move_X5_value rfl rfl rfl (by decide +kernel) ⟨Nat.le_of_ble_eq_true rfl, Nat.le_of_ble_eq_true rfl⟩) hi (by decide) (ce5 hi) rfl rfl rfl rfl (Nat.le_of_ble_eq_true rfl) dX5_move_19) ?_
      obtain ⟨M3, h3, hf⟩ := bd hf
      refine wa_callv (rest := []) (wr_SN hC (kX6_put l G (kf5_0 hi) h3) ⟨va_cnB 3 hC.1.2.2.2.2 gX5_move_X6_put_n39 rfl rfl rfl (nwm_Track_39 hC.2.2.2) (hC.1.2.2.2.2 _ mbX5_move_i39) (by decide +kernel) ⟨Nat.le_of_ble_eq_true rfl, Nat.le_of_ble_eq_true rfl⟩, hC.1.2.2.2.2 _ mbX5_move_s39, trivial⟩ rfl rfl (Nat.le_of_ble_eq_true rfl) dX5_move_22) ?_
      refine wa_iinc (v := _ + 1) (lv' := [(3, .int _), (0, .ref _), (1, .int _), (2, .int _)]) hC dX5_move_25 (t := 3) rfl rfl (by decide) rfl ?_
      refine wa_goto hC 2 dX5_move_28 (by decide) ?_
      exact wa_sub [1, 2, 3, 0] rfl (hbk2 _ _ hf)
  have hL2 : ∀ (n : Nat) (x3 : Int32) (M0 : wM), fX5_move_L2 i x1 x2  n x3 M0 = some M1 → wAt p l e rmX5_move s m args below meth c (qV below args s G M1) 4 G M0 2 [(0, .ref (ga G (i))), (1, .int (x1)), (2, .int (x2)), (3, .int (x3))] [] := by
    intro  n
    induction n with
    | zero =>
      intro x3 M0 hf
      exact absurd hf (by simp [fX5_move_L2])
    | succ n ih =>
      intro x3 M0 hf
      exact hB2  (fX5_move_L2 i x1 x2  n) ih x3 M0 hf
  unfold fX5_move at hf
  refine wa_iconst (v := 0) hC dX5_move_0 (by decide) ?_
  refine wa_istore_n (lv' := [(3, .int _), (0, .ref _), (1, .int _), (2, .int _)]) hC dX5_move_1 rfl (by decide) rfl ?_
  exact wa_sub [1, 2, 3, 0] rfl (hL2 FU _ _ hf)
abbrev rmX5_insert : Room := { frames := 3, cells := 0, slots := 0, locals := 66 }
theorem fiX5_insert_5 : ∀ w ∈ u_ws RX5 TX5 3, w ∈ wsX5_insert := by decide +kernel
theorem mbX5_insert_9 : Cond.fieldLink RX5 9 "BaroRuns$Track" "values" "[I" ∈ wsX5_insert := by decide +kernel
theorem mbX5_insert_s39 : Cond.static yX6_put ∈ wsX5_insert := by decide +kernel
theorem mbX5_insert_i39 : Cond.initialized RX6 ∈ wsX5_insert := by decide +kernel
theorem mbX5_insert_29 : Cond.fieldLink RX5 29 "BaroRuns$Track" "size" "I" ∈ wsX5_insert := by decide +kernel
set_option maxHeartbeats 4000000 in
set_option maxRecDepth 100000 in
theorem kX5_insert (l : Launch) (G : wG) {i : Nat} (hi : kd i = 5) {x1 : Int32} {x2 : Int32} {x3 : Int32} {x4 : Int32} {M0 M1 : wM} {r : Int32} (hf : fX5_insert i x1 x2 x3 x4 M0 = some (r, M1)) : mI l yX5_insert wsX5_insert rmX5_insert G [.ref (ga G (i)), .int (x1), .int (x2), .int (x3), .int (x4)] M0 r M1 := by
  refine mI.of (cc := cX5_insert) (nL := 7) (ret := (some .int)) (own := RX5) (lv := [(0, .ref (ga G (i))), (1, .int (x1)), (2, .int (x2)), (3, .int (x3)), (4, .int (x4))]) (plainFor_of_name (by decide +kernel)) rfl rfl (Nat.le_of_ble_eq_true rfl) rfl ?_
  intro p e s m args below meth c hC hr hlk
  have hJ40 : ∀ (x5 : Int32) (M0 : wM), fX5_insert_J40 i x1 x2 x3 x4  x5 M0 = some (r, M1) → wAt p l e rmX5_insert s m args below meth c (qI below args s G r M1) 7 G M0 40 [(0, .ref (ga G (i))), (1, .int (x1)), (2, .int (x2)), (3, .int (x3)), (4, .int (x4)), (5, .int (x5))] [] := by
    intro  x5 M0 hf
    unfold fX5_insert_J40 at hf
    refine wa_iload hC dX5_insert_40 5 rfl ?_
    refine wa_iconst (v := 4) hC dX5_insert_42 (by decide) ?_
    refine wa_imul hC dX5_insert_43 ?_
    refine wa_istore (lv' := [(6, .int _), (0, .ref _), (1, .int _), (2, .int _), (3, .int _), (4, .int _), (5, .int _)]) hC dX5_insert_44 (by decide) rfl ?_
    refine wa_aload_n hC dX5_insert_46 rfl 1 rfl ?_
    refine rg5_0 hC fiX5_insert_5 hi mbX5_insert_9 dX5_insert_47 ?_
    refine wa_iload hC dX5_insert_50 0 rfl ?_
    refine wa_iconst (v := 0) hC dX5_insert_52 (by decide) ?_
    refine wa_iadd hC dX5_insert_53 ?_
    refine wa_iload_n hC dX5_insert_54 rfl 3 rfl ?_
    obtain ⟨M1, h1, hf⟩ := bd hf
    refine wa_callv (rest := []) (wr_SN hC (kX6_put l G (kf5_0 hi) h1) ⟨va_cnB 3 hC.1.2.2.2.2 gX5_insert_X6_put_n39 rfl rfl rfl (nwm_Track_39 hC.2.2.2) (hC.1.2.2.2.2 _ mbX5_insert_i39) (by decide +kernel) ⟨Nat.le_of_ble_eq_true rfl, Nat.le_of_ble_eq_true rfl⟩, hC.1.2.2.2.2 _ mbX5_insert_s39, trivial⟩ rfl rfl (Nat.le_of_ble_eq_true rfl) dX5_insert_55) ?_
    refine wa_aload_n hC dX5_insert_58 rfl 1 rfl ?_
    refine rg5_0 hC fiX5_insert_5 hi mbX5_insert_9 dX5_insert_59 ?_
    refine wa_iload hC dX5_insert_62 0 rfl ?_
    refine wa_iconst (v := 1) hC dX5_insert_64 (by decide) ?_
    refine wa_iadd hC dX5_insert_65 ?_
    refine wa_iload_n hC dX5_insert_66 rfl 4 rfl ?_
    obtain ⟨M2, h2, hf⟩ := bd hf
    refine wa_callv (rest := []) (wr_SN hC (kX6_put l G (kf5_0 hi) h2) ⟨va_cnB 3 hC.1.2.2.2.2 gX5_insert_X6_put_n39 rfl rfl rfl (nwm_Track_39 hC.2.2.2) (hC.1.2.2.2.2 _ mbX5_insert_i39) (by decide +kernel) ⟨Nat.le_of_ble_eq_true rfl, Nat.le_of_ble_eq_true rfl⟩, hC.1.2.2.2.2 _ mbX5_insert_s39, trivial⟩ rfl rfl (Nat.le_of_ble_eq_true rfl) dX5_insert_67) ?_
    refine wa_aload_n hC dX5_insert_70 rfl 1 rfl ?_
    refine rg5_0 hC fiX5_insert_5 hi mbX5_insert_9 dX5_insert_71 ?_
    refine wa_iload hC dX5_insert_74 0 rfl ?_
    refine wa_iconst (v := 2) hC dX5_insert_76 (by decide) ?_
    refine wa_iadd hC dX5_insert_77 ?_
    refine wa_iload hC dX5_insert_78 5 rfl ?_
    obtain ⟨M3, h3, hf⟩ := bd hf
    refine wa_callv (rest := []) (wr_SN hC (kX6_put l G (kf5_0 hi) h3) ⟨va_cnB 3 hC.1.2.2.2.2 gX5_insert_X6_put_n39 rfl rfl rfl (nwm_Track_39 hC.2.2.2) (hC.1.2.2.2.2 _ mbX5_insert_i39) (by decide +kernel) ⟨Nat.le_of_ble_eq_true rfl, Nat.le_of_ble_eq_true rfl⟩, hC.1.2.2.2.2 _ mbX5_insert_s39, trivial⟩ rfl rfl (Nat.le_of_ble_eq_true rfl) dX5_insert_80) ?_
    refine wa_aload_n hC dX5_insert_83 rfl 1 rfl ?_
    refine rg5_0 hC fiX5_insert_5 hi mbX5_insert_9 dX5_insert_84 ?_
    refine wa_iload hC dX5_insert_87 0 rfl ?_
    refine wa_iconst (v := 3) hC dX5_insert_89 (by decide) ?_
    refine wa_iadd hC dX5_insert_90 ?_
    refine wa_iload_n hC dX5_insert_91 rfl 2 rfl ?_
    obtain ⟨M4, h4, hf⟩ := bd hf
    refine wa_callv (rest := []) (wr_SN hC (kX6_put l G (kf5_0 hi) h4) ⟨va_cnB 3 hC.1.2.2.2.2 gX5_insert_X6_put_n39 rfl rfl rfl (nwm_Track_39 hC.2.2.2) (hC.1.2.2.2.2 _ mbX5_insert_i39) (by decide +kernel) ⟨Nat.le_of_ble_eq_true rfl, Nat.le_of_ble_eq_true rfl⟩, hC.1.2.2.2.2 _ mbX5_insert_s39, trivial⟩ rfl rfl (Nat.le_of_ble_eq_true rfl) dX5_insert_92) ?_
    refine wa_aload_n hC dX5_insert_95 rfl 1 rfl ?_
    refine wa_dup hC dX5_insert_96 rfl ?_
    refine rg5_2 hC fiX5_insert_5 hi mbX5_insert_29 dX5_insert_97 ?_
    refine wa_iconst (v := 1) hC dX5_insert_100 (by decide) ?_
    refine wa_iadd hC dX5_insert_101 ?_
    refine rp5_2 hC fiX5_insert_5 hi mbX5_insert_29 dX5_insert_102 ?_
    refine wa_iload hC dX5_insert_105 6 rfl ?_
    exact wa_iret hC hlk hr (congrArg Prod.fst (so_inj hf)) (congrArg Prod.snd (so_inj hf)) dX5_insert_107
  have hB6 : ∀ (bk6 : Int32 → wM → Option (Int32 × wM)) (hbk6 : (∀ (x5 : Int32) (M0 : wM), bk6 x5 M0 = some (r, M1) → wAt p l e rmX5_insert s m args below meth c (qI below args s G r M1) 7 G M0 6 [(0, .ref (ga G (i))), (1, .int (x1)), (2, .int (x2)), (3, .int (x3)), (4, .int (x4)), (5, .int (x5))] [])) (x5 : Int32) (M0 : wM), fX5_insert_B6 i x1 x2 x3 x4 bk6 x5 M0 = some (r, M1) → wAt p l e rmX5_insert s m args below meth c (qI below args s G r M1) 7 G M0 6 [(0, .ref (ga G (i))), (1, .int (x1)), (2, .int (x2)), (3, .int (x3)), (4, .int (x4)), (5, .int (x5))] [] := by
    intro bk6 hbk6 x5 M0 hf
    unfold fX5_insert_B6 at hf
    refine wa_iload hC dX5_insert_6 5 rfl ?_
    refine wa_if_le hC 40 dX5_insert_8 (by decide) (fun c5 => ?_) (fun c5 => ?_)
    · have hf := ite_t hf c5
      exact wa_sub [0, 1, 2, 3, 4, 5] rfl (hJ40  _ _ hf)
    · have hf := ite_f hf c5
      refine wa_aload_n hC dX5_insert_11 rfl 0 rfl ?_
      refine wa_iload hC dX5_insert_12 5 rfl ?_
      refine wa_iconst (v := 1) hC dX5_insert_14 (by decide) ?_
      refine wa_isub hC dX5_insert_15 ?_
      refine wa_iconst (v := 0) hC dX5_insert_16 (by decide) ?_
      obtain ⟨v6, h6, hf⟩ := bd hf
      refine wa_calli (rest := []) (wr_V hC (kX5_value l G hi h6) (cwV 2 hC.1.2.2.2.2 gX5_insert_X5_value rfl rfl rfl (by decide +kernel) ⟨Nat.le_of_ble_eq_true rfl, Nat.le_of_ble_eq_true rfl⟩) hi (by decide) (ce5 hi) rfl rfl rfl rfl (Nat.le_of_ble_eq_true rfl) dX5_insert_17) ?_
      refine wa_iload_n hC dX5_insert_20 rfl 2 rfl ?_
      refine wa_icmp_le hC 40 dX5_insert_21 (by decide) (fun c7 => ?_) (fun c7 => ?_)
      · have hf := ite_t hf c7
        exact wa_sub [0, 1, 2, 3, 4, 5] rfl (hJ40  _ _ hf)
      · have hf := ite_f hf c7
        refine wa_aload_n hC dX5_insert_24 rfl 0 rfl ?_
        refine wa_iload hC dX5_insert_25 5 rfl ?_
        refine wa_iconst (v := 1) hC dX5_insert_27 (by decide) ?_
        refine wa_isub hC dX5_insert_28 ?_
        refine wa_iload hC dX5_insert_29 5 rfl ?_
        obtain ⟨M8, h8, hf⟩ := bd hf
        refine wa_callv (rest := []) (wr_V hC (kX5_move l G hi h8) (cwV 2 hC.1.2.2.2.2 gX5_insert_X5_move rfl rfl rfl (by decide +kernel) ⟨Nat.le_of_ble_eq_true rfl, Nat.le_of_ble_eq_true rfl⟩) hi (by decide) (ce5 hi) rfl rfl rfl rfl (Nat.le_of_ble_eq_true rfl) dX5_insert_31) ?_
        refine wa_iinc (v := _ + -1) (lv' := [(5, .int _), (0, .ref _), (1, .int _), (2, .int _), (3, .int _), (4, .int _)]) hC dX5_insert_34 (t := 5) rfl rfl (by decide) rfl ?_
        refine wa_goto hC 6 dX5_insert_37 (by decide) ?_
        exact wa_sub [1, 2, 3, 4, 5, 0] rfl (hbk6 _ _ hf)
  have hL6 : ∀ (n : Nat) (x5 : Int32) (M0 : wM), fX5_insert_L6 i x1 x2 x3 x4  n x5 M0 = some (r, M1) → wAt p l e rmX5_insert s m args below meth c (qI below args s G r M1) 7 G M0 6 [(0, .ref (ga G (i))), (1, .int (x1)), (2, .int (x2)), (3, .int (x3)), (4, .int (x4)), (5, .int (x5))] [] := by
    intro  n
    induction n with
    | zero =>
      intro x5 M0 hf
      exact absurd hf (by simp [fX5_insert_L6])
    | succ n ih =>
      intro x5 M0 hf
      exact hB6  (fX5_insert_L6 i x1 x2 x3 x4  n) ih x5 M0 hf
  unfold fX5_insert at hf
  refine wa_aload_n hC dX5_insert_0 rfl 0 rfl ?_
  refine rg5_2 hC fiX5_insert_5 hi mbX5_insert_29 dX5_insert_1 ?_
  refine wa_istore (lv' := [(5, .int _), (0, .ref _), (1, .int _), (2, .int _), (3, .int _), (4, .int _)]) hC dX5_insert_4 (by decide) rfl ?_
  exact wa_sub [1, 2, 3, 4, 5, 0] rfl (hL6 FU _ _ hf)
abbrev rmX5_remove : Room := { frames := 3, cells := 0, slots := 0, locals := 66 }
theorem fiX5_remove_5 : ∀ w ∈ u_ws RX5 TX5 3, w ∈ wsX5_remove := by decide +kernel
theorem mbX5_remove_29 : Cond.fieldLink RX5 29 "BaroRuns$Track" "size" "I" ∈ wsX5_remove := by decide +kernel
set_option maxHeartbeats 4000000 in
set_option maxRecDepth 100000 in
theorem kX5_remove (l : Launch) (G : wG) {i : Nat} (hi : kd i = 5) {x1 : Int32} {M0 M1 : wM} (hf : fX5_remove i x1 M0 = some M1) : mV l yX5_remove wsX5_remove rmX5_remove G [.ref (ga G (i)), .int (x1)] M0 M1 := by
  refine mV.of (cc := cX5_remove) (nL := 3) (ret := none) (own := RX5) (lv := [(0, .ref (ga G (i))), (1, .int (x1))]) (plainFor_of_name (by decide +kernel)) rfl rfl (Nat.le_of_ble_eq_true rfl) rfl ?_
  intro p e s m args below meth c hC hr hlk
  have hB4 : ∀ (bk4 : Int32 → wM → Option wM) (hbk4 : (∀ (x2 : Int32) (M0 : wM), bk4 x2 M0 = some M1 → wAt p l e rmX5_remove s m args below meth c (qV below args s G M1) 3 G M0 4 [(0, .ref (ga G (i))), (2, .int (x2))] [])) (x2 : Int32) (M0 : wM), fX5_remove_B4 i x1 bk4 x2 M0 = some M1 → wAt p l e rmX5_remove s m args below meth c (qV below args s G M1) 3 G M0 4 [(0, .ref (ga G (i))), (2, .int (x2))] [] := by
    intro bk4 hbk4 x2 M0 hf
    unfold fX5_remove_B4 at hf
    refine wa_iload_n hC dX5_remove_4 rfl 1 rfl ?_
    refine wa_aload_n hC dX5_remove_5 rfl 0 rfl ?_
    refine rg5_2 hC fiX5_remove_5 hi mbX5_remove_29 dX5_remove_6 ?_
    refine wa_icmp_ge hC 26 dX5_remove_9 (by decide) (fun c1 => ?_) (fun c1 => ?_)
    · have hf := ite_t hf c1
      refine wa_aload_n hC dX5_remove_26 rfl 0 rfl ?_
      refine wa_dup hC dX5_remove_27 rfl ?_
      refine rg5_2 hC fiX5_remove_5 hi mbX5_remove_29 dX5_remove_28 ?_
      refine wa_iconst (v := 1) hC dX5_remove_31 (by decide) ?_
      refine wa_isub hC dX5_remove_32 ?_
      refine rp5_2 hC fiX5_remove_5 hi mbX5_remove_29 dX5_remove_33 ?_
      exact wa_vret hC hlk hr (so_inj hf) dX5_remove_36
    · have hf := ite_f hf c1
      refine wa_aload_n hC dX5_remove_12 rfl 0 rfl ?_
      refine wa_iload_n hC dX5_remove_13 rfl 1 rfl ?_
      refine wa_iload_n hC dX5_remove_14 rfl 1 rfl ?_
      refine wa_iconst (v := 1) hC dX5_remove_15 (by decide) ?_
      refine wa_isub hC dX5_remove_16 ?_
      obtain ⟨M2, h2, hf⟩ := bd hf
      refine wa_callv (rest := []) (wr_V hC (kX5_move l G hi h2) (cwV 2 hC.1.2.2.2.2 gX5_remove_X5_move rfl rfl rfl (by decide +kernel) ⟨Nat.le_of_ble_eq_true rfl, Nat.le_of_ble_eq_true rfl⟩) hi (by decide) (ce5 hi) rfl rfl rfl rfl (Nat.le_of_ble_eq_true rfl) dX5_remove_17) ?_
      refine wa_iinc (v := _ + 1) (lv' := [(2, .int _), (0, .ref _)]) hC dX5_remove_20 (t := 1) rfl rfl (by decide) rfl ?_
      refine wa_goto hC 4 dX5_remove_23 (by decide) ?_
      exact wa_sub [1, 0] rfl (hbk4 _ _ hf)
  have hL4 : ∀ (n : Nat) (x2 : Int32) (M0 : wM), fX5_remove_L4 i x1  n x2 M0 = some M1 → wAt p l e rmX5_remove s m args below meth c (qV below args s G M1) 3 G M0 4 [(0, .ref (ga G (i))), (2, .int (x2))] [] := by
    intro  n
    induction n with
    | zero =>
      intro x2 M0 hf
      exact absurd hf (by simp [fX5_remove_L4])
    | succ n ih =>
      intro x2 M0 hf
      exact hB4  (fX5_remove_L4 i x1  n) ih x2 M0 hf
  unfold fX5_remove at hf
  refine wa_iload_n hC dX5_remove_0 rfl 1 rfl ?_
  refine wa_iconst (v := 1) hC dX5_remove_1 (by decide) ?_
  refine wa_iadd hC dX5_remove_2 ?_
  refine wa_istore_n (lv' := [(2, .int _), (0, .ref _), (1, .int _)]) hC dX5_remove_3 rfl (by decide) rfl ?_
  exact wa_sub [1, 0] rfl (hL4 FU _ _ hf)
